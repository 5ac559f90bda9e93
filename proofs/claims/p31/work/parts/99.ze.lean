/-! the law: what holds between its calls -/
def LIv (L : Nat) (xs : Nat → Int32) (n : Nat) (m : ab_M) : Prop := CR m ∧ ST n (mi m) (rc m) ∧ RW m ∧ (mn m 0 0 = L ∧ ∀ j, mi m 0 0 j = xs j) ∧ (mn m 63 0 = 1 ∧ mn m 64 0 = 1) ∧ mnc m ≤ 300 + 600 * n ∧ mns m ≤ 2000 + 6000 * n
theorem LIv.up {L n : Nat} {xs : Nat → Int32} {m : ab_M} (h : LIv L xs n m) : LIv L xs (n + 1) m := ⟨h.1, h.2.1.up (Nat.le_succ n), h.2.2.1, h.2.2.2.1, h.2.2.2.2.1, by have := h.2.2.2.2.2.1; omega, by have := h.2.2.2.2.2.2; omega⟩
/-! indices of the script -/
