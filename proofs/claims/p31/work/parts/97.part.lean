/-! a house more; parting; a secret more -/
theorem u3_in {c : ab_C} {s i k : Nat} {v : Int32} : u3 c s i k v s i k = v := if_pos ⟨rfl, rfl, rfl⟩
def EQ0 (c r : ab_C) : Prop := ∀ s, eqS s = true → c s 0 = r s 0
theorem EQ0_u {c r : ab_C} {s i k : Nat} {v : Int32} (h : EQ0 c r) : EQ0 (u3 c s i k v) (u3 r s i k v) := fun t ht => by
  funext q
  rw [u3_ap, u3_ap]
  split
  · rfl
  · exact congrFun (h t ht) q
theorem zr_id {c : ab_C} {S n : Nat} (h : ∀ s i k b d, lci S b d = some (s, i, k) → b = n → c s i k = 0) : zr c S n = c := by
  funext s i k
  unfold zr
  cases h9 : lc s i k with
  | none => rfl
  | some x =>
    show (if x.1 = S ∧ x.2.1 = n then 0 else c s i k) = c s i k
    split
    · next e =>
      have := lc_lci h9
      rw [e.1] at this
      exact (h s i k _ _ this e.2).symm
    · rfl
def addH (c : ab_C) (p : Int32) (k : Nat) : ab_C := u3 (u3 (u3 c 3 0 k p) 4 0 k (-1)) 36 0 0 (nN (k + 1))
theorem addH_e {c : ab_C} {p : Int32} {k s i q : Nat} (h3 : s ≠ 3) (h4 : s ≠ 4) (h36 : s ≠ 36) : addH c p k s i q = c s i q := by
  unfold addH
  rw [u3_ap, if_neg (fun z => h36 z.1), u3_ap, if_neg (fun z => h4 z.1), u3_ap, if_neg (fun z => h3 z.1)]
theorem addH_3 {c : ab_C} {p : Int32} {k q : Nat} : addH c p k 3 0 q = if q = k then p else c 3 0 q := by
  unfold addH
  rw [u3_ap, if_neg (by omega), u3_ap, if_neg (by omega), u3_ap]
  by_cases e : q = k
  · rw [if_pos ⟨rfl, rfl, e⟩, if_pos e]
  · rw [if_neg (fun z => e z.2.2), if_neg e]
theorem addH_4 {c : ab_C} {p : Int32} {k q : Nat} : addH c p k 4 0 q = if q = k then -1 else c 4 0 q := by
  unfold addH
  rw [u3_ap, if_neg (by omega), u3_ap]
  by_cases e : q = k
  · rw [if_pos ⟨rfl, rfl, e⟩, if_pos e]
  · rw [if_neg (fun z => e z.2.2), if_neg e, u3_ap, if_neg (by omega)]
