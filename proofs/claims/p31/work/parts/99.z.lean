/-! what the class changes leaves the reference alone -/
def CF (c c' : ab_C) : Prop := ∀ s i k, (s < 2 ∨ 41 ≤ s) → s ≠ 61 → c' s i k = c s i k
theorem CF.refl {c : ab_C} : CF c c := fun _ _ _ _ _ => rfl
theorem CF.trans {a b c : ab_C} (h : CF a b) (h' : CF b c) : CF a c := fun s i k hs h6 => (h' s i k hs h6).trans (h s i k hs h6)
theorem CF.u {a c : ab_C} {s i k : Nat} {v : Int32} (h : CF a c) (hs : (2 ≤ s ∧ s < 41) ∨ s = 61) : CF a (u3 c s i k v) := fun t j q ht h6 => by
  rw [u3_ap, if_neg (by omega)]
  exact h t j q ht h6
theorem CF.fo {a c : ab_C} {f : Nat → ab_C → ab_C} (h : CF a c) (hf : ∀ i x, CF a x → CF a (f i x)) : ∀ n, CF a (fo f c n) := by
  intro n
  induction n with
  | zero => exact h
  | succ n ih => exact hf n _ ih
