/-! a secret more, a utensil more -/
theorem u3_2 {c : ab_C} {s m : Nat} {v : Int32} {q : Nat} : u3 c s 0 m v s 0 q = if q = m then v else c s 0 q := by
  rw [u3_ap]
  by_cases e : q = m
  · rw [if_pos ⟨rfl, rfl, e⟩, if_pos e]
  · rw [if_neg (fun z => e z.2.2), if_neg e]
theorem u3_o {c : ab_C} {s i k a b q : Nat} {v : Int32} (h : a ≠ s) : u3 c s i k v a b q = c a b q := if_neg (fun z => h z.1)
