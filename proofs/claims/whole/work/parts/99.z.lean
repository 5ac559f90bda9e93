/-! what the class changes leaves the reference alone -/
def CF (c c' : ab_C) : Prop := ∀ s i k, (s < 2 ∨ 41 ≤ s) → s ≠ 61 → c' s i k = c s i k
theorem CF.refl {c : ab_C} : CF c c := fun _ _ _ _ _ => rfl
theorem CF.trans {a b c : ab_C} (h : CF a b) (h' : CF b c) : CF a c := fun s i k hs h6 => (h' s i k hs h6).trans (h s i k hs h6)
theorem CF.u {a c : ab_C} {s i k : Nat} {v : Int32} (h : CF a c) (hs : (2 ≤ s ∧ s < 41) ∨ s = 61) : CF a (u3 c s i k v) := fun t j q ht h6 => by
  rw [u3_ap, if_neg (by omega)]
  exact h t j q ht h6
theorem CF.fo {a c : ab_C} {f : Nat → ab_C → ab_C} (h : CF a c) (hf : ∀ i x, CF a x → CF a (f i x)) : ∀ n, CF a (fo f c n) := by
  intro n
  induction n with
  | zero => exact h
  | succ n ih => exact hf n _ ih
theorem rc_CF {m : ab_M} {c : ab_C} (h : CF (mi m) c) : rc (wI m c) = rc m := by
  funext s i k
  unfold rc
  cases h9 : lc s i k with
  | none => rfl
  | some x =>
    have := (lc_gb h9).2
    exact h x.1 x.2.1 x.2.2 (by omega) (by omega)
theorem cf_heir {c : ab_C} {x p : Int32} : CF c (kHeir c x p).2.2 := by
  unfold kHeir
  repeat' split
  all_goals (repeat (first | exact CF.refl | refine CF.u ?_ (by omega)))
theorem cf_lend {c : ab_C} {u p : Int32} : CF c (kLend c u p).2.2 := by
  unfold kLend
  repeat' split
  all_goals (repeat (first | exact CF.refl | refine CF.u ?_ (by omega)))
theorem cf_mend {c : ab_C} {u b : Int32} : CF c (kMend c u b).2.2 := by
  unfold kMend cJoin
  repeat' split
  all_goals (repeat (first | exact CF.refl | refine CF.u ?_ (by omega)))
theorem cf_copy {c : ab_C} {p s : Int32} : CF c (kCopy c p s).2.2 := by
  unfold kCopy
  repeat' split
  all_goals (repeat (first | exact CF.refl | refine CF.u ?_ (by omega)))
theorem cf_read {c : ab_C} {p s : Int32} : CF c (kRead c p s).2.2 := by
  unfold kRead cRead
  repeat' split
  all_goals (repeat (first | exact CF.refl | refine CF.u ?_ (by omega)))
theorem cf_rebuild {c : ab_C} {p s : Int32} : CF c (kReb c p s).2.2 := by
  unfold kReb cRebuild cRead
  repeat' split
  all_goals (repeat (first | exact CF.refl | refine CF.u ?_ (by omega)))
theorem cf_adopt {c : ab_C} {p t b : Int32} : CF c (kAdopt c p t b).2.2 := by
  unfold kAdopt
  repeat' split
  all_goals (repeat (first | exact CF.refl | refine CF.u ?_ (by omega)))
theorem cf_quarrel {c : ab_C} {p q b : Int32} : CF c (kQua c p q b).2.2 := by
  unfold kQua cFoe
  repeat' split
  all_goals (repeat (first | exact CF.refl | refine CF.u ?_ (by omega)))
