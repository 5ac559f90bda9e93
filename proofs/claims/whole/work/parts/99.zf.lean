/-! the law: calls that throw change nothing -/
theorem cf_ofPerson {c : ab_C} {p w : Int32} : CF c (kOfP c p w).2.2 := by
  unfold kOfP
  repeat' apply cf_ite
  all_goals exact CF.refl
theorem cf_giver {c : ab_C} {p s b : Int32} : CF c (kGiver c p s b).2.2 := by
  unfold kGiver
  repeat' apply cf_ite
  all_goals exact CF.refl
theorem cf_ofHouse {c : ab_C} {p w : Int32} : CF c (kOfH c p w).2.2 := by
  unfold kOfH
  repeat' apply cf_ite
  all_goals exact CF.refl
theorem cf_ofSecret {c : ab_C} {p w : Int32} : CF c (kOfS c p w).2.2 := by
  unfold kOfS
  repeat' apply cf_ite
  all_goals exact CF.refl
theorem cf_ofUtensil {c : ab_C} {p w : Int32} : CF c (kOfU c p w).2.2 := by
  unfold kOfU
  repeat' apply cf_ite
  all_goals exact CF.refl
theorem cf_many {c : ab_C} {w : Int32} : CF c (kMany c w).2.2 := by
  unfold kMany
  repeat' apply cf_ite
  all_goals exact CF.refl
theorem cf_wouldLose {c : ab_C} {p : Int32} : CF c (kWL c p).2.2 := by
  unfold kWL
  repeat' apply cf_ite
  all_goals exact CF.refl
theorem ec_person {c : ab_C} {t k : Int32} : ECc c (kPer c t k) := by
  unfold kPer
  repeat (first | apply ec_ite | exact ec_0 | exact ec_e)
theorem ec_kG {c : ab_C} {p : Int32} : ECc c (kG c p) := by
  unfold kG
  exact ec_ite ec_e ec_0
theorem ec_give {c : ab_C} {p : Int32} : ECc c (kGive c p) := by
  unfold kGive
  repeat (first | apply ec_ite | exact ec_0 | exact ec_e | exact ec_kG)
theorem ec_revoke {c : ab_C} {p s : Int32} : ECc c (kRev c p s) := by
  unfold kRev
  repeat (first | apply ec_ite | exact ec_0 | exact ec_e)
theorem ec_die {c : ab_C} {p : Int32} : ECc c (kDie c p) := by
  unfold kDie
  repeat (first | apply ec_ite | exact ec_0 | exact ec_e)
theorem ec_adopt {c : ab_C} {p t b : Int32} : ECc c (kAdopt c p t b) := by
  unfold kAdopt
  repeat (first | apply ec_ite | exact ec_0 | exact ec_e)
theorem ec_heir {c : ab_C} {x p : Int32} : ECc c (kHeir c x p) := by
  unfold kHeir
  repeat (first | apply ec_ite | exact ec_0 | exact ec_e)
theorem ec_part {c : ab_C} {p : Int32} : ECc c (kPart c p) := by
  unfold kPart
  repeat (first | apply ec_ite | exact ec_0 | exact ec_e)
theorem ec_pass {c : ab_C} {d : Int32} : ECc c (kPass c d) := by
  unfold kPass
  repeat (first | apply ec_ite | exact ec_0 | exact ec_e)
theorem ec_secret {c : ab_C} {p s k : Int32} : ECc c (kSec c p s k) := by
  unfold kSec
  repeat (first | apply ec_ite | exact ec_0 | exact ec_e)
theorem ec_read {c : ab_C} {p s : Int32} : ECc c (kRead c p s) := by
  unfold kRead
  repeat (first | apply ec_ite | exact ec_0 | exact ec_e)
theorem ec_copy {c : ab_C} {p s : Int32} : ECc c (kCopy c p s) := by
  unfold kCopy
  repeat (first | apply ec_ite | exact ec_0 | exact ec_e)
theorem ec_rebuild {c : ab_C} {p s : Int32} : ECc c (kReb c p s) := by
  unfold kReb
  repeat (first | apply ec_ite | exact ec_0 | exact ec_e)
theorem ec_utensil {c : ab_C} {p k s t q : Int32} : ECc c (kUte c p k s t q) := by
  unfold kUte
  repeat (first | apply ec_ite | exact ec_0 | exact ec_e)
theorem ec_lend {c : ab_C} {u p : Int32} : ECc c (kLend c u p) := by
  unfold kLend
  repeat (first | apply ec_ite | exact ec_0 | exact ec_e)
theorem ec_mend {c : ab_C} {u b : Int32} : ECc c (kMend c u b) := by
  unfold kMend
  repeat (first | apply ec_ite | exact ec_0 | exact ec_e)
theorem ec_quarrel {c : ab_C} {p q b : Int32} : ECc c (kQua c p q b) := by
  unfold kQua
  repeat (first | apply ec_ite | exact ec_0 | exact ec_e)
theorem ec_hold {c : ab_C} {x g : Int32} : ECc c (kHold c x g) := by
  unfold kHold
  repeat (first | apply ec_ite | exact ec_0 | exact ec_e)
theorem ec_ofPerson {c : ab_C} {p w : Int32} : ECc c (kOfP c p w) := by
  unfold kOfP
  repeat (first | apply ec_ite | exact ec_0 | exact ec_e)
theorem ec_giver {c : ab_C} {p s b : Int32} : ECc c (kGiver c p s b) := by
  unfold kGiver
  repeat (first | apply ec_ite | exact ec_0 | exact ec_e)
theorem ec_ofHouse {c : ab_C} {p w : Int32} : ECc c (kOfH c p w) := by
  unfold kOfH
  repeat (first | apply ec_ite | exact ec_0 | exact ec_e)
theorem ec_ofSecret {c : ab_C} {p w : Int32} : ECc c (kOfS c p w) := by
  unfold kOfS
  repeat (first | apply ec_ite | exact ec_0 | exact ec_e)
theorem ec_ofUtensil {c : ab_C} {p w : Int32} : ECc c (kOfU c p w) := by
  unfold kOfU
  repeat (first | apply ec_ite | exact ec_0 | exact ec_e)
theorem ec_many {c : ab_C} {w : Int32} : ECc c (kMany c w) := by
  unfold kMany
  repeat (first | apply ec_ite | exact ec_0 | exact ec_e)
theorem ec_plan {c : ab_C} {x g w : Int32} : ECc c (kPlan c x g w) := by
  unfold kPlan
  repeat (first | apply ec_ite | exact ec_0 | exact ec_e)
theorem ec_wouldFall {c : ab_C} {p s : Int32} : ECc c (kWF c p s) := by
  unfold kWF
  repeat (first | apply ec_ite | exact ec_0 | exact ec_e)
theorem ec_wouldLose {c : ab_C} {p : Int32} : ECc c (kWL c p) := by
  unfold kWL
  repeat (first | apply ec_ite | exact ec_0 | exact ec_e)
theorem LIv.hN {L n : Nat} {xs : Nat → Int32} {m : ab_M} (h : LIv L xs n m) : nh (mi m) < 4 ∨ ¬ mi m 35 0 0 = 0 := by
  by_cases z : mi m 35 0 0 = 0
  · left
    have e : np (rc m) = 0 := by
      have e1 : rc m 35 0 0 = 0 := by rw [← h.2.1.1.c35]; exact z
      unfold np
      rw [e1]; rfl
    rw [h.2.1.1.gnh, h.2.1.2.1.hz e]; decide
  · exact Or.inr z
