/-! what a caller sees: the class's mutators -/
def BE (c : ab_C) : Prop := ∀ i, i < 4 → c 18 0 i = -1 ∨ inb (c 18 0 i) 12
def CV (c : ab_C) : Prop := TE c ∧ HE c ∧ SE c ∧ KE c ∧ QE c ∧ OE c ∧ ZE c ∧ BE c
theorem inb_lt {p x : Int32} {n L : Nat} (h1 : (! decide (p < 0) && decide (p < x)) = true) (hx : x = nN n) (hn : n ≤ L) (hL : L < 2147483648) : inb p L := by
  rw [Bool.and_eq_true, Bool.not_eq_true', decide_eq_false_iff_not, decide_eq_true_iff, hx] at h1
  obtain ⟨a, b⟩ := h1
  unfold inb
  intro z
  refine z.elim a (fun z => ?_)
  rw [Int32.lt_iff_toInt_lt, nN_toInt (by omega)] at b
  rw [Int32.lt_iff_toInt_lt, show (0 : Int32).toInt = 0 from rfl] at a
  have : p.toNatClampNeg = p.toInt.toNat := rfl
  omega
theorem has_inb {m : ab_M} {p : Int32} (h : CI m) (h1 : cHas (mi m) p = true) : inb p 12 := inb_lt h1 h.2.1.1 h.2.1.2 (by decide)
theorem hasH_inb {m : ab_M} {p : Int32} (h : CI m) (h1 : cHasH (mi m) p = true) : inb p 4 := inb_lt h1 h.2.2.1.1 h.2.2.1.2 (by decide)
theorem hasS_inb {m : ab_M} {p : Int32} (h : CI m) (h1 : cHasS (mi m) p = true) : inb p 8 := inb_lt h1 h.2.2.2.1.1 h.2.2.2.1.2 (by decide)
theorem hasU_inb {m : ab_M} {p : Int32} (h : CI m) (h1 : cHasU (mi m) p = true) : inb p 12 := inb_lt h1 h.2.2.2.2.1 h.2.2.2.2.2 (by decide)
noncomputable def SP_X6_person : List ab_V → ab_M → ab_O := fun as m => match as with
  | [this, .inl t, .inl k] => gd (this = vA 61 0 ∧ (CI m) ∧ (nh (mi m) < 4 ∨ ¬ mi m 35 0 0 = 0)) ((if mi m 35 0 0 = 0 then (if cHasN (mi m) k = true then okV (vI (nN (np (mi m)))) (wI m (cFound (mi m))) else exE eIO m) else if cHas (mi m) t = true then (if cHasN (mi m) k = true then (if mi m 35 0 0 < 12 then (if mi m 13 0 t.toNatClampNeg = 0 then exE eIS m else okV (vI (nN (np (mi m)))) (wI m (cPAdd (mi m) t k (mi m 9 0 t.toNatClampNeg) 0))) else exE eIS m) else exE eIO m) else exE eIO m))
  | _ => none
theorem e_X6_person {m : ab_M} {t : Int32} {k : Int32} (h1 : CI m) (h2 : nh (mi m) < 4 ∨ ¬ mi m 35 0 0 = 0) : SP_X6_person [vA 61 0, vI t, vI k] m = (if mi m 35 0 0 = 0 then (if cHasN (mi m) k = true then okV (vI (nN (np (mi m)))) (wI m (cFound (mi m))) else exE eIO m) else if cHas (mi m) t = true then (if cHasN (mi m) k = true then (if mi m 35 0 0 < 12 then (if mi m 13 0 t.toNatClampNeg = 0 then exE eIS m else okV (vI (nN (np (mi m)))) (wI m (cPAdd (mi m) t k (mi m 9 0 t.toNatClampNeg) 0))) else exE eIS m) else exE eIO m) else exE eIO m) := gd_pos ⟨rfl, h1, h2⟩
theorem q_X6_person {m : ab_M} {t : Int32} {k : Int32} (h1 : CI m) (h2 : nh (mi m) < 4 ∨ ¬ mi m 35 0 0 = 0) : ∀ r : ab_R, (if mi m 35 0 0 = 0 then (if cHasN (mi m) k = true then okV (vI (nN (np (mi m)))) (wI m (cFound (mi m))) else exE eIO m) else if cHas (mi m) t = true then (if cHasN (mi m) k = true then (if mi m 35 0 0 < 12 then (if mi m 13 0 t.toNatClampNeg = 0 then exE eIS m else okV (vI (nN (np (mi m)))) (wI m (cPAdd (mi m) t k (mi m 9 0 t.toNatClampNeg) 0))) else exE eIS m) else exE eIO m) else exE eIO m) = some r → (mnc m ≤ mnc (resM r) ∧ mns m ≤ mns (resM r)) ∧ ∀ K : ab_K, Closed (T_X6_person SP_X6_checkPerson SP_X6_checkPersonOrNone SP_X6_addFounder SP_X2_add) (fun r' => r' = r) K → run K (fun r' => r' = r) (T_X6_person SP_X6_checkPerson SP_X6_checkPersonOrNone SP_X6_addFounder SP_X2_add) 0 [some (vA 61 0), some (vI t), some (vI k), none] [] m := by
  have hC := h1.1
  have hn := h1.2.1.1
  have h12 := h1.2.1.2
  have hnB : np (mi m) < 2147483648 := by omega
  have hhn := h1.2.2.1.1
  have hh4 := h1.2.2.1.2
  have hhB : nh (mi m) < 2147483648 := by omega
  have hsn := h1.2.2.2.1.1
  have hs8 := h1.2.2.2.1.2
  have hsB : nsc (mi m) < 2147483648 := by omega
  have hun := h1.2.2.2.2.1
  have hu12 := h1.2.2.2.2.2
  have huB : nu (mi m) < 2147483648 := by omega
  have e1 := e_X6_checkPerson (p := t) hC
  have e2 := e_X6_checkPersonOrNone (p := k) hC
  have hin := has_inb (p := t) h1
  have e3 : mi m 35 0 0 = 0 → SP_X6_addFounder [vA 61 0] m = okV (vI (nN (np (mi m)))) (wI m (cFound (mi m))) := fun z => e_X6_addFounder h1 (by
    have : np (mi m) = 0 := by unfold np; rw [z]; rfl
    omega) (h2.resolve_right (fun x => x z))
  have e4 : mi m 35 0 0 < 12 → SP_X2_add [vA 35 0, vI t, vI k, vI (mi m 9 0 t.toNatClampNeg), vI 0] m = okV (vI (nN (np (mi m)))) (wI m (cPAdd (mi m) t k (mi m 9 0 t.toNatClampNeg) 0)) := fun z => e_X2_add h1 (by
    rw [hn, nN_lt12 hnB] at z; exact z)
  clear hn hhn hsn hun h1 h2
  intro r hr
  repeat' split at hr
  all_goals cases hr
  all_goals refine ⟨⟨by first | exact Nat.le_refl _ | exact Nat.le_add_right _ _, by first | exact Nat.le_refl _ | exact Nat.le_add_right _ _⟩, fun K hK => ?_⟩
  all_goals try simp only [Bool.not_eq_true, Bool.not_eq_false] at *
  all_goals simp only [T_X6_person, *, i10, Bool.false_eq_true, Bool.true_eq_false, Bool.not_true, Bool.not_false, ↓run_hit, ↓run_miss, ↓run_none, run_nil, ab_get0, ab_getS, if_true, if_false, if_pos, true_and, and_true, List.append_nil, List.nil_append, List.cons_append, List.length_cons, List.length_nil, List.take_succ_cons, List.take_zero, List.drop_succ_cons, List.drop_zero, List.reverse_cons, List.reverse_nil, List.map_nil, List.map_cons, List.sum_nil, List.sum_cons, rcv_some, rcv_999, wide_I, wide_L, wide_D, wide_R, wide_X, eq_self_iff_true, ite_true, ite_false, ↓reduceIte, Nat.reduceEqDiff, Nat.reduceLeDiff, Nat.reduceLT, Nat.reduceAdd, Nat.reduceMul, Nat.reduceBEq, decide_true, decide_false, and_self, or_self, or_true, true_or, false_or, or_false, and_false, false_and, not_false_eq_true, not_true_eq_false, Nat.zero_le, Nat.le_refl, Nat.add_eq_zero_iff, Nat.succ_ne_self, ↓s_const, ↓s_iload, ↓s_lload, ↓s_dload, ↓s_aload, ↓s_istore, ↓s_lstore, ↓s_dstore, ↓s_astore, ↓s_iinc, ↓s_bin, ↓s_div, ↓s_binL, ↓s_lcmp, ↓s_i2l, ↓s_i2d, ↓s_ddiv, ↓s_dcmpl, ↓s_goto, ↓s_ifeq, ↓s_iflt, ↓s_ifgt, ↓s_cmpeq, ↓s_cmplt, ↓s_cmpgt, ↓s_ifnull, ↓s_aeq, ↓s_pop, ↓s_dup, ↓s_dup2, ↓s_dupx1, ↓s_tab, ↓s_getI, ↓s_getR, ↓s_putI, ↓s_putZ, ↓s_putR, ↓s_ald, ↓s_ast, ↓s_zast, ↓s_lald, ↓s_last, ↓s_dald, ↓s_dast, ↓s_aald, ↓s_aast, ↓s_alen, ↓s_new, ↓s_newa, ↓s_multi, ↓s_cast, ↓s_getE, ↓s_obj, ↓s_mmin, ↓s_mmax, ↓s_hd, ↓s_call, ↓s_throw, ↓s_ret, ↓s_retL, ↓s_retD, ↓s_retA, ↓s_retV, mi_wI, mr_wI, mn_wI, mc_wI, sI_wI, u3_ap, mi_sI, mi_sR, mi_sL, mi_sD, mi_al, mi_bp, mr_sI, mr_sR, mr_sL, mr_sD, mr_al, mr_bp, ml_sI, ml_sR, ml_sL, ml_sD, ml_al, ml_bp, md_sI, md_sR, md_sL, md_sD, md_al, md_bp, mn_sI, mn_sR, mn_sL, mn_sD, mn_al, mn_bp, mc_sI, mc_sR, mc_sL, mc_sD, mc_al, mc_bp, mnc_sI, mnc_sR, mnc_sL, mnc_sD, mnc_al, mnc_bp, mns_sI, mns_sR, mns_sL, mns_sD, mns_al, mns_bp, SK_0, SK_1, SK_2, SK_3, SK_4, SK_5, SK_6, SK_7, SK_8, SK_9, SK_10, SK_11, SK_12, SK_13, SK_14, SK_15, SK_16, SK_17, SK_18, SK_19, SK_20, SK_21, SK_22, SK_23, SK_24, SK_25, SK_26, SK_27, SK_28, SK_29, SK_30, SK_31, SK_32, SK_33, SK_34, SK_35, SK_36, SK_37, SK_38, SK_39, SK_40, SK_41, SK_42, SK_43, SK_44, SK_45, SK_46, SK_47, SK_48, SK_49, SK_50, SK_51, SK_52, SK_53, SK_54, SK_55, SK_56, SK_57, SK_58, SK_59, SK_60, SK_61, SK_62, SK_63, SK_64, SK_65, st1_0, st1_1, st1_2, st1_3, st1_4, st1_5, st1_6, st1_7, st1_8, st2_0, st2_1, st2_2, st2_3, st2_4, st2_5, st2_6, st2_7, clr_I, clr_R, clr_X, clr_L, clr_D, clr_N, cr_14 hC, cr_16 hC, cr_33 hC, cn_15 hC, cn_17 hC, cn_34 hC, cr_61_0 hC, cr_61_1 hC, cr_61_2 hC, cr_61_3 hC, cr_61_4 hC, cr_61_5 hC, cr_35_1 hC, cr_35_2 hC, cr_35_3 hC, cr_35_4 hC, cr_35_5 hC, cr_35_6 hC, cr_35_7 hC, cr_35_8 hC, cr_35_9 hC, cr_35_10 hC, cr_35_11 hC, cr_36_1 hC, cr_36_2 hC, cr_37_1 hC, cr_37_2 hC, cr_37_3 hC, cr_37_4 hC, cr_38_1 hC, cr_38_2 hC, cr_38_3 hC, cr_38_4 hC, cr_38_5 hC, cr_38_6 hC, cr_38_7 hC, cr_38_8 hC, cr_39_0 hC, cr_39_1 hC, cr_40_0 hC, cr_40_1 hC, cr_40_2 hC, cr_40_3 hC, cr_40_4 hC, cr_40_5 hC, cn_2 hC, cn_3 hC, cn_4 hC, cn_14 hC, cn_16 hC, cn_18 hC, cn_19 hC, cn_20 hC, cn_21 hC, cn_33 hC, cn_5 hC, cn_6 hC, cn_7 hC, cn_8 hC, cn_9 hC, cn_10 hC, cn_11 hC, cn_12 hC, cn_13 hC, cn_22 hC, cn_23 hC, cn_24 hC, cn_25 hC, cn_26 hC, cn_27 hC, cn_28 hC, cn_29 hC, cn_30 hC, cn_31 hC, cn_32 hC]
  all_goals try rfl
theorem C_X6_person {l : Launch} {D : va_G} {cA : Nat → ClassId} {d : Nat} (hst : l.stackTraces = false) (hd : 8 ≤ d) : ∀ (as : List ab_V) (m : ab_M), Ctr l D cA d yX6_person (Cond.code yX6_person cX6_person 4 (some .int) :: TB) as m (SP_X6_person as m) := by
  intro as m
  refine ctr_of2 (by decide +kernel) hst (by omega) (snd_X6_person (hd6 := by omega) (d' := 7) (hd9 := by omega) (hC_X6_checkPerson := C_X6_checkPerson hst (by omega)) (hC_X6_checkPersonOrNone := C_X6_checkPersonOrNone hst (by omega)) (hC_X6_addFounder := C_X6_addFounder hst (by omega)) (hC_X2_add := C_X2_add hst (by omega))) mt_X6_person ?_
  intro r hr
  unfold SP_X6_person at hr
  split at hr
  · obtain ⟨hp, hr'⟩ := gd_some hr
    obtain ⟨rfl, h1, h2⟩ := hp
    have q := q_X6_person h1 h2 r hr'
    exact ⟨by show 3 ≤ 4; decide, q.1, q.2⟩
  · cases hr
theorem cShare_at (k : Nat) : ∀ (one left : Int32) (c : ab_C) (x y z : Nat), x ≠ 8 → (cShare k one left c).2 x y z = c x y z := by
  induction k with
  | zero => intro _ _ _ _ _ _ _; rfl
  | succ k ih =>
    intro one left c x y z h
    simp only [cShare]
    split
    · rfl
    · split
      · exact ih _ _ _ _ _ _ h
      · rw [ih _ _ _ _ _ _ h, u3_ap, if_neg (fun e => h e.1)]
theorem cShareFee_at {c : ab_C} {t f : Int32} {x y z : Nat} (h : x ≠ 8) (h' : x ≠ 61) : cShareFee c t f x y z = c x y z := by
  unfold cShareFee
  rw [u3_ap, if_neg (fun e => h' e.1), cShare_at _ _ _ _ _ _ _ h]
def cGive (c : ab_C) (p : Int32) : ab_C :=
  u3 (cRaise (cShareFee (u3 c 8 0 p.toNatClampNeg (c 8 0 p.toNatClampNeg - 5 * (c 7 0 p.toNatClampNeg + 1))) (c 5 0 p.toNatClampNeg) (5 * (c 7 0 p.toNatClampNeg + 1))) p (c 5 0 p.toNatClampNeg) (cShareFee (u3 c 8 0 p.toNatClampNeg (c 8 0 p.toNatClampNeg - 5 * (c 7 0 p.toNatClampNeg + 1))) (c 5 0 p.toNatClampNeg) (5 * (c 7 0 p.toNatClampNeg + 1)) 61 0 6)) 61 0 7 (cRaise (cShareFee (u3 c 8 0 p.toNatClampNeg (c 8 0 p.toNatClampNeg - 5 * (c 7 0 p.toNatClampNeg + 1))) (c 5 0 p.toNatClampNeg) (5 * (c 7 0 p.toNatClampNeg + 1))) p (c 5 0 p.toNatClampNeg) (cShareFee (u3 c 8 0 p.toNatClampNeg (c 8 0 p.toNatClampNeg - 5 * (c 7 0 p.toNatClampNeg + 1))) (c 5 0 p.toNatClampNeg) (5 * (c 7 0 p.toNatClampNeg + 1)) 61 0 6) 61 0 7 + 1)
noncomputable def oGive (m : ab_M) (p : Int32) : ab_O := if mi m 8 0 p.toNatClampNeg < 5 * (mi m 7 0 p.toNatClampNeg + 1) then okV (vI (-4)) m else okV (vI (mi m 7 0 p.toNatClampNeg + 1)) (wI m (cGive (mi m) p))
theorem step_up {c : ab_C} {i : Nat} (hi : i < 12) (h : SE c) (h9 : c 7 0 i < 9) : inb (c 7 0 i + 1) 10 := by
  obtain ⟨n, hn, e⟩ := nN_ex (h i hi)
  rw [e] at h9 ⊢
  have h9' : nN n < nN 9 := h9
  rw [nN_lt (by omega) (by decide)] at h9'
  rw [nN_succ, inb_nN (by omega)]; omega
noncomputable def SP_X6_give : List ab_V → ab_M → ab_O := fun as m => match as with
  | [this, .inl p] => gd (this = vA 61 0 ∧ (CI m) ∧ (CV (mi m))) ((if cHas (mi m) p = true then (if mi m 13 0 p.toNatClampNeg = 0 then exE eIS m else if mi m 7 0 p.toNatClampNeg < 9 then (if mi m 5 0 p.toNatClampNeg = -1 then exE eIS m else if mi m 13 0 (mi m 5 0 p.toNatClampNeg).toNatClampNeg = 0 then okV (vI (-2)) m else if cHolds (mi m) (mi m 5 0 p.toNatClampNeg) (mi m 7 0 p.toNatClampNeg + 1) = true then (if mi m 7 0 p.toNatClampNeg + 1 < 7 then oGive m p else if cUnb (mi m) 12 (mi m 5 0 p.toNatClampNeg) = true then oGive m p else okV (vI (-3)) m) else okV (vI (-2)) m) else exE eIS m) else exE eIO m))
  | _ => none
theorem e_X6_give {m : ab_M} {p : Int32} (h1 : CI m) (h2 : CV (mi m)) : SP_X6_give [vA 61 0, vI p] m = (if cHas (mi m) p = true then (if mi m 13 0 p.toNatClampNeg = 0 then exE eIS m else if mi m 7 0 p.toNatClampNeg < 9 then (if mi m 5 0 p.toNatClampNeg = -1 then exE eIS m else if mi m 13 0 (mi m 5 0 p.toNatClampNeg).toNatClampNeg = 0 then okV (vI (-2)) m else if cHolds (mi m) (mi m 5 0 p.toNatClampNeg) (mi m 7 0 p.toNatClampNeg + 1) = true then (if mi m 7 0 p.toNatClampNeg + 1 < 7 then oGive m p else if cUnb (mi m) 12 (mi m 5 0 p.toNatClampNeg) = true then oGive m p else okV (vI (-3)) m) else okV (vI (-2)) m) else exE eIS m) else exE eIO m) := gd_pos ⟨rfl, h1, h2⟩
theorem q_X6_give {m : ab_M} {p : Int32} (h1 : CI m) (h2 : CV (mi m)) : ∀ r : ab_R, (if cHas (mi m) p = true then (if mi m 13 0 p.toNatClampNeg = 0 then exE eIS m else if mi m 7 0 p.toNatClampNeg < 9 then (if mi m 5 0 p.toNatClampNeg = -1 then exE eIS m else if mi m 13 0 (mi m 5 0 p.toNatClampNeg).toNatClampNeg = 0 then okV (vI (-2)) m else if cHolds (mi m) (mi m 5 0 p.toNatClampNeg) (mi m 7 0 p.toNatClampNeg + 1) = true then (if mi m 7 0 p.toNatClampNeg + 1 < 7 then oGive m p else if cUnb (mi m) 12 (mi m 5 0 p.toNatClampNeg) = true then oGive m p else okV (vI (-3)) m) else okV (vI (-2)) m) else exE eIS m) else exE eIO m) = some r → (mnc m ≤ mnc (resM r) ∧ mns m ≤ mns (resM r)) ∧ ∀ K : ab_K, Closed (T_X6_give SP_X6_checkPerson SP_X2_holds SP_X6_isUnbroken SP_X6_shareFee SP_X2_raise) (fun r' => r' = r) K → run K (fun r' => r' = r) (T_X6_give SP_X6_checkPerson SP_X2_holds SP_X6_isUnbroken SP_X6_shareFee SP_X2_raise) 0 [some (vA 61 0), some (vI p), none, none, none] [] m := by
  have hC := h1.1
  have e1 := e_X6_checkPerson (p := p) hC
  by_cases hp : cHas (mi m) p = true
  · have hin := has_inb h1 hp
    rw [if_pos hp] at e1 ⊢
    have hT := h2.1
    have hS := h2.2.2.1
    have hto := hT _ (inb_eq hin).2
    by_cases a1 : mi m 5 0 p.toNatClampNeg = -1
    · clear h1 h2 hT hS hto
      rw [if_pos a1]
      intro r hr
      repeat' split at hr
      all_goals cases hr
      all_goals refine ⟨⟨by first | exact Nat.le_refl _ | exact Nat.le_add_right _ _, by first | exact Nat.le_refl _ | exact Nat.le_add_right _ _⟩, fun K hK => ?_⟩
      all_goals try simp only [Bool.not_eq_true, Bool.not_eq_false] at *
      all_goals simp only [T_X6_give, *, i10, Bool.false_eq_true, Bool.true_eq_false, Bool.not_true, Bool.not_false, ↓run_hit, ↓run_miss, ↓run_none, run_nil, ab_get0, ab_getS, if_true, if_false, if_pos, true_and, and_true, List.append_nil, List.nil_append, List.cons_append, List.length_cons, List.length_nil, List.take_succ_cons, List.take_zero, List.drop_succ_cons, List.drop_zero, List.reverse_cons, List.reverse_nil, List.map_nil, List.map_cons, List.sum_nil, List.sum_cons, rcv_some, rcv_999, wide_I, wide_L, wide_D, wide_R, wide_X, eq_self_iff_true, ite_true, ite_false, ↓reduceIte, Nat.reduceEqDiff, Nat.reduceLeDiff, Nat.reduceLT, Nat.reduceAdd, Nat.reduceMul, Nat.reduceBEq, decide_true, decide_false, and_self, or_self, or_true, true_or, false_or, or_false, and_false, false_and, not_false_eq_true, not_true_eq_false, Nat.zero_le, Nat.le_refl, Nat.add_eq_zero_iff, Nat.succ_ne_self, ↓s_const, ↓s_iload, ↓s_lload, ↓s_dload, ↓s_aload, ↓s_istore, ↓s_lstore, ↓s_dstore, ↓s_astore, ↓s_iinc, ↓s_bin, ↓s_div, ↓s_binL, ↓s_lcmp, ↓s_i2l, ↓s_i2d, ↓s_ddiv, ↓s_dcmpl, ↓s_goto, ↓s_ifeq, ↓s_iflt, ↓s_ifgt, ↓s_cmpeq, ↓s_cmplt, ↓s_cmpgt, ↓s_ifnull, ↓s_aeq, ↓s_pop, ↓s_dup, ↓s_dup2, ↓s_dupx1, ↓s_tab, ↓s_getI, ↓s_getR, ↓s_putI, ↓s_putZ, ↓s_putR, ↓s_ald, ↓s_ast, ↓s_zast, ↓s_lald, ↓s_last, ↓s_dald, ↓s_dast, ↓s_aald, ↓s_aast, ↓s_alen, ↓s_new, ↓s_newa, ↓s_multi, ↓s_cast, ↓s_getE, ↓s_obj, ↓s_mmin, ↓s_mmax, ↓s_hd, ↓s_call, ↓s_throw, ↓s_ret, ↓s_retL, ↓s_retD, ↓s_retA, ↓s_retV, mi_wI, mr_wI, mn_wI, mc_wI, sI_wI, u3_ap, mi_sI, mi_sR, mi_sL, mi_sD, mi_al, mi_bp, mr_sI, mr_sR, mr_sL, mr_sD, mr_al, mr_bp, ml_sI, ml_sR, ml_sL, ml_sD, ml_al, ml_bp, md_sI, md_sR, md_sL, md_sD, md_al, md_bp, mn_sI, mn_sR, mn_sL, mn_sD, mn_al, mn_bp, mc_sI, mc_sR, mc_sL, mc_sD, mc_al, mc_bp, mnc_sI, mnc_sR, mnc_sL, mnc_sD, mnc_al, mnc_bp, mns_sI, mns_sR, mns_sL, mns_sD, mns_al, mns_bp, SK_0, SK_1, SK_2, SK_3, SK_4, SK_5, SK_6, SK_7, SK_8, SK_9, SK_10, SK_11, SK_12, SK_13, SK_14, SK_15, SK_16, SK_17, SK_18, SK_19, SK_20, SK_21, SK_22, SK_23, SK_24, SK_25, SK_26, SK_27, SK_28, SK_29, SK_30, SK_31, SK_32, SK_33, SK_34, SK_35, SK_36, SK_37, SK_38, SK_39, SK_40, SK_41, SK_42, SK_43, SK_44, SK_45, SK_46, SK_47, SK_48, SK_49, SK_50, SK_51, SK_52, SK_53, SK_54, SK_55, SK_56, SK_57, SK_58, SK_59, SK_60, SK_61, SK_62, SK_63, SK_64, SK_65, st1_0, st1_1, st1_2, st1_3, st1_4, st1_5, st1_6, st1_7, st1_8, st2_0, st2_1, st2_2, st2_3, st2_4, st2_5, st2_6, st2_7, clr_I, clr_R, clr_X, clr_L, clr_D, clr_N, cr_14 hC, cr_16 hC, cr_33 hC, cn_15 hC, cn_17 hC, cn_34 hC, cr_61_0 hC, cr_61_1 hC, cr_61_2 hC, cr_61_3 hC, cr_61_4 hC, cr_61_5 hC, cr_35_1 hC, cr_35_2 hC, cr_35_3 hC, cr_35_4 hC, cr_35_5 hC, cr_35_6 hC, cr_35_7 hC, cr_35_8 hC, cr_35_9 hC, cr_35_10 hC, cr_35_11 hC, cr_36_1 hC, cr_36_2 hC, cr_37_1 hC, cr_37_2 hC, cr_37_3 hC, cr_37_4 hC, cr_38_1 hC, cr_38_2 hC, cr_38_3 hC, cr_38_4 hC, cr_38_5 hC, cr_38_6 hC, cr_38_7 hC, cr_38_8 hC, cr_39_0 hC, cr_39_1 hC, cr_40_0 hC, cr_40_1 hC, cr_40_2 hC, cr_40_3 hC, cr_40_4 hC, cr_40_5 hC, cn_2 hC, cn_3 hC, cn_4 hC, cn_14 hC, cn_16 hC, cn_18 hC, cn_19 hC, cn_20 hC, cn_21 hC, cn_33 hC, cn_5 hC, cn_6 hC, cn_7 hC, cn_8 hC, cn_9 hC, cn_10 hC, cn_11 hC, cn_12 hC, cn_13 hC, cn_22 hC, cn_23 hC, cn_24 hC, cn_25 hC, cn_26 hC, cn_27 hC, cn_28 hC, cn_29 hC, cn_30 hC, cn_31 hC, cn_32 hC]
      all_goals try rfl
    · have hti := hto.resolve_left a1
      rw [if_neg a1]
      have e2 := e_X2_holds (p := mi m 5 0 p.toNatClampNeg) (s := mi m 7 0 p.toNatClampNeg + 1) hC hti
      have e3 := e_X6_isUnbroken (p := mi m 5 0 p.toNatClampNeg) hC hT h2.2.1 (Or.inr hti)
      have hTc : TE (u3 (mi m) 8 0 p.toNatClampNeg (mi m 8 0 p.toNatClampNeg - 5 * (mi m 7 0 p.toNatClampNeg + 1))) := fun i hi => by rw [u3_ap, if_neg (fun e => by omega)]; exact hT i hi
      have e4 := e_X6_shareFee (m := wI m (u3 (mi m) 8 0 p.toNatClampNeg (mi m 8 0 p.toNatClampNeg - 5 * (mi m 7 0 p.toNatClampNeg + 1)))) (t := mi m 5 0 p.toNatClampNeg) (f := 5 * (mi m 7 0 p.toNatClampNeg + 1)) hC hTc (Or.inr hti)
      rw [mi_wI, wI_wI] at e4
      have e5 : ∀ c : ab_C, mi m 7 0 p.toNatClampNeg < 9 → c 7 0 p.toNatClampNeg = mi m 7 0 p.toNatClampNeg → SP_X2_raise [vA 35 0, vI p, vI (mi m 5 0 p.toNatClampNeg), vI (c 61 0 6)] (wI m c) = ok0 (wI m (cRaise c p (mi m 5 0 p.toNatClampNeg) (c 61 0 6))) := fun c h9 hc => by
        have := e_X2_raise (m := wI m c) (p := p) (b := mi m 5 0 p.toNatClampNeg) (d := c 61 0 6) hC hin (by rw [mi_wI, hc]; exact step_up (inb_eq hin).2 hS h9)
        exact this
      have e6 := e5 (cShareFee (u3 (mi m) 8 0 p.toNatClampNeg (mi m 8 0 p.toNatClampNeg - 5 * (mi m 7 0 p.toNatClampNeg + 1))) (mi m 5 0 p.toNatClampNeg) (5 * (mi m 7 0 p.toNatClampNeg + 1)))
      have e7 : mi m 7 0 p.toNatClampNeg < 9 → _ := fun z => e6 z (cShareFee_at (by decide) (by decide))
      clear e5 e6 h1 h2 hT hS hto hTc
      unfold oGive
      intro r hr
      repeat' split at hr
      all_goals cases hr
      all_goals refine ⟨⟨by first | exact Nat.le_refl _ | exact Nat.le_add_right _ _, by first | exact Nat.le_refl _ | exact Nat.le_add_right _ _⟩, fun K hK => ?_⟩
      all_goals try simp only [Bool.not_eq_true, Bool.not_eq_false] at *
      all_goals simp only [T_X6_give, sI_eq, wI_wI, bI0, *, i10, Bool.false_eq_true, Bool.true_eq_false, Bool.not_true, Bool.not_false, ↓run_hit, ↓run_miss, ↓run_none, run_nil, ab_get0, ab_getS, if_true, if_false, if_pos, true_and, and_true, List.append_nil, List.nil_append, List.cons_append, List.length_cons, List.length_nil, List.take_succ_cons, List.take_zero, List.drop_succ_cons, List.drop_zero, List.reverse_cons, List.reverse_nil, List.map_nil, List.map_cons, List.sum_nil, List.sum_cons, rcv_some, rcv_999, wide_I, wide_L, wide_D, wide_R, wide_X, eq_self_iff_true, ite_true, ite_false, ↓reduceIte, Nat.reduceEqDiff, Nat.reduceLeDiff, Nat.reduceLT, Nat.reduceAdd, Nat.reduceMul, Nat.reduceBEq, decide_true, decide_false, and_self, or_self, or_true, true_or, false_or, or_false, and_false, false_and, not_false_eq_true, not_true_eq_false, Nat.zero_le, Nat.le_refl, Nat.add_eq_zero_iff, Nat.succ_ne_self, ↓s_const, ↓s_iload, ↓s_lload, ↓s_dload, ↓s_aload, ↓s_istore, ↓s_lstore, ↓s_dstore, ↓s_astore, ↓s_iinc, ↓s_bin, ↓s_div, ↓s_binL, ↓s_lcmp, ↓s_i2l, ↓s_i2d, ↓s_ddiv, ↓s_dcmpl, ↓s_goto, ↓s_ifeq, ↓s_iflt, ↓s_ifgt, ↓s_cmpeq, ↓s_cmplt, ↓s_cmpgt, ↓s_ifnull, ↓s_aeq, ↓s_pop, ↓s_dup, ↓s_dup2, ↓s_dupx1, ↓s_tab, ↓s_getI, ↓s_getR, ↓s_putI, ↓s_putZ, ↓s_putR, ↓s_ald, ↓s_ast, ↓s_zast, ↓s_lald, ↓s_last, ↓s_dald, ↓s_dast, ↓s_aald, ↓s_aast, ↓s_alen, ↓s_new, ↓s_newa, ↓s_multi, ↓s_cast, ↓s_getE, ↓s_obj, ↓s_mmin, ↓s_mmax, ↓s_hd, ↓s_call, ↓s_throw, ↓s_ret, ↓s_retL, ↓s_retD, ↓s_retA, ↓s_retV, mi_wI, mr_wI, mn_wI, mc_wI, sI_wI, u3_ap, mi_sI, mi_sR, mi_sL, mi_sD, mi_al, mi_bp, mr_sI, mr_sR, mr_sL, mr_sD, mr_al, mr_bp, ml_sI, ml_sR, ml_sL, ml_sD, ml_al, ml_bp, md_sI, md_sR, md_sL, md_sD, md_al, md_bp, mn_sI, mn_sR, mn_sL, mn_sD, mn_al, mn_bp, mc_sI, mc_sR, mc_sL, mc_sD, mc_al, mc_bp, mnc_sI, mnc_sR, mnc_sL, mnc_sD, mnc_al, mnc_bp, mns_sI, mns_sR, mns_sL, mns_sD, mns_al, mns_bp, SK_0, SK_1, SK_2, SK_3, SK_4, SK_5, SK_6, SK_7, SK_8, SK_9, SK_10, SK_11, SK_12, SK_13, SK_14, SK_15, SK_16, SK_17, SK_18, SK_19, SK_20, SK_21, SK_22, SK_23, SK_24, SK_25, SK_26, SK_27, SK_28, SK_29, SK_30, SK_31, SK_32, SK_33, SK_34, SK_35, SK_36, SK_37, SK_38, SK_39, SK_40, SK_41, SK_42, SK_43, SK_44, SK_45, SK_46, SK_47, SK_48, SK_49, SK_50, SK_51, SK_52, SK_53, SK_54, SK_55, SK_56, SK_57, SK_58, SK_59, SK_60, SK_61, SK_62, SK_63, SK_64, SK_65, st1_0, st1_1, st1_2, st1_3, st1_4, st1_5, st1_6, st1_7, st1_8, st2_0, st2_1, st2_2, st2_3, st2_4, st2_5, st2_6, st2_7, clr_I, clr_R, clr_X, clr_L, clr_D, clr_N, cr_14 hC, cr_16 hC, cr_33 hC, cn_15 hC, cn_17 hC, cn_34 hC, cr_61_0 hC, cr_61_1 hC, cr_61_2 hC, cr_61_3 hC, cr_61_4 hC, cr_61_5 hC, cr_35_1 hC, cr_35_2 hC, cr_35_3 hC, cr_35_4 hC, cr_35_5 hC, cr_35_6 hC, cr_35_7 hC, cr_35_8 hC, cr_35_9 hC, cr_35_10 hC, cr_35_11 hC, cr_36_1 hC, cr_36_2 hC, cr_37_1 hC, cr_37_2 hC, cr_37_3 hC, cr_37_4 hC, cr_38_1 hC, cr_38_2 hC, cr_38_3 hC, cr_38_4 hC, cr_38_5 hC, cr_38_6 hC, cr_38_7 hC, cr_38_8 hC, cr_39_0 hC, cr_39_1 hC, cr_40_0 hC, cr_40_1 hC, cr_40_2 hC, cr_40_3 hC, cr_40_4 hC, cr_40_5 hC, cn_2 hC, cn_3 hC, cn_4 hC, cn_14 hC, cn_16 hC, cn_18 hC, cn_19 hC, cn_20 hC, cn_21 hC, cn_33 hC, cn_5 hC, cn_6 hC, cn_7 hC, cn_8 hC, cn_9 hC, cn_10 hC, cn_11 hC, cn_12 hC, cn_13 hC, cn_22 hC, cn_23 hC, cn_24 hC, cn_25 hC, cn_26 hC, cn_27 hC, cn_28 hC, cn_29 hC, cn_30 hC, cn_31 hC, cn_32 hC]
      all_goals try rfl
  · rw [if_neg hp] at e1 ⊢
    clear h1 h2
    intro r hr
    repeat' split at hr
    all_goals cases hr
    all_goals refine ⟨⟨by first | exact Nat.le_refl _ | exact Nat.le_add_right _ _, by first | exact Nat.le_refl _ | exact Nat.le_add_right _ _⟩, fun K hK => ?_⟩
    all_goals try simp only [Bool.not_eq_true, Bool.not_eq_false] at *
    all_goals simp only [T_X6_give, *, i10, Bool.false_eq_true, Bool.true_eq_false, Bool.not_true, Bool.not_false, ↓run_hit, ↓run_miss, ↓run_none, run_nil, ab_get0, ab_getS, if_true, if_false, if_pos, true_and, and_true, List.append_nil, List.nil_append, List.cons_append, List.length_cons, List.length_nil, List.take_succ_cons, List.take_zero, List.drop_succ_cons, List.drop_zero, List.reverse_cons, List.reverse_nil, List.map_nil, List.map_cons, List.sum_nil, List.sum_cons, rcv_some, rcv_999, wide_I, wide_L, wide_D, wide_R, wide_X, eq_self_iff_true, ite_true, ite_false, ↓reduceIte, Nat.reduceEqDiff, Nat.reduceLeDiff, Nat.reduceLT, Nat.reduceAdd, Nat.reduceMul, Nat.reduceBEq, decide_true, decide_false, and_self, or_self, or_true, true_or, false_or, or_false, and_false, false_and, not_false_eq_true, not_true_eq_false, Nat.zero_le, Nat.le_refl, Nat.add_eq_zero_iff, Nat.succ_ne_self, ↓s_const, ↓s_iload, ↓s_lload, ↓s_dload, ↓s_aload, ↓s_istore, ↓s_lstore, ↓s_dstore, ↓s_astore, ↓s_iinc, ↓s_bin, ↓s_div, ↓s_binL, ↓s_lcmp, ↓s_i2l, ↓s_i2d, ↓s_ddiv, ↓s_dcmpl, ↓s_goto, ↓s_ifeq, ↓s_iflt, ↓s_ifgt, ↓s_cmpeq, ↓s_cmplt, ↓s_cmpgt, ↓s_ifnull, ↓s_aeq, ↓s_pop, ↓s_dup, ↓s_dup2, ↓s_dupx1, ↓s_tab, ↓s_getI, ↓s_getR, ↓s_putI, ↓s_putZ, ↓s_putR, ↓s_ald, ↓s_ast, ↓s_zast, ↓s_lald, ↓s_last, ↓s_dald, ↓s_dast, ↓s_aald, ↓s_aast, ↓s_alen, ↓s_new, ↓s_newa, ↓s_multi, ↓s_cast, ↓s_getE, ↓s_obj, ↓s_mmin, ↓s_mmax, ↓s_hd, ↓s_call, ↓s_throw, ↓s_ret, ↓s_retL, ↓s_retD, ↓s_retA, ↓s_retV, mi_wI, mr_wI, mn_wI, mc_wI, sI_wI, u3_ap, mi_sI, mi_sR, mi_sL, mi_sD, mi_al, mi_bp, mr_sI, mr_sR, mr_sL, mr_sD, mr_al, mr_bp, ml_sI, ml_sR, ml_sL, ml_sD, ml_al, ml_bp, md_sI, md_sR, md_sL, md_sD, md_al, md_bp, mn_sI, mn_sR, mn_sL, mn_sD, mn_al, mn_bp, mc_sI, mc_sR, mc_sL, mc_sD, mc_al, mc_bp, mnc_sI, mnc_sR, mnc_sL, mnc_sD, mnc_al, mnc_bp, mns_sI, mns_sR, mns_sL, mns_sD, mns_al, mns_bp, SK_0, SK_1, SK_2, SK_3, SK_4, SK_5, SK_6, SK_7, SK_8, SK_9, SK_10, SK_11, SK_12, SK_13, SK_14, SK_15, SK_16, SK_17, SK_18, SK_19, SK_20, SK_21, SK_22, SK_23, SK_24, SK_25, SK_26, SK_27, SK_28, SK_29, SK_30, SK_31, SK_32, SK_33, SK_34, SK_35, SK_36, SK_37, SK_38, SK_39, SK_40, SK_41, SK_42, SK_43, SK_44, SK_45, SK_46, SK_47, SK_48, SK_49, SK_50, SK_51, SK_52, SK_53, SK_54, SK_55, SK_56, SK_57, SK_58, SK_59, SK_60, SK_61, SK_62, SK_63, SK_64, SK_65, st1_0, st1_1, st1_2, st1_3, st1_4, st1_5, st1_6, st1_7, st1_8, st2_0, st2_1, st2_2, st2_3, st2_4, st2_5, st2_6, st2_7, clr_I, clr_R, clr_X, clr_L, clr_D, clr_N, cr_14 hC, cr_16 hC, cr_33 hC, cn_15 hC, cn_17 hC, cn_34 hC, cr_61_0 hC, cr_61_1 hC, cr_61_2 hC, cr_61_3 hC, cr_61_4 hC, cr_61_5 hC, cr_35_1 hC, cr_35_2 hC, cr_35_3 hC, cr_35_4 hC, cr_35_5 hC, cr_35_6 hC, cr_35_7 hC, cr_35_8 hC, cr_35_9 hC, cr_35_10 hC, cr_35_11 hC, cr_36_1 hC, cr_36_2 hC, cr_37_1 hC, cr_37_2 hC, cr_37_3 hC, cr_37_4 hC, cr_38_1 hC, cr_38_2 hC, cr_38_3 hC, cr_38_4 hC, cr_38_5 hC, cr_38_6 hC, cr_38_7 hC, cr_38_8 hC, cr_39_0 hC, cr_39_1 hC, cr_40_0 hC, cr_40_1 hC, cr_40_2 hC, cr_40_3 hC, cr_40_4 hC, cr_40_5 hC, cn_2 hC, cn_3 hC, cn_4 hC, cn_14 hC, cn_16 hC, cn_18 hC, cn_19 hC, cn_20 hC, cn_21 hC, cn_33 hC, cn_5 hC, cn_6 hC, cn_7 hC, cn_8 hC, cn_9 hC, cn_10 hC, cn_11 hC, cn_12 hC, cn_13 hC, cn_22 hC, cn_23 hC, cn_24 hC, cn_25 hC, cn_26 hC, cn_27 hC, cn_28 hC, cn_29 hC, cn_30 hC, cn_31 hC, cn_32 hC]
    all_goals try rfl
theorem C_X6_give {l : Launch} {D : va_G} {cA : Nat → ClassId} {d : Nat} (hst : l.stackTraces = false) (hd : 7 ≤ d) : ∀ (as : List ab_V) (m : ab_M), Ctr l D cA d yX6_give (Cond.code yX6_give cX6_give 5 (some .int) :: TB) as m (SP_X6_give as m) := by
  intro as m
  refine ctr_of2 (by decide +kernel) hst (by omega) (snd_X6_give (hd6 := by omega) (d' := 6) (hd9 := by omega) (hC_X6_checkPerson := C_X6_checkPerson hst (by omega)) (hC_X2_holds := C_X2_holds hst (by omega)) (hC_X6_isUnbroken := C_X6_isUnbroken hst (by omega)) (hC_X6_shareFee := C_X6_shareFee hst (by omega)) (hC_X2_raise := C_X2_raise hst (by omega))) mt_X6_give ?_
  intro r hr
  unfold SP_X6_give at hr
  split at hr
  · obtain ⟨hp, hr'⟩ := gd_some hr
    obtain ⟨rfl, h1, h2⟩ := hp
    have q := q_X6_give h1 h2 r hr'
    exact ⟨by show 2 ≤ 5; decide, q.1, q.2⟩
  · cases hr

