/-! the class's People -/
def cHas (c : ab_C) (p : Int32) : Bool := ! decide (p < 0) && decide (p < c 35 0 0)
def cAll (c : ab_C) : Int32 := ((1 : Int32) <<< (c 35 0 0 &&& 31)) - 1
def cHolds (c : ab_C) (p s : Int32) : Bool := ! decide (c 7 0 p.toNatClampNeg < s)
def cLives (c : ab_C) (p h : Int32) : Bool := ! decide (c 13 0 p.toNatClampNeg = 0) && decide (c 9 0 p.toNatClampNeg = h)
noncomputable def SP_X2_has : List ab_V → ab_M → ab_O := fun as m => match as with
  | [this, .inl p] => gd (this = vA 35 0 ∧ (CR m)) (okV (vI (bI (cHas (mi m) p))) m)
  | _ => none
theorem e_X2_has {m : ab_M} {p : Int32} (h1 : CR m) : SP_X2_has [vA 35 0, vI p] m = okV (vI (bI (cHas (mi m) p))) m := gd_pos ⟨rfl, h1⟩
theorem q_X2_has {m : ab_M} {p : Int32} (h1 : CR m) : ∀ r : ab_R, okV (vI (bI (cHas (mi m) p))) m = some r → (mnc m ≤ mnc (resM r) ∧ mns m ≤ mns (resM r)) ∧ ∀ K : ab_K, Closed T_X2_has (fun r' => r' = r) K → run K (fun r' => r' = r) T_X2_has 0 [some (vA 35 0), some (vI p)] [] m := by
  intro r hr; cases hr
  refine ⟨⟨Nat.le_refl _, Nat.le_refl _⟩, fun K hK => ?_⟩
  simp only [T_X2_has, Bool.false_eq_true, run_some, run_none, run_nil, ab_get0, ab_getS, if_true, if_false, if_pos, true_and, and_true, List.append_nil, List.nil_append, List.cons_append, List.length_cons, List.length_nil, List.take_succ_cons, List.take_zero, List.drop_succ_cons, List.drop_zero, List.reverse_cons, List.reverse_nil, List.map_nil, List.map_cons, List.sum_nil, List.sum_cons, rcv_some, wide_I, wide_L, wide_D, wide_R, wide_X, eq_self_iff_true, ite_true, ite_false, reduceIte, Nat.reduceEqDiff, Nat.reduceLeDiff, Nat.reduceLT, Nat.reduceAdd, Nat.reduceMul, Nat.reduceBEq, decide_true, decide_false, and_self, or_self, or_true, true_or, false_or, or_false, and_false, false_and, not_false_eq_true, not_true_eq_false, Nat.zero_le, Nat.le_refl, Nat.add_eq_zero_iff, Nat.succ_ne_self, s_const, s_iload, s_lload, s_dload, s_aload, s_istore, s_lstore, s_dstore, s_astore, s_iinc, s_bin, s_div, s_binL, s_lcmp, s_i2l, s_i2d, s_ddiv, s_dcmpl, s_goto, s_ifeq, s_iflt, s_ifgt, s_cmpeq, s_cmplt, s_cmpgt, s_ifnull, s_aeq, s_pop, s_dup, s_dup2, s_dupx1, s_tab, s_getI, s_getR, s_putI, s_putZ, s_putR, s_ald, s_ast, s_zast, s_lald, s_last, s_dald, s_dast, s_aald, s_aast, s_alen, s_new, s_newa, s_multi, s_cast, s_getE, s_obj, s_mmin, s_mmax, s_hd, s_call, s_throw, s_ret, s_retL, s_retD, s_retA, s_retV, mi_sI, mi_sR, mi_sL, mi_sD, mi_al, mi_bp, mr_sI, mr_sR, mr_sL, mr_sD, mr_al, mr_bp, ml_sI, ml_sR, ml_sL, ml_sD, ml_al, ml_bp, md_sI, md_sR, md_sL, md_sD, md_al, md_bp, mn_sI, mn_sR, mn_sL, mn_sD, mn_al, mn_bp, mc_sI, mc_sR, mc_sL, mc_sD, mc_al, mc_bp, mnc_sI, mnc_sR, mnc_sL, mnc_sD, mnc_al, mnc_bp, mns_sI, mns_sR, mns_sL, mns_sD, mns_al, mns_bp, SK_0, SK_1, SK_2, SK_3, SK_4, SK_5, SK_6, SK_7, SK_8, SK_9, SK_10, SK_11, SK_12, SK_13, SK_14, SK_15, SK_16, SK_17, SK_18, SK_19, SK_20, SK_21, SK_22, SK_23, SK_24, SK_25, SK_26, SK_27, SK_28, SK_29, SK_30, SK_31, SK_32, SK_33, SK_34, SK_35, SK_36, SK_37, SK_38, SK_39, SK_40, SK_41, SK_42, SK_43, SK_44, SK_45, SK_46, SK_47, SK_48, SK_49, SK_50, SK_51, SK_52, SK_53, SK_54, SK_55, SK_56, SK_57, SK_58, SK_59, SK_60, SK_61, SK_62, SK_63, SK_64, SK_65, st1_0, st1_1, st1_2, st1_3, st1_4, st1_5, st1_6, st1_7, st1_8, st2_0, st2_1, st2_2, st2_3, st2_4, st2_5, st2_6, st2_7, clr_I, clr_R, clr_X, clr_L, clr_D, clr_N, cr_61_0 h1, cr_61_1 h1, cr_61_2 h1, cr_61_3 h1, cr_61_4 h1, cr_61_5 h1, cr_35_1 h1, cr_35_2 h1, cr_35_3 h1, cr_35_4 h1, cr_35_5 h1, cr_35_6 h1, cr_35_7 h1, cr_35_8 h1, cr_35_9 h1, cr_35_10 h1, cr_35_11 h1, cr_36_1 h1, cr_36_2 h1, cr_37_1 h1, cr_37_2 h1, cr_37_3 h1, cr_37_4 h1, cr_38_1 h1, cr_38_2 h1, cr_38_3 h1, cr_38_4 h1, cr_38_5 h1, cr_38_6 h1, cr_38_7 h1, cr_38_8 h1, cr_39_0 h1, cr_39_1 h1, cr_40_0 h1, cr_40_1 h1, cr_40_2 h1, cr_40_3 h1, cr_40_4 h1, cr_40_5 h1, cn_2 h1, cn_3 h1, cn_4 h1, cn_14 h1, cn_16 h1, cn_18 h1, cn_19 h1, cn_20 h1, cn_21 h1, cn_33 h1, cn_5 h1, cn_6 h1, cn_7 h1, cn_8 h1, cn_9 h1, cn_10 h1, cn_11 h1, cn_12 h1, cn_13 h1, cn_22 h1, cn_23 h1, cn_24 h1, cn_25 h1, cn_26 h1, cn_27 h1, cn_28 h1, cn_29 h1, cn_30 h1, cn_31 h1, cn_32 h1]
  trace_state
  all_goals simp_all [cHas, bI]
theorem C_X2_has {l : Launch} {D : va_G} {cA : Nat → ClassId} {d : Nat} (hst : l.stackTraces = false) (hd : 1 ≤ d) : ∀ (as : List ab_V) (m : ab_M), Ctr l D cA d yX2_has (Cond.code yX2_has cX2_has 2 (some .boolean) :: TB) as m (SP_X2_has as m) := by
  intro as m
  refine ctr_of2 (by decide +kernel) hst (by omega) (snd_X2_has) mt_X2_has ?_
  intro r hr
  unfold SP_X2_has at hr
  split at hr
  · obtain ⟨hp, hr'⟩ := gd_some hr
    obtain ⟨rfl, h1⟩ := hp
    have q := q_X2_has h1 r hr'
    exact ⟨by show 2 ≤ 2; decide, q.1, q.2⟩
  · cases hr
noncomputable def SP_X2_all : List ab_V → ab_M → ab_O := fun as m => match as with
  | [this] => gd (this = vA 35 0 ∧ (CR m)) (okV (vI (cAll (mi m))) m)
  | _ => none
theorem e_X2_all {m : ab_M}  (h1 : CR m) : SP_X2_all [vA 35 0] m = okV (vI (cAll (mi m))) m := gd_pos ⟨rfl, h1⟩
theorem q_X2_all {m : ab_M}  (h1 : CR m) : ∀ r : ab_R, okV (vI (cAll (mi m))) m = some r → (mnc m ≤ mnc (resM r) ∧ mns m ≤ mns (resM r)) ∧ ∀ K : ab_K, Closed T_X2_all (fun r' => r' = r) K → run K (fun r' => r' = r) T_X2_all 0 [some (vA 35 0)] [] m := by
  intro r hr; cases hr
  refine ⟨⟨Nat.le_refl _, Nat.le_refl _⟩, fun K hK => ?_⟩
  simp only [T_X2_all, Bool.false_eq_true, run_some, run_none, run_nil, ab_get0, ab_getS, if_true, if_false, if_pos, true_and, and_true, List.append_nil, List.nil_append, List.cons_append, List.length_cons, List.length_nil, List.take_succ_cons, List.take_zero, List.drop_succ_cons, List.drop_zero, List.reverse_cons, List.reverse_nil, List.map_nil, List.map_cons, List.sum_nil, List.sum_cons, rcv_some, wide_I, wide_L, wide_D, wide_R, wide_X, eq_self_iff_true, ite_true, ite_false, reduceIte, Nat.reduceEqDiff, Nat.reduceLeDiff, Nat.reduceLT, Nat.reduceAdd, Nat.reduceMul, Nat.reduceBEq, decide_true, decide_false, and_self, or_self, or_true, true_or, false_or, or_false, and_false, false_and, not_false_eq_true, not_true_eq_false, Nat.zero_le, Nat.le_refl, Nat.add_eq_zero_iff, Nat.succ_ne_self, s_const, s_iload, s_lload, s_dload, s_aload, s_istore, s_lstore, s_dstore, s_astore, s_iinc, s_bin, s_div, s_binL, s_lcmp, s_i2l, s_i2d, s_ddiv, s_dcmpl, s_goto, s_ifeq, s_iflt, s_ifgt, s_cmpeq, s_cmplt, s_cmpgt, s_ifnull, s_aeq, s_pop, s_dup, s_dup2, s_dupx1, s_tab, s_getI, s_getR, s_putI, s_putZ, s_putR, s_ald, s_ast, s_zast, s_lald, s_last, s_dald, s_dast, s_aald, s_aast, s_alen, s_new, s_newa, s_multi, s_cast, s_getE, s_obj, s_mmin, s_mmax, s_hd, s_call, s_throw, s_ret, s_retL, s_retD, s_retA, s_retV, mi_sI, mi_sR, mi_sL, mi_sD, mi_al, mi_bp, mr_sI, mr_sR, mr_sL, mr_sD, mr_al, mr_bp, ml_sI, ml_sR, ml_sL, ml_sD, ml_al, ml_bp, md_sI, md_sR, md_sL, md_sD, md_al, md_bp, mn_sI, mn_sR, mn_sL, mn_sD, mn_al, mn_bp, mc_sI, mc_sR, mc_sL, mc_sD, mc_al, mc_bp, mnc_sI, mnc_sR, mnc_sL, mnc_sD, mnc_al, mnc_bp, mns_sI, mns_sR, mns_sL, mns_sD, mns_al, mns_bp, SK_0, SK_1, SK_2, SK_3, SK_4, SK_5, SK_6, SK_7, SK_8, SK_9, SK_10, SK_11, SK_12, SK_13, SK_14, SK_15, SK_16, SK_17, SK_18, SK_19, SK_20, SK_21, SK_22, SK_23, SK_24, SK_25, SK_26, SK_27, SK_28, SK_29, SK_30, SK_31, SK_32, SK_33, SK_34, SK_35, SK_36, SK_37, SK_38, SK_39, SK_40, SK_41, SK_42, SK_43, SK_44, SK_45, SK_46, SK_47, SK_48, SK_49, SK_50, SK_51, SK_52, SK_53, SK_54, SK_55, SK_56, SK_57, SK_58, SK_59, SK_60, SK_61, SK_62, SK_63, SK_64, SK_65, st1_0, st1_1, st1_2, st1_3, st1_4, st1_5, st1_6, st1_7, st1_8, st2_0, st2_1, st2_2, st2_3, st2_4, st2_5, st2_6, st2_7, clr_I, clr_R, clr_X, clr_L, clr_D, clr_N, cr_61_0 h1, cr_61_1 h1, cr_61_2 h1, cr_61_3 h1, cr_61_4 h1, cr_61_5 h1, cr_35_1 h1, cr_35_2 h1, cr_35_3 h1, cr_35_4 h1, cr_35_5 h1, cr_35_6 h1, cr_35_7 h1, cr_35_8 h1, cr_35_9 h1, cr_35_10 h1, cr_35_11 h1, cr_36_1 h1, cr_36_2 h1, cr_37_1 h1, cr_37_2 h1, cr_37_3 h1, cr_37_4 h1, cr_38_1 h1, cr_38_2 h1, cr_38_3 h1, cr_38_4 h1, cr_38_5 h1, cr_38_6 h1, cr_38_7 h1, cr_38_8 h1, cr_39_0 h1, cr_39_1 h1, cr_40_0 h1, cr_40_1 h1, cr_40_2 h1, cr_40_3 h1, cr_40_4 h1, cr_40_5 h1, cn_2 h1, cn_3 h1, cn_4 h1, cn_14 h1, cn_16 h1, cn_18 h1, cn_19 h1, cn_20 h1, cn_21 h1, cn_33 h1, cn_5 h1, cn_6 h1, cn_7 h1, cn_8 h1, cn_9 h1, cn_10 h1, cn_11 h1, cn_12 h1, cn_13 h1, cn_22 h1, cn_23 h1, cn_24 h1, cn_25 h1, cn_26 h1, cn_27 h1, cn_28 h1, cn_29 h1, cn_30 h1, cn_31 h1, cn_32 h1]
  rfl
theorem C_X2_all {l : Launch} {D : va_G} {cA : Nat → ClassId} {d : Nat} (hst : l.stackTraces = false) (hd : 1 ≤ d) : ∀ (as : List ab_V) (m : ab_M), Ctr l D cA d yX2_all (Cond.code yX2_all cX2_all 1 (some .int) :: TB) as m (SP_X2_all as m) := by
  intro as m
  refine ctr_of2 (by decide +kernel) hst (by omega) (snd_X2_all) mt_X2_all ?_
  intro r hr
  unfold SP_X2_all at hr
  split at hr
  · obtain ⟨hp, hr'⟩ := gd_some hr
    obtain ⟨rfl, h1⟩ := hp
    have q := q_X2_all h1 r hr'
    exact ⟨by show 1 ≤ 1; decide, q.1, q.2⟩
  · cases hr
noncomputable def SP_X2_livesIn : List ab_V → ab_M → ab_O := fun as m => match as with
  | [this, .inl p, .inl h] => gd (this = vA 35 0 ∧ (CR m) ∧ (inb p 12)) (okV (vI (bI (cLives (mi m) p h))) m)
  | _ => none
theorem e_X2_livesIn {m : ab_M} {p : Int32} {h : Int32} (h1 : CR m) (h2 : inb p 12) : SP_X2_livesIn [vA 35 0, vI p, vI h] m = okV (vI (bI (cLives (mi m) p h))) m := gd_pos ⟨rfl, h1, h2⟩
theorem q_X2_livesIn {m : ab_M} {p : Int32} {h : Int32} (h1 : CR m) (h2 : inb p 12) : ∀ r : ab_R, okV (vI (bI (cLives (mi m) p h))) m = some r → (mnc m ≤ mnc (resM r) ∧ mns m ≤ mns (resM r)) ∧ ∀ K : ab_K, Closed T_X2_livesIn (fun r' => r' = r) K → run K (fun r' => r' = r) T_X2_livesIn 0 [some (vA 35 0), some (vI p), some (vI h)] [] m := by
  intro r hr; cases hr
  refine ⟨⟨Nat.le_refl _, Nat.le_refl _⟩, fun K hK => ?_⟩
  simp only [T_X2_livesIn, h2, Bool.false_eq_true, run_some, run_none, run_nil, ab_get0, ab_getS, if_true, if_false, if_pos, true_and, and_true, List.append_nil, List.nil_append, List.cons_append, List.length_cons, List.length_nil, List.take_succ_cons, List.take_zero, List.drop_succ_cons, List.drop_zero, List.reverse_cons, List.reverse_nil, List.map_nil, List.map_cons, List.sum_nil, List.sum_cons, rcv_some, wide_I, wide_L, wide_D, wide_R, wide_X, eq_self_iff_true, ite_true, ite_false, reduceIte, Nat.reduceEqDiff, Nat.reduceLeDiff, Nat.reduceLT, Nat.reduceAdd, Nat.reduceMul, Nat.reduceBEq, decide_true, decide_false, and_self, or_self, or_true, true_or, false_or, or_false, and_false, false_and, not_false_eq_true, not_true_eq_false, Nat.zero_le, Nat.le_refl, Nat.add_eq_zero_iff, Nat.succ_ne_self, s_const, s_iload, s_lload, s_dload, s_aload, s_istore, s_lstore, s_dstore, s_astore, s_iinc, s_bin, s_div, s_binL, s_lcmp, s_i2l, s_i2d, s_ddiv, s_dcmpl, s_goto, s_ifeq, s_iflt, s_ifgt, s_cmpeq, s_cmplt, s_cmpgt, s_ifnull, s_aeq, s_pop, s_dup, s_dup2, s_dupx1, s_tab, s_getI, s_getR, s_putI, s_putZ, s_putR, s_ald, s_ast, s_zast, s_lald, s_last, s_dald, s_dast, s_aald, s_aast, s_alen, s_new, s_newa, s_multi, s_cast, s_getE, s_obj, s_mmin, s_mmax, s_hd, s_call, s_throw, s_ret, s_retL, s_retD, s_retA, s_retV, mi_sI, mi_sR, mi_sL, mi_sD, mi_al, mi_bp, mr_sI, mr_sR, mr_sL, mr_sD, mr_al, mr_bp, ml_sI, ml_sR, ml_sL, ml_sD, ml_al, ml_bp, md_sI, md_sR, md_sL, md_sD, md_al, md_bp, mn_sI, mn_sR, mn_sL, mn_sD, mn_al, mn_bp, mc_sI, mc_sR, mc_sL, mc_sD, mc_al, mc_bp, mnc_sI, mnc_sR, mnc_sL, mnc_sD, mnc_al, mnc_bp, mns_sI, mns_sR, mns_sL, mns_sD, mns_al, mns_bp, SK_0, SK_1, SK_2, SK_3, SK_4, SK_5, SK_6, SK_7, SK_8, SK_9, SK_10, SK_11, SK_12, SK_13, SK_14, SK_15, SK_16, SK_17, SK_18, SK_19, SK_20, SK_21, SK_22, SK_23, SK_24, SK_25, SK_26, SK_27, SK_28, SK_29, SK_30, SK_31, SK_32, SK_33, SK_34, SK_35, SK_36, SK_37, SK_38, SK_39, SK_40, SK_41, SK_42, SK_43, SK_44, SK_45, SK_46, SK_47, SK_48, SK_49, SK_50, SK_51, SK_52, SK_53, SK_54, SK_55, SK_56, SK_57, SK_58, SK_59, SK_60, SK_61, SK_62, SK_63, SK_64, SK_65, st1_0, st1_1, st1_2, st1_3, st1_4, st1_5, st1_6, st1_7, st1_8, st2_0, st2_1, st2_2, st2_3, st2_4, st2_5, st2_6, st2_7, clr_I, clr_R, clr_X, clr_L, clr_D, clr_N, cr_61_0 h1, cr_61_1 h1, cr_61_2 h1, cr_61_3 h1, cr_61_4 h1, cr_61_5 h1, cr_35_1 h1, cr_35_2 h1, cr_35_3 h1, cr_35_4 h1, cr_35_5 h1, cr_35_6 h1, cr_35_7 h1, cr_35_8 h1, cr_35_9 h1, cr_35_10 h1, cr_35_11 h1, cr_36_1 h1, cr_36_2 h1, cr_37_1 h1, cr_37_2 h1, cr_37_3 h1, cr_37_4 h1, cr_38_1 h1, cr_38_2 h1, cr_38_3 h1, cr_38_4 h1, cr_38_5 h1, cr_38_6 h1, cr_38_7 h1, cr_38_8 h1, cr_39_0 h1, cr_39_1 h1, cr_40_0 h1, cr_40_1 h1, cr_40_2 h1, cr_40_3 h1, cr_40_4 h1, cr_40_5 h1, cn_2 h1, cn_3 h1, cn_4 h1, cn_14 h1, cn_16 h1, cn_18 h1, cn_19 h1, cn_20 h1, cn_21 h1, cn_33 h1, cn_5 h1, cn_6 h1, cn_7 h1, cn_8 h1, cn_9 h1, cn_10 h1, cn_11 h1, cn_12 h1, cn_13 h1, cn_22 h1, cn_23 h1, cn_24 h1, cn_25 h1, cn_26 h1, cn_27 h1, cn_28 h1, cn_29 h1, cn_30 h1, cn_31 h1, cn_32 h1]
  trace_state
  all_goals simp_all [cLives, bI]
theorem C_X2_livesIn {l : Launch} {D : va_G} {cA : Nat → ClassId} {d : Nat} (hst : l.stackTraces = false) (hd : 1 ≤ d) : ∀ (as : List ab_V) (m : ab_M), Ctr l D cA d yX2_livesIn (Cond.code yX2_livesIn cX2_livesIn 3 (some .boolean) :: TB) as m (SP_X2_livesIn as m) := by
  intro as m
  refine ctr_of2 (by decide +kernel) hst (by omega) (snd_X2_livesIn) mt_X2_livesIn ?_
  intro r hr
  unfold SP_X2_livesIn at hr
  split at hr
  · obtain ⟨hp, hr'⟩ := gd_some hr
    obtain ⟨rfl, h1, h2⟩ := hp
    have q := q_X2_livesIn h1 h2 r hr'
    exact ⟨by show 3 ≤ 3; decide, q.1, q.2⟩
  · cases hr
