/-! more of the reference's small methods -/
noncomputable def SP_X9_nameOf : List ab_V → ab_M → ab_O := fun as m => match as with
  | [this, .inl p] => gd (this = vA 62 0 ∧ (RM m) ∧ (inb p (np (rc m)))) ((okV (vI (if rc m 7 0 p.toNatClampNeg < 5 then -1 else if rc m 15 p.toNatClampNeg 5 = -1 then -1 else 12 * rc m 15 p.toNatClampNeg 5 + p)) m))
  | _ => none
theorem e_X9_nameOf {m : ab_M} {p : Int32} (h1 : RM m) (h2 : inb p (np (rc m))) : SP_X9_nameOf [vA 62 0, vI p] m = (okV (vI (if rc m 7 0 p.toNatClampNeg < 5 then -1 else if rc m 15 p.toNatClampNeg 5 = -1 then -1 else 12 * rc m 15 p.toNatClampNeg 5 + p)) m) := gd_pos ⟨rfl, h1, h2⟩
theorem q_X9_nameOf {m : ab_M} {p : Int32} (h1 : RM m) (h2 : inb p (np (rc m))) : ∀ r : ab_R, (okV (vI (if rc m 7 0 p.toNatClampNeg < 5 then -1 else if rc m 15 p.toNatClampNeg 5 = -1 then -1 else 12 * rc m 15 p.toNatClampNeg 5 + p)) m) = some r → (mnc m ≤ mnc (resM r) ∧ mns m ≤ mns (resM r)) ∧ ∀ K : ab_K, Closed (T_X9_nameOf SP_Jx4a65c_get_915e3) (fun r' => r' = r) K → run K (fun r' => r' = r) (T_X9_nameOf SP_Jx4a65c_get_915e3) 0 [some (vA 62 0), some (vI p), none] [] m := by
  intro r hr; cases hr
  refine ⟨⟨Nat.le_refl _, Nat.le_refl _⟩, fun K hK => ?_⟩
  have a1 := h1.1.1
  have g1 := get_P h1 h2
  have hp := (inb_eq h2).2
  have hc := h1.2.2.2.2.2.1 p.toNatClampNeg (by have := h1.2.1.2; omega)
  obtain ⟨c1, c2, c3, c4, c5, c6⟩ := hc
  have g2 : mi m 48 p.toNatClampNeg 2 = rc m 7 0 p.toNatClampNeg := rfl
  have g3 : mi m 41 p.toNatClampNeg 5 = rc m 15 p.toNatClampNeg 5 := rfl
  simp only [T_X9_nameOf, a1, g1, g2, g3, c1, c3, inb5, show (5 : Int32).toNatClampNeg = 5 from rfl, i10, Bool.false_eq_true, Bool.true_eq_false, Bool.not_true, Bool.not_false, ↓run_hit, ↓run_miss, ↓run_none, run_nil, ab_get0, ab_getS, if_true, if_false, if_pos, true_and, and_true, List.append_nil, List.nil_append, List.cons_append, List.length_cons, List.length_nil, List.take_succ_cons, List.take_zero, List.drop_succ_cons, List.drop_zero, List.reverse_cons, List.reverse_nil, List.map_nil, List.map_cons, List.sum_nil, List.sum_cons, rcv_some, rcv_999, wide_I, wide_L, wide_D, wide_R, wide_X, eq_self_iff_true, ite_true, ite_false, ↓reduceIte, Nat.reduceEqDiff, Nat.reduceLeDiff, Nat.reduceLT, Nat.reduceAdd, Nat.reduceMul, Nat.reduceBEq, decide_true, decide_false, and_self, or_self, or_true, true_or, false_or, or_false, and_false, false_and, not_false_eq_true, not_true_eq_false, Nat.zero_le, Nat.le_refl, Nat.add_eq_zero_iff, Nat.succ_ne_self, ↓s_const, ↓s_iload, ↓s_lload, ↓s_dload, ↓s_aload, ↓s_istore, ↓s_lstore, ↓s_dstore, ↓s_astore, ↓s_iinc, ↓s_bin, ↓s_div, ↓s_binL, ↓s_lcmp, ↓s_i2l, ↓s_i2d, ↓s_ddiv, ↓s_dcmpl, ↓s_goto, ↓s_ifeq, ↓s_iflt, ↓s_ifgt, ↓s_cmpeq, ↓s_cmplt, ↓s_cmpgt, ↓s_ifnull, ↓s_aeq, ↓s_pop, ↓s_dup, ↓s_dup2, ↓s_dupx1, ↓s_tab, ↓s_getI, ↓s_getR, ↓s_putI, ↓s_putZ, ↓s_putR, ↓s_ald, ↓s_ast, ↓s_zast, ↓s_lald, ↓s_last, ↓s_dald, ↓s_dast, ↓s_aald, ↓s_aast, ↓s_alen, ↓s_new, ↓s_newa, ↓s_multi, ↓s_cast, ↓s_getE, ↓s_obj, ↓s_mmin, ↓s_mmax, ↓s_hd, ↓s_call, ↓s_throw, ↓s_ret, ↓s_retL, ↓s_retD, ↓s_retA, ↓s_retV, mi_wI, mr_wI, mn_wI, mc_wI, sI_wI, u3_ap, mi_sI, mi_sR, mi_sL, mi_sD, mi_al, mi_bp, mr_sI, mr_sR, mr_sL, mr_sD, mr_al, mr_bp, ml_sI, ml_sR, ml_sL, ml_sD, ml_al, ml_bp, md_sI, md_sR, md_sL, md_sD, md_al, md_bp, mn_sI, mn_sR, mn_sL, mn_sD, mn_al, mn_bp, mc_sI, mc_sR, mc_sL, mc_sD, mc_al, mc_bp, mnc_sI, mnc_sR, mnc_sL, mnc_sD, mnc_al, mnc_bp, mns_sI, mns_sR, mns_sL, mns_sD, mns_al, mns_bp, SK_0, SK_1, SK_2, SK_3, SK_4, SK_5, SK_6, SK_7, SK_8, SK_9, SK_10, SK_11, SK_12, SK_13, SK_14, SK_15, SK_16, SK_17, SK_18, SK_19, SK_20, SK_21, SK_22, SK_23, SK_24, SK_25, SK_26, SK_27, SK_28, SK_29, SK_30, SK_31, SK_32, SK_33, SK_34, SK_35, SK_36, SK_37, SK_38, SK_39, SK_40, SK_41, SK_42, SK_43, SK_44, SK_45, SK_46, SK_47, SK_48, SK_49, SK_50, SK_51, SK_52, SK_53, SK_54, SK_55, SK_56, SK_57, SK_58, SK_59, SK_60, SK_61, SK_62, SK_63, SK_64, SK_65, st1_0, st1_1, st1_2, st1_3, st1_4, st1_5, st1_6, st1_7, st1_8, st2_0, st2_1, st2_2, st2_3, st2_4, st2_5, st2_6, st2_7, clr_I, clr_R, clr_X, clr_L, clr_D, clr_N]
  repeat' split
  all_goals simp_all only [if_true, if_false]
theorem C_X9_nameOf {l : Launch} {D : va_G} {cA : Nat → ClassId} {d : Nat} (hst : l.stackTraces = false) (hd : 4 ≤ d) : ∀ (as : List ab_V) (m : ab_M), Ctr l D cA d yX9_nameOf (Cond.code yX9_nameOf cX9_nameOf 3 (some .int) :: TB) as m (SP_X9_nameOf as m) := by
  intro as m
  refine ctr_of2 (by decide +kernel) hst (by omega) (snd_X9_nameOf (d' := 3) (hd9 := by omega) (hC_Jx4a65c_get_915e3 := C_Jx4a65c_get_915e3 hst (by omega))) mt_X9_nameOf ?_
  intro r hr
  unfold SP_X9_nameOf at hr
  split at hr
  · obtain ⟨hp, hr'⟩ := gd_some hr
    obtain ⟨rfl, h1, h2⟩ := hp
    have q := q_X9_nameOf h1 h2 r hr'
    exact ⟨by show 2 ≤ 3; decide, q.1, q.2⟩
  · cases hr
noncomputable def SP_X9_giverOf : List ab_V → ab_M → ab_O := fun as m => match as with
  | [this, .inl p, .inl s, .inl b] => gd (this = vA 62 0 ∧ (RM m) ∧ (inb p (np (rc m))) ∧ (inb s 10)) ((okV (vI (if rc m 7 0 p.toNatClampNeg < s then -1 else if b = 0 then rc m 15 p.toNatClampNeg s.toNatClampNeg else rc m 17 p.toNatClampNeg s.toNatClampNeg)) m))
  | _ => none
theorem e_X9_giverOf {m : ab_M} {p : Int32} {s : Int32} {b : Int32} (h1 : RM m) (h2 : inb p (np (rc m))) (h3 : inb s 10) : SP_X9_giverOf [vA 62 0, vI p, vI s, vI b] m = (okV (vI (if rc m 7 0 p.toNatClampNeg < s then -1 else if b = 0 then rc m 15 p.toNatClampNeg s.toNatClampNeg else rc m 17 p.toNatClampNeg s.toNatClampNeg)) m) := gd_pos ⟨rfl, h1, h2, h3⟩
theorem q_X9_giverOf {m : ab_M} {p : Int32} {s : Int32} {b : Int32} (h1 : RM m) (h2 : inb p (np (rc m))) (h3 : inb s 10) : ∀ r : ab_R, (okV (vI (if rc m 7 0 p.toNatClampNeg < s then -1 else if b = 0 then rc m 15 p.toNatClampNeg s.toNatClampNeg else rc m 17 p.toNatClampNeg s.toNatClampNeg)) m) = some r → (mnc m ≤ mnc (resM r) ∧ mns m ≤ mns (resM r)) ∧ ∀ K : ab_K, Closed (T_X9_giverOf SP_Jx4a65c_get_915e3) (fun r' => r' = r) K → run K (fun r' => r' = r) (T_X9_giverOf SP_Jx4a65c_get_915e3) 0 [some (vA 62 0), some (vI p), some (vI s), some (vI b), none] [] m := by
  intro r hr; cases hr
  refine ⟨⟨Nat.le_refl _, Nat.le_refl _⟩, fun K hK => ?_⟩
  have a1 := h1.1.1
  have g1 := get_P h1 h2
  have hp := (inb_eq h2).2
  have hc := h1.2.2.2.2.2.1 p.toNatClampNeg (by have := h1.2.1.2; omega)
  obtain ⟨c1, c2, c3, c4, c5, c6⟩ := hc
  have g2 : mi m 48 p.toNatClampNeg 2 = rc m 7 0 p.toNatClampNeg := rfl
  have g3 : mi m 41 p.toNatClampNeg s.toNatClampNeg = rc m 15 p.toNatClampNeg s.toNatClampNeg := rfl
  have g4 : mi m 42 p.toNatClampNeg s.toNatClampNeg = rc m 17 p.toNatClampNeg s.toNatClampNeg := rfl
  simp only [T_X9_giverOf, a1, g1, g2, g3, g4, c1, c2, c3, c4, h3, i10, Bool.false_eq_true, Bool.true_eq_false, Bool.not_true, Bool.not_false, ↓run_hit, ↓run_miss, ↓run_none, run_nil, ab_get0, ab_getS, if_true, if_false, if_pos, true_and, and_true, List.append_nil, List.nil_append, List.cons_append, List.length_cons, List.length_nil, List.take_succ_cons, List.take_zero, List.drop_succ_cons, List.drop_zero, List.reverse_cons, List.reverse_nil, List.map_nil, List.map_cons, List.sum_nil, List.sum_cons, rcv_some, rcv_999, wide_I, wide_L, wide_D, wide_R, wide_X, eq_self_iff_true, ite_true, ite_false, ↓reduceIte, Nat.reduceEqDiff, Nat.reduceLeDiff, Nat.reduceLT, Nat.reduceAdd, Nat.reduceMul, Nat.reduceBEq, decide_true, decide_false, and_self, or_self, or_true, true_or, false_or, or_false, and_false, false_and, not_false_eq_true, not_true_eq_false, Nat.zero_le, Nat.le_refl, Nat.add_eq_zero_iff, Nat.succ_ne_self, ↓s_const, ↓s_iload, ↓s_lload, ↓s_dload, ↓s_aload, ↓s_istore, ↓s_lstore, ↓s_dstore, ↓s_astore, ↓s_iinc, ↓s_bin, ↓s_div, ↓s_binL, ↓s_lcmp, ↓s_i2l, ↓s_i2d, ↓s_ddiv, ↓s_dcmpl, ↓s_goto, ↓s_ifeq, ↓s_iflt, ↓s_ifgt, ↓s_cmpeq, ↓s_cmplt, ↓s_cmpgt, ↓s_ifnull, ↓s_aeq, ↓s_pop, ↓s_dup, ↓s_dup2, ↓s_dupx1, ↓s_tab, ↓s_getI, ↓s_getR, ↓s_putI, ↓s_putZ, ↓s_putR, ↓s_ald, ↓s_ast, ↓s_zast, ↓s_lald, ↓s_last, ↓s_dald, ↓s_dast, ↓s_aald, ↓s_aast, ↓s_alen, ↓s_new, ↓s_newa, ↓s_multi, ↓s_cast, ↓s_getE, ↓s_obj, ↓s_mmin, ↓s_mmax, ↓s_hd, ↓s_call, ↓s_throw, ↓s_ret, ↓s_retL, ↓s_retD, ↓s_retA, ↓s_retV, mi_wI, mr_wI, mn_wI, mc_wI, sI_wI, u3_ap, mi_sI, mi_sR, mi_sL, mi_sD, mi_al, mi_bp, mr_sI, mr_sR, mr_sL, mr_sD, mr_al, mr_bp, ml_sI, ml_sR, ml_sL, ml_sD, ml_al, ml_bp, md_sI, md_sR, md_sL, md_sD, md_al, md_bp, mn_sI, mn_sR, mn_sL, mn_sD, mn_al, mn_bp, mc_sI, mc_sR, mc_sL, mc_sD, mc_al, mc_bp, mnc_sI, mnc_sR, mnc_sL, mnc_sD, mnc_al, mnc_bp, mns_sI, mns_sR, mns_sL, mns_sD, mns_al, mns_bp, SK_0, SK_1, SK_2, SK_3, SK_4, SK_5, SK_6, SK_7, SK_8, SK_9, SK_10, SK_11, SK_12, SK_13, SK_14, SK_15, SK_16, SK_17, SK_18, SK_19, SK_20, SK_21, SK_22, SK_23, SK_24, SK_25, SK_26, SK_27, SK_28, SK_29, SK_30, SK_31, SK_32, SK_33, SK_34, SK_35, SK_36, SK_37, SK_38, SK_39, SK_40, SK_41, SK_42, SK_43, SK_44, SK_45, SK_46, SK_47, SK_48, SK_49, SK_50, SK_51, SK_52, SK_53, SK_54, SK_55, SK_56, SK_57, SK_58, SK_59, SK_60, SK_61, SK_62, SK_63, SK_64, SK_65, st1_0, st1_1, st1_2, st1_3, st1_4, st1_5, st1_6, st1_7, st1_8, st2_0, st2_1, st2_2, st2_3, st2_4, st2_5, st2_6, st2_7, clr_I, clr_R, clr_X, clr_L, clr_D, clr_N]
  repeat' split
  all_goals simp_all only [if_true, if_false]
theorem C_X9_giverOf {l : Launch} {D : va_G} {cA : Nat → ClassId} {d : Nat} (hst : l.stackTraces = false) (hd : 4 ≤ d) : ∀ (as : List ab_V) (m : ab_M), Ctr l D cA d yX9_giverOf (Cond.code yX9_giverOf cX9_giverOf 5 (some .int) :: TB) as m (SP_X9_giverOf as m) := by
  intro as m
  refine ctr_of2 (by decide +kernel) hst (by omega) (snd_X9_giverOf (d' := 3) (hd9 := by omega) (hC_Jx4a65c_get_915e3 := C_Jx4a65c_get_915e3 hst (by omega))) mt_X9_giverOf ?_
  intro r hr
  unfold SP_X9_giverOf at hr
  split at hr
  · obtain ⟨hp, hr'⟩ := gd_some hr
    obtain ⟨rfl, h1, h2, h3⟩ := hp
    have q := q_X9_giverOf h1 h2 h3 r hr'
    exact ⟨by show 4 ≤ 5; decide, q.1, q.2⟩
  · cases hr
def rCan (c : ab_C) (u : Nat) (k h : Int32) : Bool := decide (c 26 0 u = k) && (decide (c 30 0 u = h) && (decide (c 32 0 u = 0) && (decide (c 27 0 u = -1) || decide (c 27 0 u = cSeason (c 61 0 6)))))
noncomputable def SP_X9_canBe : List ab_V → ab_M → ab_O := fun as m => match as with
  | [this, .inr (.inr (.inr (.inl (some u)))), .inl k, .inl h] => gd (this = vA 62 0 ∧ (u.1 = 53)) ((okV (vI (bI (rCan (rc m) u.2 k h))) m))
  | _ => none
theorem e_X9_canBe {m : ab_M} {u : Nat × Nat} {k : Int32} {h : Int32} (h1 : u.1 = 53) : SP_X9_canBe [vA 62 0, vR (some u), vI k, vI h] m = (okV (vI (bI (rCan (rc m) u.2 k h))) m) := gd_pos ⟨rfl, h1⟩
theorem q_X9_canBe {m : ab_M} {u : Nat × Nat} {k : Int32} {h : Int32} (h1 : u.1 = 53) : ∀ r : ab_R, (okV (vI (bI (rCan (rc m) u.2 k h))) m) = some r → (mnc m ≤ mnc (resM r) ∧ mns m ≤ mns (resM r)) ∧ ∀ K : ab_K, Closed (T_X9_canBe SP_X9_season) (fun r' => r' = r) K → run K (fun r' => r' = r) (T_X9_canBe SP_X9_season) 0 [some (vA 62 0), some (vR (some u)), some (vI k), some (vI h)] [] m := by
  intro r hr; cases hr
  refine ⟨⟨Nat.le_refl _, Nat.le_refl _⟩, fun K hK => ?_⟩
  obtain ⟨s, u⟩ := u
  simp only at h1
  subst h1
  have e1 := e_X9_season (m := m) trivial
  have g0 : mi m 53 u 0 = rc m 26 0 u := rfl
  have g1 : mi m 53 u 1 = rc m 27 0 u := rfl
  have g4 : mi m 53 u 4 = rc m 30 0 u := rfl
  have g5 : mi m 53 u 5 = rc m 32 0 u := rfl
  have g6 : mi m 62 0 5 = rc m 61 0 6 := rfl
  simp only [T_X9_canBe, e1, g0, g1, g4, g5, g6, i10, Bool.false_eq_true, Bool.true_eq_false, Bool.not_true, Bool.not_false, ↓run_hit, ↓run_miss, ↓run_none, run_nil, ab_get0, ab_getS, if_true, if_false, if_pos, true_and, and_true, List.append_nil, List.nil_append, List.cons_append, List.length_cons, List.length_nil, List.take_succ_cons, List.take_zero, List.drop_succ_cons, List.drop_zero, List.reverse_cons, List.reverse_nil, List.map_nil, List.map_cons, List.sum_nil, List.sum_cons, rcv_some, rcv_999, wide_I, wide_L, wide_D, wide_R, wide_X, eq_self_iff_true, ite_true, ite_false, ↓reduceIte, Nat.reduceEqDiff, Nat.reduceLeDiff, Nat.reduceLT, Nat.reduceAdd, Nat.reduceMul, Nat.reduceBEq, decide_true, decide_false, and_self, or_self, or_true, true_or, false_or, or_false, and_false, false_and, not_false_eq_true, not_true_eq_false, Nat.zero_le, Nat.le_refl, Nat.add_eq_zero_iff, Nat.succ_ne_self, ↓s_const, ↓s_iload, ↓s_lload, ↓s_dload, ↓s_aload, ↓s_istore, ↓s_lstore, ↓s_dstore, ↓s_astore, ↓s_iinc, ↓s_bin, ↓s_div, ↓s_binL, ↓s_lcmp, ↓s_i2l, ↓s_i2d, ↓s_ddiv, ↓s_dcmpl, ↓s_goto, ↓s_ifeq, ↓s_iflt, ↓s_ifgt, ↓s_cmpeq, ↓s_cmplt, ↓s_cmpgt, ↓s_ifnull, ↓s_aeq, ↓s_pop, ↓s_dup, ↓s_dup2, ↓s_dupx1, ↓s_tab, ↓s_getI, ↓s_getR, ↓s_putI, ↓s_putZ, ↓s_putR, ↓s_ald, ↓s_ast, ↓s_zast, ↓s_lald, ↓s_last, ↓s_dald, ↓s_dast, ↓s_aald, ↓s_aast, ↓s_alen, ↓s_new, ↓s_newa, ↓s_multi, ↓s_cast, ↓s_getE, ↓s_obj, ↓s_mmin, ↓s_mmax, ↓s_hd, ↓s_call, ↓s_throw, ↓s_ret, ↓s_retL, ↓s_retD, ↓s_retA, ↓s_retV, mi_wI, mr_wI, mn_wI, mc_wI, sI_wI, u3_ap, mi_sI, mi_sR, mi_sL, mi_sD, mi_al, mi_bp, mr_sI, mr_sR, mr_sL, mr_sD, mr_al, mr_bp, ml_sI, ml_sR, ml_sL, ml_sD, ml_al, ml_bp, md_sI, md_sR, md_sL, md_sD, md_al, md_bp, mn_sI, mn_sR, mn_sL, mn_sD, mn_al, mn_bp, mc_sI, mc_sR, mc_sL, mc_sD, mc_al, mc_bp, mnc_sI, mnc_sR, mnc_sL, mnc_sD, mnc_al, mnc_bp, mns_sI, mns_sR, mns_sL, mns_sD, mns_al, mns_bp, SK_0, SK_1, SK_2, SK_3, SK_4, SK_5, SK_6, SK_7, SK_8, SK_9, SK_10, SK_11, SK_12, SK_13, SK_14, SK_15, SK_16, SK_17, SK_18, SK_19, SK_20, SK_21, SK_22, SK_23, SK_24, SK_25, SK_26, SK_27, SK_28, SK_29, SK_30, SK_31, SK_32, SK_33, SK_34, SK_35, SK_36, SK_37, SK_38, SK_39, SK_40, SK_41, SK_42, SK_43, SK_44, SK_45, SK_46, SK_47, SK_48, SK_49, SK_50, SK_51, SK_52, SK_53, SK_54, SK_55, SK_56, SK_57, SK_58, SK_59, SK_60, SK_61, SK_62, SK_63, SK_64, SK_65, st1_0, st1_1, st1_2, st1_3, st1_4, st1_5, st1_6, st1_7, st1_8, st2_0, st2_1, st2_2, st2_3, st2_4, st2_5, st2_6, st2_7, clr_I, clr_R, clr_X, clr_L, clr_D, clr_N]
  repeat' split
  all_goals simp_all [rCan, bI]
theorem C_X9_canBe {l : Launch} {D : va_G} {cA : Nat → ClassId} {d : Nat} (hst : l.stackTraces = false) (hd : 2 ≤ d) : ∀ (as : List ab_V) (m : ab_M), Ctr l D cA d yX9_canBe (Cond.code yX9_canBe cX9_canBe 4 (some .boolean) :: TB) as m (SP_X9_canBe as m) := by
  intro as m
  refine ctr_of2 (by decide +kernel) hst (by omega) (snd_X9_canBe (d' := 1) (hd9 := by omega) (hC_X9_season := C_X9_season hst (by omega))) mt_X9_canBe ?_
  intro r hr
  unfold SP_X9_canBe at hr
  split at hr
  · obtain ⟨hp, hr'⟩ := gd_some hr
    obtain ⟨rfl, h1⟩ := hp
    have q := q_X9_canBe h1 r hr'
    exact ⟨by show 4 ≤ 4; decide, q.1, q.2⟩
  · cases hr
def rSeen (c : ab_C) (u p : Nat) : Bool := ! decide (c 34 u p = -1) && ! decide (c 34 u p < c 61 0 6 - 120)
noncomputable def SP_X9_hasSeen : List ab_V → ab_M → ab_O := fun as m => match as with
  | [this, .inr (.inr (.inr (.inl (some u)))), .inl p] => gd (this = vA 62 0 ∧ (RM m) ∧ (u.1 = 53) ∧ (u.2 < 12) ∧ (inb p 12)) ((okV (vI (bI (rSeen (rc m) u.2 p.toNatClampNeg))) m))
  | _ => none
theorem e_X9_hasSeen {m : ab_M} {u : Nat × Nat} {p : Int32} (h1 : RM m) (h2 : u.1 = 53) (h3 : u.2 < 12) (h4 : inb p 12) : SP_X9_hasSeen [vA 62 0, vR (some u), vI p] m = (okV (vI (bI (rSeen (rc m) u.2 p.toNatClampNeg))) m) := gd_pos ⟨rfl, h1, h2, h3, h4⟩
theorem q_X9_hasSeen {m : ab_M} {u : Nat × Nat} {p : Int32} (h1 : RM m) (h2 : u.1 = 53) (h3 : u.2 < 12) (h4 : inb p 12) : ∀ r : ab_R, (okV (vI (bI (rSeen (rc m) u.2 p.toNatClampNeg))) m) = some r → (mnc m ≤ mnc (resM r) ∧ mns m ≤ mns (resM r)) ∧ ∀ K : ab_K, Closed T_X9_hasSeen (fun r' => r' = r) K → run K (fun r' => r' = r) T_X9_hasSeen 0 [some (vA 62 0), some (vR (some u)), some (vI p)] [] m := by
  intro r hr; cases hr
  refine ⟨⟨Nat.le_refl _, Nat.le_refl _⟩, fun K hK => ?_⟩
  obtain ⟨s, u⟩ := u
  simp only at h2 h3
  subst h2
  obtain ⟨c1, c2, c3, c4, c5, c6⟩ := h1.2.2.2.2.2.1 u h3
  have g1 : mi m 43 u p.toNatClampNeg = rc m 34 u p.toNatClampNeg := rfl
  have g6 : mi m 62 0 5 = rc m 61 0 6 := rfl
  simp only [T_X9_hasSeen, c5, c6, h4, g1, g6, i10, Bool.false_eq_true, Bool.true_eq_false, Bool.not_true, Bool.not_false, ↓run_hit, ↓run_miss, ↓run_none, run_nil, ab_get0, ab_getS, if_true, if_false, if_pos, true_and, and_true, List.append_nil, List.nil_append, List.cons_append, List.length_cons, List.length_nil, List.take_succ_cons, List.take_zero, List.drop_succ_cons, List.drop_zero, List.reverse_cons, List.reverse_nil, List.map_nil, List.map_cons, List.sum_nil, List.sum_cons, rcv_some, rcv_999, wide_I, wide_L, wide_D, wide_R, wide_X, eq_self_iff_true, ite_true, ite_false, ↓reduceIte, Nat.reduceEqDiff, Nat.reduceLeDiff, Nat.reduceLT, Nat.reduceAdd, Nat.reduceMul, Nat.reduceBEq, decide_true, decide_false, and_self, or_self, or_true, true_or, false_or, or_false, and_false, false_and, not_false_eq_true, not_true_eq_false, Nat.zero_le, Nat.le_refl, Nat.add_eq_zero_iff, Nat.succ_ne_self, ↓s_const, ↓s_iload, ↓s_lload, ↓s_dload, ↓s_aload, ↓s_istore, ↓s_lstore, ↓s_dstore, ↓s_astore, ↓s_iinc, ↓s_bin, ↓s_div, ↓s_binL, ↓s_lcmp, ↓s_i2l, ↓s_i2d, ↓s_ddiv, ↓s_dcmpl, ↓s_goto, ↓s_ifeq, ↓s_iflt, ↓s_ifgt, ↓s_cmpeq, ↓s_cmplt, ↓s_cmpgt, ↓s_ifnull, ↓s_aeq, ↓s_pop, ↓s_dup, ↓s_dup2, ↓s_dupx1, ↓s_tab, ↓s_getI, ↓s_getR, ↓s_putI, ↓s_putZ, ↓s_putR, ↓s_ald, ↓s_ast, ↓s_zast, ↓s_lald, ↓s_last, ↓s_dald, ↓s_dast, ↓s_aald, ↓s_aast, ↓s_alen, ↓s_new, ↓s_newa, ↓s_multi, ↓s_cast, ↓s_getE, ↓s_obj, ↓s_mmin, ↓s_mmax, ↓s_hd, ↓s_call, ↓s_throw, ↓s_ret, ↓s_retL, ↓s_retD, ↓s_retA, ↓s_retV, mi_wI, mr_wI, mn_wI, mc_wI, sI_wI, u3_ap, mi_sI, mi_sR, mi_sL, mi_sD, mi_al, mi_bp, mr_sI, mr_sR, mr_sL, mr_sD, mr_al, mr_bp, ml_sI, ml_sR, ml_sL, ml_sD, ml_al, ml_bp, md_sI, md_sR, md_sL, md_sD, md_al, md_bp, mn_sI, mn_sR, mn_sL, mn_sD, mn_al, mn_bp, mc_sI, mc_sR, mc_sL, mc_sD, mc_al, mc_bp, mnc_sI, mnc_sR, mnc_sL, mnc_sD, mnc_al, mnc_bp, mns_sI, mns_sR, mns_sL, mns_sD, mns_al, mns_bp, SK_0, SK_1, SK_2, SK_3, SK_4, SK_5, SK_6, SK_7, SK_8, SK_9, SK_10, SK_11, SK_12, SK_13, SK_14, SK_15, SK_16, SK_17, SK_18, SK_19, SK_20, SK_21, SK_22, SK_23, SK_24, SK_25, SK_26, SK_27, SK_28, SK_29, SK_30, SK_31, SK_32, SK_33, SK_34, SK_35, SK_36, SK_37, SK_38, SK_39, SK_40, SK_41, SK_42, SK_43, SK_44, SK_45, SK_46, SK_47, SK_48, SK_49, SK_50, SK_51, SK_52, SK_53, SK_54, SK_55, SK_56, SK_57, SK_58, SK_59, SK_60, SK_61, SK_62, SK_63, SK_64, SK_65, st1_0, st1_1, st1_2, st1_3, st1_4, st1_5, st1_6, st1_7, st1_8, st2_0, st2_1, st2_2, st2_3, st2_4, st2_5, st2_6, st2_7, clr_I, clr_R, clr_X, clr_L, clr_D, clr_N]
  repeat' split
  all_goals simp_all only [rSeen, bI, decide_true, decide_false, Bool.not_true, Bool.not_false, Bool.and_self, Bool.and_false, Bool.false_and, Bool.true_and, Bool.and_true, if_true, if_false, Bool.false_eq_true]
theorem C_X9_hasSeen {l : Launch} {D : va_G} {cA : Nat → ClassId} {d : Nat} (hst : l.stackTraces = false) (hd : 1 ≤ d) : ∀ (as : List ab_V) (m : ab_M), Ctr l D cA d yX9_hasSeen (Cond.code yX9_hasSeen cX9_hasSeen 3 (some .boolean) :: TB) as m (SP_X9_hasSeen as m) := by
  intro as m
  refine ctr_of2 (by decide +kernel) hst (by omega) (snd_X9_hasSeen) mt_X9_hasSeen ?_
  intro r hr
  unfold SP_X9_hasSeen at hr
  split at hr
  · obtain ⟨hp, hr'⟩ := gd_some hr
    obtain ⟨rfl, h1, h2, h3, h4⟩ := hp
    have q := q_X9_hasSeen h1 h2 h3 h4 r hr'
    exact ⟨by show 3 ≤ 3; decide, q.1, q.2⟩
  · cases hr
noncomputable def SP_X9_isUnderstood : List ab_V → ab_M → ab_O := fun as m => match as with
  | [this, .inr (.inr (.inr (.inl (some o)))), .inl s] => gd (this = vA 62 0 ∧ (RM m) ∧ (RV (rc m)) ∧ (QC (rc m)) ∧ (o.1 = 48) ∧ (s = -1 ∨ inb s (nsc (rc m)))) ((okV (vI (bI (cUnd (rc m) o.2 8 s))) m))
  | _ => none
theorem e_X9_isUnderstood {m : ab_M} {o : Nat × Nat} {s : Int32} (h1 : RM m) (h2 : RV (rc m)) (h3 : QC (rc m)) (h4 : o.1 = 48) (h5 : s = -1 ∨ inb s (nsc (rc m))) : SP_X9_isUnderstood [vA 62 0, vR (some o), vI s] m = (okV (vI (bI (cUnd (rc m) o.2 8 s))) m) := gd_pos ⟨rfl, h1, h2, h3, h4, h5⟩
theorem q_X9_isUnderstood {m : ab_M} {o : Nat × Nat} {s : Int32} (h1 : RM m) (h2 : RV (rc m)) (h3 : QC (rc m)) (h4 : o.1 = 48) (h5 : s = -1 ∨ inb s (nsc (rc m))) : ∀ r : ab_R, (okV (vI (bI (cUnd (rc m) o.2 8 s))) m) = some r → (mnc m ≤ mnc (resM r) ∧ mns m ≤ mns (resM r)) ∧ ∀ K : ab_K, Closed (T_X9_isUnderstood SP_X9_has SP_Jx4a65c_get_915e3) (fun r' => r' = r) K → run K (fun r' => r' = r) (T_X9_isUnderstood SP_X9_has SP_Jx4a65c_get_915e3) 0 [some (vA 62 0), some (vR (some o)), some (vI s), none] [] m := by
  intro r hr; cases hr
  refine ⟨⟨Nat.le_refl _, Nat.le_refl _⟩, fun K hK => ?_⟩
  obtain ⟨s48, o⟩ := o
  simp only at h4
  subst h4
  obtain ⟨rk, hrk⟩ := h3
  have a1 := h1.1.2.2.1
  simp only at hK ⊢
  generalize hb : cUnd (rc m) o 8 s = b at hK ⊢
  have lp : ∀ (k : Nat) (one : Int32), (one = -1 ∨ (inb one (nsc (rc m)) ∧ rk one.toNatClampNeg < k)) → cUnd (rc m) o k one = b → K 2 [some (vA 62 0), some (vA 48 o), some (vI s), some (vI one)] [] m := by
    intro k
    induction k with
    | zero =>
      intro one ho he
      have e1 : one = -1 := ho.resolve_right (fun z => absurd z.2 (Nat.not_lt_zero _))
      refine run_sound hK mt_X9_isUnderstood (T_X9_isUnderstood_2 SP_X9_has SP_Jx4a65c_get_915e3) (fun x hx => List.mem_append_right _ hx) _ _ _ _ ?_
      simp only [T_X9_isUnderstood_2, e1, i10, Bool.false_eq_true, Bool.true_eq_false, Bool.not_true, Bool.not_false, ↓run_hit, ↓run_miss, ↓run_none, run_nil, ab_get0, ab_getS, if_true, if_false, if_pos, true_and, and_true, List.append_nil, List.nil_append, List.cons_append, List.length_cons, List.length_nil, List.take_succ_cons, List.take_zero, List.drop_succ_cons, List.drop_zero, List.reverse_cons, List.reverse_nil, List.map_nil, List.map_cons, List.sum_nil, List.sum_cons, rcv_some, rcv_999, wide_I, wide_L, wide_D, wide_R, wide_X, eq_self_iff_true, ite_true, ite_false, ↓reduceIte, Nat.reduceEqDiff, Nat.reduceLeDiff, Nat.reduceLT, Nat.reduceAdd, Nat.reduceMul, Nat.reduceBEq, decide_true, decide_false, and_self, or_self, or_true, true_or, false_or, or_false, and_false, false_and, not_false_eq_true, not_true_eq_false, Nat.zero_le, Nat.le_refl, Nat.add_eq_zero_iff, Nat.succ_ne_self, ↓s_const, ↓s_iload, ↓s_lload, ↓s_dload, ↓s_aload, ↓s_istore, ↓s_lstore, ↓s_dstore, ↓s_astore, ↓s_iinc, ↓s_bin, ↓s_div, ↓s_binL, ↓s_lcmp, ↓s_i2l, ↓s_i2d, ↓s_ddiv, ↓s_dcmpl, ↓s_goto, ↓s_ifeq, ↓s_iflt, ↓s_ifgt, ↓s_cmpeq, ↓s_cmplt, ↓s_cmpgt, ↓s_ifnull, ↓s_aeq, ↓s_pop, ↓s_dup, ↓s_dup2, ↓s_dupx1, ↓s_tab, ↓s_getI, ↓s_getR, ↓s_putI, ↓s_putZ, ↓s_putR, ↓s_ald, ↓s_ast, ↓s_zast, ↓s_lald, ↓s_last, ↓s_dald, ↓s_dast, ↓s_aald, ↓s_aast, ↓s_alen, ↓s_new, ↓s_newa, ↓s_multi, ↓s_cast, ↓s_getE, ↓s_obj, ↓s_mmin, ↓s_mmax, ↓s_hd, ↓s_call, ↓s_throw, ↓s_ret, ↓s_retL, ↓s_retD, ↓s_retA, ↓s_retV, mi_wI, mr_wI, mn_wI, mc_wI, sI_wI, u3_ap, mi_sI, mi_sR, mi_sL, mi_sD, mi_al, mi_bp, mr_sI, mr_sR, mr_sL, mr_sD, mr_al, mr_bp, ml_sI, ml_sR, ml_sL, ml_sD, ml_al, ml_bp, md_sI, md_sR, md_sL, md_sD, md_al, md_bp, mn_sI, mn_sR, mn_sL, mn_sD, mn_al, mn_bp, mc_sI, mc_sR, mc_sL, mc_sD, mc_al, mc_bp, mnc_sI, mnc_sR, mnc_sL, mnc_sD, mnc_al, mnc_bp, mns_sI, mns_sR, mns_sL, mns_sD, mns_al, mns_bp, SK_0, SK_1, SK_2, SK_3, SK_4, SK_5, SK_6, SK_7, SK_8, SK_9, SK_10, SK_11, SK_12, SK_13, SK_14, SK_15, SK_16, SK_17, SK_18, SK_19, SK_20, SK_21, SK_22, SK_23, SK_24, SK_25, SK_26, SK_27, SK_28, SK_29, SK_30, SK_31, SK_32, SK_33, SK_34, SK_35, SK_36, SK_37, SK_38, SK_39, SK_40, SK_41, SK_42, SK_43, SK_44, SK_45, SK_46, SK_47, SK_48, SK_49, SK_50, SK_51, SK_52, SK_53, SK_54, SK_55, SK_56, SK_57, SK_58, SK_59, SK_60, SK_61, SK_62, SK_63, SK_64, SK_65, st1_0, st1_1, st1_2, st1_3, st1_4, st1_5, st1_6, st1_7, st1_8, st2_0, st2_1, st2_2, st2_3, st2_4, st2_5, st2_6, st2_7, clr_I, clr_R, clr_X, clr_L, clr_D, clr_N]
      rw [← (show true = b from he)]; rfl
    | succ k ih =>
      intro one ho he
      refine run_sound hK mt_X9_isUnderstood (T_X9_isUnderstood_2 SP_X9_has SP_Jx4a65c_get_915e3) (fun x hx => List.mem_append_right _ hx) _ _ _ _ ?_
      simp only [cUnd] at he
      by_cases e1 : one = -1
      · rw [if_pos e1] at he
        simp only [T_X9_isUnderstood_2, e1, i10, Bool.false_eq_true, Bool.true_eq_false, Bool.not_true, Bool.not_false, ↓run_hit, ↓run_miss, ↓run_none, run_nil, ab_get0, ab_getS, if_true, if_false, if_pos, true_and, and_true, List.append_nil, List.nil_append, List.cons_append, List.length_cons, List.length_nil, List.take_succ_cons, List.take_zero, List.drop_succ_cons, List.drop_zero, List.reverse_cons, List.reverse_nil, List.map_nil, List.map_cons, List.sum_nil, List.sum_cons, rcv_some, rcv_999, wide_I, wide_L, wide_D, wide_R, wide_X, eq_self_iff_true, ite_true, ite_false, ↓reduceIte, Nat.reduceEqDiff, Nat.reduceLeDiff, Nat.reduceLT, Nat.reduceAdd, Nat.reduceMul, Nat.reduceBEq, decide_true, decide_false, and_self, or_self, or_true, true_or, false_or, or_false, and_false, false_and, not_false_eq_true, not_true_eq_false, Nat.zero_le, Nat.le_refl, Nat.add_eq_zero_iff, Nat.succ_ne_self, ↓s_const, ↓s_iload, ↓s_lload, ↓s_dload, ↓s_aload, ↓s_istore, ↓s_lstore, ↓s_dstore, ↓s_astore, ↓s_iinc, ↓s_bin, ↓s_div, ↓s_binL, ↓s_lcmp, ↓s_i2l, ↓s_i2d, ↓s_ddiv, ↓s_dcmpl, ↓s_goto, ↓s_ifeq, ↓s_iflt, ↓s_ifgt, ↓s_cmpeq, ↓s_cmplt, ↓s_cmpgt, ↓s_ifnull, ↓s_aeq, ↓s_pop, ↓s_dup, ↓s_dup2, ↓s_dupx1, ↓s_tab, ↓s_getI, ↓s_getR, ↓s_putI, ↓s_putZ, ↓s_putR, ↓s_ald, ↓s_ast, ↓s_zast, ↓s_lald, ↓s_last, ↓s_dald, ↓s_dast, ↓s_aald, ↓s_aast, ↓s_alen, ↓s_new, ↓s_newa, ↓s_multi, ↓s_cast, ↓s_getE, ↓s_obj, ↓s_mmin, ↓s_mmax, ↓s_hd, ↓s_call, ↓s_throw, ↓s_ret, ↓s_retL, ↓s_retD, ↓s_retA, ↓s_retV, mi_wI, mr_wI, mn_wI, mc_wI, sI_wI, u3_ap, mi_sI, mi_sR, mi_sL, mi_sD, mi_al, mi_bp, mr_sI, mr_sR, mr_sL, mr_sD, mr_al, mr_bp, ml_sI, ml_sR, ml_sL, ml_sD, ml_al, ml_bp, md_sI, md_sR, md_sL, md_sD, md_al, md_bp, mn_sI, mn_sR, mn_sL, mn_sD, mn_al, mn_bp, mc_sI, mc_sR, mc_sL, mc_sD, mc_al, mc_bp, mnc_sI, mnc_sR, mnc_sL, mnc_sD, mnc_al, mnc_bp, mns_sI, mns_sR, mns_sL, mns_sD, mns_al, mns_bp, SK_0, SK_1, SK_2, SK_3, SK_4, SK_5, SK_6, SK_7, SK_8, SK_9, SK_10, SK_11, SK_12, SK_13, SK_14, SK_15, SK_16, SK_17, SK_18, SK_19, SK_20, SK_21, SK_22, SK_23, SK_24, SK_25, SK_26, SK_27, SK_28, SK_29, SK_30, SK_31, SK_32, SK_33, SK_34, SK_35, SK_36, SK_37, SK_38, SK_39, SK_40, SK_41, SK_42, SK_43, SK_44, SK_45, SK_46, SK_47, SK_48, SK_49, SK_50, SK_51, SK_52, SK_53, SK_54, SK_55, SK_56, SK_57, SK_58, SK_59, SK_60, SK_61, SK_62, SK_63, SK_64, SK_65, st1_0, st1_1, st1_2, st1_3, st1_4, st1_5, st1_6, st1_7, st1_8, st2_0, st2_1, st2_2, st2_3, st2_4, st2_5, st2_6, st2_7, clr_I, clr_R, clr_X, clr_L, clr_D, clr_N]
        rw [← he]; rfl
      · obtain ⟨hin, hr⟩ := ho.resolve_left e1
        have hi := (inb_eq hin).2
        have g1 := get_S h1 hin
        have g2 : mi m 48 o 6 = rc m 11 0 o := rfl
        have g3 : mi m 52 one.toNatClampNeg 1 = rc m 23 0 one.toNatClampNeg := rfl
        have g4 : mn m 52 one.toNatClampNeg = 4 := h1.2.2.2.2.2.2.1 _ (by have := h1.2.2.2.1.2; omega)
        have g5 := e_X9_has (m := m) (s := rc m 11 0 o) (k := one) trivial
        rw [if_neg e1] at he
        by_cases e2 : inS (rc m 11 0 o) one = false
        · rw [if_pos e2] at he
          rw [e2] at g5
          simp only [T_X9_isUnderstood_2, e1, a1, g1, g2, g5, bI0, i10, Bool.false_eq_true, Bool.true_eq_false, Bool.not_true, Bool.not_false, ↓run_hit, ↓run_miss, ↓run_none, run_nil, ab_get0, ab_getS, if_true, if_false, if_pos, true_and, and_true, List.append_nil, List.nil_append, List.cons_append, List.length_cons, List.length_nil, List.take_succ_cons, List.take_zero, List.drop_succ_cons, List.drop_zero, List.reverse_cons, List.reverse_nil, List.map_nil, List.map_cons, List.sum_nil, List.sum_cons, rcv_some, rcv_999, wide_I, wide_L, wide_D, wide_R, wide_X, eq_self_iff_true, ite_true, ite_false, ↓reduceIte, Nat.reduceEqDiff, Nat.reduceLeDiff, Nat.reduceLT, Nat.reduceAdd, Nat.reduceMul, Nat.reduceBEq, decide_true, decide_false, and_self, or_self, or_true, true_or, false_or, or_false, and_false, false_and, not_false_eq_true, not_true_eq_false, Nat.zero_le, Nat.le_refl, Nat.add_eq_zero_iff, Nat.succ_ne_self, ↓s_const, ↓s_iload, ↓s_lload, ↓s_dload, ↓s_aload, ↓s_istore, ↓s_lstore, ↓s_dstore, ↓s_astore, ↓s_iinc, ↓s_bin, ↓s_div, ↓s_binL, ↓s_lcmp, ↓s_i2l, ↓s_i2d, ↓s_ddiv, ↓s_dcmpl, ↓s_goto, ↓s_ifeq, ↓s_iflt, ↓s_ifgt, ↓s_cmpeq, ↓s_cmplt, ↓s_cmpgt, ↓s_ifnull, ↓s_aeq, ↓s_pop, ↓s_dup, ↓s_dup2, ↓s_dupx1, ↓s_tab, ↓s_getI, ↓s_getR, ↓s_putI, ↓s_putZ, ↓s_putR, ↓s_ald, ↓s_ast, ↓s_zast, ↓s_lald, ↓s_last, ↓s_dald, ↓s_dast, ↓s_aald, ↓s_aast, ↓s_alen, ↓s_new, ↓s_newa, ↓s_multi, ↓s_cast, ↓s_getE, ↓s_obj, ↓s_mmin, ↓s_mmax, ↓s_hd, ↓s_call, ↓s_throw, ↓s_ret, ↓s_retL, ↓s_retD, ↓s_retA, ↓s_retV, mi_wI, mr_wI, mn_wI, mc_wI, sI_wI, u3_ap, mi_sI, mi_sR, mi_sL, mi_sD, mi_al, mi_bp, mr_sI, mr_sR, mr_sL, mr_sD, mr_al, mr_bp, ml_sI, ml_sR, ml_sL, ml_sD, ml_al, ml_bp, md_sI, md_sR, md_sL, md_sD, md_al, md_bp, mn_sI, mn_sR, mn_sL, mn_sD, mn_al, mn_bp, mc_sI, mc_sR, mc_sL, mc_sD, mc_al, mc_bp, mnc_sI, mnc_sR, mnc_sL, mnc_sD, mnc_al, mnc_bp, mns_sI, mns_sR, mns_sL, mns_sD, mns_al, mns_bp, SK_0, SK_1, SK_2, SK_3, SK_4, SK_5, SK_6, SK_7, SK_8, SK_9, SK_10, SK_11, SK_12, SK_13, SK_14, SK_15, SK_16, SK_17, SK_18, SK_19, SK_20, SK_21, SK_22, SK_23, SK_24, SK_25, SK_26, SK_27, SK_28, SK_29, SK_30, SK_31, SK_32, SK_33, SK_34, SK_35, SK_36, SK_37, SK_38, SK_39, SK_40, SK_41, SK_42, SK_43, SK_44, SK_45, SK_46, SK_47, SK_48, SK_49, SK_50, SK_51, SK_52, SK_53, SK_54, SK_55, SK_56, SK_57, SK_58, SK_59, SK_60, SK_61, SK_62, SK_63, SK_64, SK_65, st1_0, st1_1, st1_2, st1_3, st1_4, st1_5, st1_6, st1_7, st1_8, st2_0, st2_1, st2_2, st2_3, st2_4, st2_5, st2_6, st2_7, clr_I, clr_R, clr_X, clr_L, clr_D, clr_N]
          rw [← he]; rfl
        · rw [if_neg e2] at he
          have e3 : inS (rc m 11 0 o) one = true := by simpa using e2
          rw [e3] at g5
          simp only [T_X9_isUnderstood_2, e1, a1, g1, g2, g3, g4, g5, bI0, show inb 1 4 from by unfold inb; decide, show (1 : Int32).toNatClampNeg = 1 from rfl, i10, Bool.false_eq_true, Bool.true_eq_false, Bool.not_true, Bool.not_false, ↓run_hit, ↓run_miss, ↓run_none, run_nil, ab_get0, ab_getS, if_true, if_false, if_pos, true_and, and_true, List.append_nil, List.nil_append, List.cons_append, List.length_cons, List.length_nil, List.take_succ_cons, List.take_zero, List.drop_succ_cons, List.drop_zero, List.reverse_cons, List.reverse_nil, List.map_nil, List.map_cons, List.sum_nil, List.sum_cons, rcv_some, rcv_999, wide_I, wide_L, wide_D, wide_R, wide_X, eq_self_iff_true, ite_true, ite_false, ↓reduceIte, Nat.reduceEqDiff, Nat.reduceLeDiff, Nat.reduceLT, Nat.reduceAdd, Nat.reduceMul, Nat.reduceBEq, decide_true, decide_false, and_self, or_self, or_true, true_or, false_or, or_false, and_false, false_and, not_false_eq_true, not_true_eq_false, Nat.zero_le, Nat.le_refl, Nat.add_eq_zero_iff, Nat.succ_ne_self, ↓s_const, ↓s_iload, ↓s_lload, ↓s_dload, ↓s_aload, ↓s_istore, ↓s_lstore, ↓s_dstore, ↓s_astore, ↓s_iinc, ↓s_bin, ↓s_div, ↓s_binL, ↓s_lcmp, ↓s_i2l, ↓s_i2d, ↓s_ddiv, ↓s_dcmpl, ↓s_goto, ↓s_ifeq, ↓s_iflt, ↓s_ifgt, ↓s_cmpeq, ↓s_cmplt, ↓s_cmpgt, ↓s_ifnull, ↓s_aeq, ↓s_pop, ↓s_dup, ↓s_dup2, ↓s_dupx1, ↓s_tab, ↓s_getI, ↓s_getR, ↓s_putI, ↓s_putZ, ↓s_putR, ↓s_ald, ↓s_ast, ↓s_zast, ↓s_lald, ↓s_last, ↓s_dald, ↓s_dast, ↓s_aald, ↓s_aast, ↓s_alen, ↓s_new, ↓s_newa, ↓s_multi, ↓s_cast, ↓s_getE, ↓s_obj, ↓s_mmin, ↓s_mmax, ↓s_hd, ↓s_call, ↓s_throw, ↓s_ret, ↓s_retL, ↓s_retD, ↓s_retA, ↓s_retV, mi_wI, mr_wI, mn_wI, mc_wI, sI_wI, u3_ap, mi_sI, mi_sR, mi_sL, mi_sD, mi_al, mi_bp, mr_sI, mr_sR, mr_sL, mr_sD, mr_al, mr_bp, ml_sI, ml_sR, ml_sL, ml_sD, ml_al, ml_bp, md_sI, md_sR, md_sL, md_sD, md_al, md_bp, mn_sI, mn_sR, mn_sL, mn_sD, mn_al, mn_bp, mc_sI, mc_sR, mc_sL, mc_sD, mc_al, mc_bp, mnc_sI, mnc_sR, mnc_sL, mnc_sD, mnc_al, mnc_bp, mns_sI, mns_sR, mns_sL, mns_sD, mns_al, mns_bp, SK_0, SK_1, SK_2, SK_3, SK_4, SK_5, SK_6, SK_7, SK_8, SK_9, SK_10, SK_11, SK_12, SK_13, SK_14, SK_15, SK_16, SK_17, SK_18, SK_19, SK_20, SK_21, SK_22, SK_23, SK_24, SK_25, SK_26, SK_27, SK_28, SK_29, SK_30, SK_31, SK_32, SK_33, SK_34, SK_35, SK_36, SK_37, SK_38, SK_39, SK_40, SK_41, SK_42, SK_43, SK_44, SK_45, SK_46, SK_47, SK_48, SK_49, SK_50, SK_51, SK_52, SK_53, SK_54, SK_55, SK_56, SK_57, SK_58, SK_59, SK_60, SK_61, SK_62, SK_63, SK_64, SK_65, st1_0, st1_1, st1_2, st1_3, st1_4, st1_5, st1_6, st1_7, st1_8, st2_0, st2_1, st2_2, st2_3, st2_4, st2_5, st2_6, st2_7, clr_I, clr_R, clr_X, clr_L, clr_D, clr_N]
          refine ih _ ?_ he
          by_cases z1 : rc m 23 0 one.toNatClampNeg = -1
          · exact Or.inl z1
          · exact Or.inr ⟨(h2.2.2.1 _ hi).resolve_left z1, by have := (hrk _ hi).2 z1; omega⟩
  have := lp 8 s (h5.elim Or.inl (fun z => Or.inr ⟨z, (hrk _ (inb_eq z).2).1⟩)) hb
  simp only [T_X9_isUnderstood, i10, Bool.false_eq_true, Bool.true_eq_false, Bool.not_true, Bool.not_false, ↓run_hit, ↓run_miss, ↓run_none, run_nil, ab_get0, ab_getS, if_true, if_false, if_pos, true_and, and_true, List.append_nil, List.nil_append, List.cons_append, List.length_cons, List.length_nil, List.take_succ_cons, List.take_zero, List.drop_succ_cons, List.drop_zero, List.reverse_cons, List.reverse_nil, List.map_nil, List.map_cons, List.sum_nil, List.sum_cons, rcv_some, rcv_999, wide_I, wide_L, wide_D, wide_R, wide_X, eq_self_iff_true, ite_true, ite_false, ↓reduceIte, Nat.reduceEqDiff, Nat.reduceLeDiff, Nat.reduceLT, Nat.reduceAdd, Nat.reduceMul, Nat.reduceBEq, decide_true, decide_false, and_self, or_self, or_true, true_or, false_or, or_false, and_false, false_and, not_false_eq_true, not_true_eq_false, Nat.zero_le, Nat.le_refl, Nat.add_eq_zero_iff, Nat.succ_ne_self, ↓s_const, ↓s_iload, ↓s_lload, ↓s_dload, ↓s_aload, ↓s_istore, ↓s_lstore, ↓s_dstore, ↓s_astore, ↓s_iinc, ↓s_bin, ↓s_div, ↓s_binL, ↓s_lcmp, ↓s_i2l, ↓s_i2d, ↓s_ddiv, ↓s_dcmpl, ↓s_goto, ↓s_ifeq, ↓s_iflt, ↓s_ifgt, ↓s_cmpeq, ↓s_cmplt, ↓s_cmpgt, ↓s_ifnull, ↓s_aeq, ↓s_pop, ↓s_dup, ↓s_dup2, ↓s_dupx1, ↓s_tab, ↓s_getI, ↓s_getR, ↓s_putI, ↓s_putZ, ↓s_putR, ↓s_ald, ↓s_ast, ↓s_zast, ↓s_lald, ↓s_last, ↓s_dald, ↓s_dast, ↓s_aald, ↓s_aast, ↓s_alen, ↓s_new, ↓s_newa, ↓s_multi, ↓s_cast, ↓s_getE, ↓s_obj, ↓s_mmin, ↓s_mmax, ↓s_hd, ↓s_call, ↓s_throw, ↓s_ret, ↓s_retL, ↓s_retD, ↓s_retA, ↓s_retV, mi_wI, mr_wI, mn_wI, mc_wI, sI_wI, u3_ap, mi_sI, mi_sR, mi_sL, mi_sD, mi_al, mi_bp, mr_sI, mr_sR, mr_sL, mr_sD, mr_al, mr_bp, ml_sI, ml_sR, ml_sL, ml_sD, ml_al, ml_bp, md_sI, md_sR, md_sL, md_sD, md_al, md_bp, mn_sI, mn_sR, mn_sL, mn_sD, mn_al, mn_bp, mc_sI, mc_sR, mc_sL, mc_sD, mc_al, mc_bp, mnc_sI, mnc_sR, mnc_sL, mnc_sD, mnc_al, mnc_bp, mns_sI, mns_sR, mns_sL, mns_sD, mns_al, mns_bp, SK_0, SK_1, SK_2, SK_3, SK_4, SK_5, SK_6, SK_7, SK_8, SK_9, SK_10, SK_11, SK_12, SK_13, SK_14, SK_15, SK_16, SK_17, SK_18, SK_19, SK_20, SK_21, SK_22, SK_23, SK_24, SK_25, SK_26, SK_27, SK_28, SK_29, SK_30, SK_31, SK_32, SK_33, SK_34, SK_35, SK_36, SK_37, SK_38, SK_39, SK_40, SK_41, SK_42, SK_43, SK_44, SK_45, SK_46, SK_47, SK_48, SK_49, SK_50, SK_51, SK_52, SK_53, SK_54, SK_55, SK_56, SK_57, SK_58, SK_59, SK_60, SK_61, SK_62, SK_63, SK_64, SK_65, st1_0, st1_1, st1_2, st1_3, st1_4, st1_5, st1_6, st1_7, st1_8, st2_0, st2_1, st2_2, st2_3, st2_4, st2_5, st2_6, st2_7, clr_I, clr_R, clr_X, clr_L, clr_D, clr_N]
  exact this
theorem C_X9_isUnderstood {l : Launch} {D : va_G} {cA : Nat → ClassId} {d : Nat} (hst : l.stackTraces = false) (hd : 4 ≤ d) : ∀ (as : List ab_V) (m : ab_M), Ctr l D cA d yX9_isUnderstood (Cond.code yX9_isUnderstood cX9_isUnderstood 4 (some .boolean) :: TB) as m (SP_X9_isUnderstood as m) := by
  intro as m
  refine ctr_of2 (by decide +kernel) hst (by omega) (snd_X9_isUnderstood (d' := 3) (hd9 := by omega) (hC_X9_has := C_X9_has hst (by omega)) (hC_Jx4a65c_get_915e3 := C_Jx4a65c_get_915e3 hst (by omega))) mt_X9_isUnderstood ?_
  intro r hr
  unfold SP_X9_isUnderstood at hr
  split at hr
  · obtain ⟨hp, hr'⟩ := gd_some hr
    obtain ⟨rfl, h1, h2, h3, h4, h5⟩ := hp
    have q := q_X9_isUnderstood h1 h2 h3 h4 h5 r hr'
    exact ⟨by show 3 ≤ 4; decide, q.1, q.2⟩
  · cases hr
