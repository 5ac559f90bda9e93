/-! the law: the mean, the digest -/
theorem mid_sD {L n : Nat} {xs : Nat → Int32} {m : ab_M} (h : LIv L xs n m) {v : UInt64} : Mid L xs n (mi m) (rc m) (sD m 64 0 0 v) := by
  obtain ⟨h1, h2, h3, ⟨h4, h5⟩, h6, h7, h8⟩ := h
  refine ⟨h1, RW_of h3 (fun _ _ _ _ => rfl) (fun _ _ _ => rfl) (fun _ _ => rfl) ⟨rfl, rfl, rfl, rfl⟩, rfl, rfl, ⟨h4, h5⟩, h6, ?_, ?_⟩
  · show mnc m ≤ _; omega
  · show mns m ≤ _; omega
theorem mid_bp {L n : Nat} {xs : Nat → Int32} {m : ab_M} (h : LIv L xs n m) : Mid L xs n (mi m) (rc m) (bp m 1 6) := by
  obtain ⟨h1, h2, h3, ⟨h4, h5⟩, h6, h7, h8⟩ := h
  refine ⟨h1, RW_of h3 (fun _ _ _ _ => rfl) (fun _ _ _ => rfl) (fun _ _ => rfl) ⟨rfl, rfl, rfl, rfl⟩, rfl, rfl, ⟨h4, h5⟩, h6, ?_, ?_⟩
  · show mnc m + 1 ≤ _; omega
  · show mns m + 6 ≤ _; omega
set_option maxRecDepth 4000 in
theorem law_c23 {L n : Nat} {xs : Nat → Int32} {m : ab_M} (h : LIv L xs n m) (hL : L ≤ 3072) (hn : 6 * n + 6 ≤ L) : ∃ m', LIv L xs (n + 1) m' ∧ gL (T_L_law_c23 SP_L_meanStep SP_X9_meanStep SP_X9_thrown) 1838 (6 * n) m 2133 (6 * n) m' := by
  obtain ⟨hCR, hST, hRW, ⟨hN, hS⟩, ⟨h63, h64⟩, -⟩ := id h
  obtain ⟨r1, v1⟩ := sc_i (n := n) (j := 1) hL (by omega) (v := 1) rfl
  have eL := e_L_meanStep (h := xs (6 * n + 1)) h64 h.CIm (cMean_vf _ _)
  have hD := cMeanD_self (mi m) (xs (6 * n + 1))
  have hDr := cMeanD_eq hST.1 hST.2.1 (xs (6 * n + 1))
  have hH := hST.1.hasH hST.2.1 (xs (6 * n + 1))
  generalize cMeanD (mi m) (xs (6 * n + 1)) = dv at *
  by_cases z : cHasH (mi m) (xs (6 * n + 1)) = true
  · rw [if_pos z] at eL
    have hM := mid_sD (v := dv) h
    obtain ⟨M1, M2, M3, M4, ⟨M5, M6⟩, -⟩ := id hM
    obtain ⟨v, m', eR, ⟨hF, hW⟩, hr, hc⟩ := e_X9_meanStep (h := xs (6 * n + 1)) M2 (by rw [M3]; exact hST.2.1.rg) (rMn_vf _ _)
    rw [M3] at hr hc
    obtain ⟨g1, -, g3⟩ := mid_end hM hF hW hr (hST.up (Nat.le_succ n)) (by decide) (by decide)
    have y : rHasH (rc m) (xs (6 * n + 1)) = true := hH.symm.trans z
    have hc2 : mi m' 62 0 0 = 0 ∧ v = dv := by
      rcases hc with ⟨c1, -⟩ | ⟨-, c2, c3⟩
      · rw [y] at c1; cases c1
      · exact ⟨c2, c3.trans hDr.symm⟩
    obtain ⟨c2, rfl⟩ := hc2
    have eT : SP_X9_thrown [vA 62 0] m' = okV (vI 0) m' := by rw [e_X9_thrown trivial, c2]
    have N64 := g1.2.2.2.2.1.2
    have D64 : md m' 64 0 0 = v := by rw [g3, md_sD, u3_ap, if_pos ⟨rfl, rfl, rfl⟩]
    refine ⟨m', g1, fun R K hC hk => ?_⟩
    have hk' : ∀ a b c, K 2133 (lL (6 * n) a b c) [] m' := fun a b c => hC.2 _ _ _ _ _ lL_le hk
    clear hk hc hCR hST hRW M1 M2 M3 M4 h63 g1 hM hr hF hW hDr g3
    generalize sD m 64 0 0 v = m1 at *
    refine run_sound hC mt_L_law_c23 _ (fun x hx => hx) _ _ _ _ ?_
    simp only [lL] at hk' ⊢
    simp only [T_L_law_c23, hN, hS, M5, M6, r1, v1, eL, eR, eT, N64, D64, hD, cv_eq0, inb0_1, i0c, i10, Bool.false_eq_true, Bool.true_eq_false, Bool.not_true, Bool.not_false, ↓run_hit, ↓run_miss, ↓run_none, run_nil, ab_get0, ab_getS, if_true, if_false, if_pos, true_and, and_true, List.append_nil, List.nil_append, List.cons_append, List.length_cons, List.length_nil, List.take_succ_cons, List.take_zero, List.drop_succ_cons, List.drop_zero, List.reverse_cons, List.reverse_nil, List.map_nil, List.map_cons, List.sum_nil, List.sum_cons, rcv_some, rcv_999, wide_I, wide_L, wide_D, wide_R, wide_X, eq_self_iff_true, ite_true, ite_false, ↓reduceIte, Nat.reduceEqDiff, Nat.reduceLeDiff, Nat.reduceLT, Nat.reduceAdd, Nat.reduceMul, Nat.reduceBEq, decide_true, decide_false, and_self, or_self, or_true, true_or, false_or, or_false, and_false, false_and, not_false_eq_true, not_true_eq_false, Nat.zero_le, Nat.le_refl, Nat.add_eq_zero_iff, Nat.succ_ne_self, ↓s_const, ↓s_iload, ↓s_lload, ↓s_dload, ↓s_aload, ↓s_istore, ↓s_lstore, ↓s_dstore, ↓s_astore, ↓s_iinc, ↓s_bin, ↓s_div, ↓s_binL, ↓s_lcmp, ↓s_i2l, ↓s_i2d, ↓s_ddiv, ↓s_dcmpl, ↓s_goto, ↓s_ifeq, ↓s_iflt, ↓s_ifgt, ↓s_cmpeq, ↓s_cmplt, ↓s_cmpgt, ↓s_ifnull, ↓s_aeq, ↓s_pop, ↓s_dup, ↓s_dup2, ↓s_dupx1, ↓s_tab, ↓s_getI, ↓s_getR, ↓s_putI, ↓s_putZ, ↓s_putR, ↓s_ald, ↓s_ast, ↓s_zast, ↓s_lald, ↓s_last, ↓s_dald, ↓s_dast, ↓s_aald, ↓s_aast, ↓s_alen, ↓s_new, ↓s_newa, ↓s_multi, ↓s_cast, ↓s_getE, ↓s_obj, ↓s_mmin, ↓s_mmax, ↓s_hd, ↓s_call, ↓s_throw, ↓s_ret, ↓s_retL, ↓s_retD, ↓s_retA, ↓s_retV, mi_wI, mr_wI, mn_wI, mc_wI, sI_wI, u3_ap, mi_sI, mi_sR, mi_sL, mi_sD, mi_al, mi_bp, mr_sI, mr_sR, mr_sL, mr_sD, mr_al, mr_bp, ml_sI, ml_sR, ml_sL, ml_sD, ml_al, ml_bp, md_sI, md_sR, md_sL, md_sD, md_al, md_bp, mn_sI, mn_sR, mn_sL, mn_sD, mn_al, mn_bp, mc_sI, mc_sR, mc_sL, mc_sD, mc_al, mc_bp, mnc_sI, mnc_sR, mnc_sL, mnc_sD, mnc_al, mnc_bp, mns_sI, mns_sR, mns_sL, mns_sD, mns_al, mns_bp, SK_0, SK_1, SK_2, SK_3, SK_4, SK_5, SK_6, SK_7, SK_8, SK_9, SK_10, SK_11, SK_12, SK_13, SK_14, SK_15, SK_16, SK_17, SK_18, SK_19, SK_20, SK_21, SK_22, SK_23, SK_24, SK_25, SK_26, SK_27, SK_28, SK_29, SK_30, SK_31, SK_32, SK_33, SK_34, SK_35, SK_36, SK_37, SK_38, SK_39, SK_40, SK_41, SK_42, SK_43, SK_44, SK_45, SK_46, SK_47, SK_48, SK_49, SK_50, SK_51, SK_52, SK_53, SK_54, SK_55, SK_56, SK_57, SK_58, SK_59, SK_60, SK_61, SK_62, SK_63, SK_64, SK_65, st1_0, st1_1, st1_2, st1_3, st1_4, st1_5, st1_6, st1_7, st1_8, st2_0, st2_1, st2_2, st2_3, st2_4, st2_5, st2_6, st2_7, clr_I, clr_R, clr_X, clr_L, clr_D, clr_N]
    exact hk' _ _ _
  · rw [if_neg z] at eL
    have hM := mid_bp h
    obtain ⟨M1, M2, M3, M4, ⟨M5, M6⟩, -⟩ := id hM
    obtain ⟨v, m', eR, ⟨hF, hW⟩, hr, hc⟩ := e_X9_meanStep (h := xs (6 * n + 1)) M2 (by rw [M3]; exact hST.2.1.rg) (rMn_vf _ _)
    rw [M3] at hr hc
    obtain ⟨g1, -, g3⟩ := mid_end hM hF hW hr (hST.up (Nat.le_succ n)) (by decide) (by decide)
    have y : ¬ rHasH (rc m) (xs (6 * n + 1)) = true := fun q => z (hH.trans q)
    have hc2 : mi m' 62 0 0 = 1 := by
      rcases hc with ⟨-, c1⟩ | ⟨c1, -, -⟩
      · exact c1
      · exact absurd c1 y
    have eT : SP_X9_thrown [vA 62 0] m' = okV (vI 1) m' := by rw [e_X9_thrown trivial, hc2]
    refine ⟨m', g1, fun R K hC hk => ?_⟩
    have hk' : ∀ a b c, K 2133 (lL (6 * n) a b c) [] m' := fun a b c => hC.2 _ _ _ _ _ lL_le hk
    clear hk hc hCR hST hRW M1 M2 M3 M4 h63 g1 hM hr hF hW hDr g3
    generalize bp m 1 6 = m1 at *
    refine run_sound hC mt_L_law_c23 _ (fun x hx => hx) _ _ _ _ ?_
    simp only [lL] at hk' ⊢
    simp only [T_L_law_c23, hN, hS, M5, M6, r1, v1, eL, eR, eT, inb0_1, i0c, i10, Bool.false_eq_true, Bool.true_eq_false, Bool.not_true, Bool.not_false, ↓run_hit, ↓run_miss, ↓run_none, run_nil, ab_get0, ab_getS, if_true, if_false, if_pos, true_and, and_true, List.append_nil, List.nil_append, List.cons_append, List.length_cons, List.length_nil, List.take_succ_cons, List.take_zero, List.drop_succ_cons, List.drop_zero, List.reverse_cons, List.reverse_nil, List.map_nil, List.map_cons, List.sum_nil, List.sum_cons, rcv_some, rcv_999, wide_I, wide_L, wide_D, wide_R, wide_X, eq_self_iff_true, ite_true, ite_false, ↓reduceIte, Nat.reduceEqDiff, Nat.reduceLeDiff, Nat.reduceLT, Nat.reduceAdd, Nat.reduceMul, Nat.reduceBEq, decide_true, decide_false, and_self, or_self, or_true, true_or, false_or, or_false, and_false, false_and, not_false_eq_true, not_true_eq_false, Nat.zero_le, Nat.le_refl, Nat.add_eq_zero_iff, Nat.succ_ne_self, ↓s_const, ↓s_iload, ↓s_lload, ↓s_dload, ↓s_aload, ↓s_istore, ↓s_lstore, ↓s_dstore, ↓s_astore, ↓s_iinc, ↓s_bin, ↓s_div, ↓s_binL, ↓s_lcmp, ↓s_i2l, ↓s_i2d, ↓s_ddiv, ↓s_dcmpl, ↓s_goto, ↓s_ifeq, ↓s_iflt, ↓s_ifgt, ↓s_cmpeq, ↓s_cmplt, ↓s_cmpgt, ↓s_ifnull, ↓s_aeq, ↓s_pop, ↓s_dup, ↓s_dup2, ↓s_dupx1, ↓s_tab, ↓s_getI, ↓s_getR, ↓s_putI, ↓s_putZ, ↓s_putR, ↓s_ald, ↓s_ast, ↓s_zast, ↓s_lald, ↓s_last, ↓s_dald, ↓s_dast, ↓s_aald, ↓s_aast, ↓s_alen, ↓s_new, ↓s_newa, ↓s_multi, ↓s_cast, ↓s_getE, ↓s_obj, ↓s_mmin, ↓s_mmax, ↓s_hd, ↓s_call, ↓s_throw, ↓s_ret, ↓s_retL, ↓s_retD, ↓s_retA, ↓s_retV, mi_wI, mr_wI, mn_wI, mc_wI, sI_wI, u3_ap, mi_sI, mi_sR, mi_sL, mi_sD, mi_al, mi_bp, mr_sI, mr_sR, mr_sL, mr_sD, mr_al, mr_bp, ml_sI, ml_sR, ml_sL, ml_sD, ml_al, ml_bp, md_sI, md_sR, md_sL, md_sD, md_al, md_bp, mn_sI, mn_sR, mn_sL, mn_sD, mn_al, mn_bp, mc_sI, mc_sR, mc_sL, mc_sD, mc_al, mc_bp, mnc_sI, mnc_sR, mnc_sL, mnc_sD, mnc_al, mnc_bp, mns_sI, mns_sR, mns_sL, mns_sD, mns_al, mns_bp, SK_0, SK_1, SK_2, SK_3, SK_4, SK_5, SK_6, SK_7, SK_8, SK_9, SK_10, SK_11, SK_12, SK_13, SK_14, SK_15, SK_16, SK_17, SK_18, SK_19, SK_20, SK_21, SK_22, SK_23, SK_24, SK_25, SK_26, SK_27, SK_28, SK_29, SK_30, SK_31, SK_32, SK_33, SK_34, SK_35, SK_36, SK_37, SK_38, SK_39, SK_40, SK_41, SK_42, SK_43, SK_44, SK_45, SK_46, SK_47, SK_48, SK_49, SK_50, SK_51, SK_52, SK_53, SK_54, SK_55, SK_56, SK_57, SK_58, SK_59, SK_60, SK_61, SK_62, SK_63, SK_64, SK_65, st1_0, st1_1, st1_2, st1_3, st1_4, st1_5, st1_6, st1_7, st1_8, st2_0, st2_1, st2_2, st2_3, st2_4, st2_5, st2_6, st2_7, clr_I, clr_R, clr_X, clr_L, clr_D, clr_N]
    exact hk' _ _ _
set_option maxRecDepth 4000 in
theorem law_c27 {L n : Nat} {xs : Nat → Int32} {m : ab_M} (h : LIv L xs n m) (hL : L ≤ 3072) (hn : 6 * n + 6 ≤ L) : ∃ m', LIv L xs (n + 1) m' ∧ gL (T_L_law_c27 SP_X6_digest SP_X9_digest) 2119 (6 * n) m 2133 (6 * n) m' := by
  obtain ⟨hCR, hST, hRW, ⟨hN, hS⟩, ⟨h63, h64⟩, -⟩ := id h
  obtain ⟨d1, d2⟩ := digest_eq hST (by omega)
  have e1 := e_X6_digest h.CIm h.CVm
  have hM := mid_wI h (cf_dg2 (c := mi m))
  generalize (cDg2 (mi m)).2 = C9 at *
  obtain ⟨M1, M2, M3, M4, -⟩ := id hM
  obtain ⟨v, m', eR, ⟨hF, hW⟩, hr, hv⟩ := e_X9_digest M2 (by rw [M3]; exact hST.2.1.rg)
  rw [M3] at hr hv
  obtain ⟨g1, -, -⟩ := mid_end hM hF hW hr (d2.up (Nat.le_succ n)) (by decide) (by decide)
  have ev : cDigest (mi m) = v := d1.trans hv.symm
  rw [ev] at e1
  refine ⟨m', g1, fun R K hC hk => ?_⟩
  clear hM M1 M2 M3 M4 hF hW hr hv d1 ev
  generalize wI m C9 = m1 at *
  refine run_sound hC mt_L_law_c27 _ (fun x hx => hx) _ _ _ _ ?_
  simp only [lL] at hk ⊢
  simp only [T_L_law_c27, e1, eR, lc_self, i10, Bool.false_eq_true, Bool.true_eq_false, Bool.not_true, Bool.not_false, ↓run_hit, ↓run_miss, ↓run_none, run_nil, ab_get0, ab_getS, if_true, if_false, if_pos, true_and, and_true, List.append_nil, List.nil_append, List.cons_append, List.length_cons, List.length_nil, List.take_succ_cons, List.take_zero, List.drop_succ_cons, List.drop_zero, List.reverse_cons, List.reverse_nil, List.map_nil, List.map_cons, List.sum_nil, List.sum_cons, rcv_some, rcv_999, wide_I, wide_L, wide_D, wide_R, wide_X, eq_self_iff_true, ite_true, ite_false, ↓reduceIte, Nat.reduceEqDiff, Nat.reduceLeDiff, Nat.reduceLT, Nat.reduceAdd, Nat.reduceMul, Nat.reduceBEq, decide_true, decide_false, and_self, or_self, or_true, true_or, false_or, or_false, and_false, false_and, not_false_eq_true, not_true_eq_false, Nat.zero_le, Nat.le_refl, Nat.add_eq_zero_iff, Nat.succ_ne_self, ↓s_const, ↓s_iload, ↓s_lload, ↓s_dload, ↓s_aload, ↓s_istore, ↓s_lstore, ↓s_dstore, ↓s_astore, ↓s_iinc, ↓s_bin, ↓s_div, ↓s_binL, ↓s_lcmp, ↓s_i2l, ↓s_i2d, ↓s_ddiv, ↓s_dcmpl, ↓s_goto, ↓s_ifeq, ↓s_iflt, ↓s_ifgt, ↓s_cmpeq, ↓s_cmplt, ↓s_cmpgt, ↓s_ifnull, ↓s_aeq, ↓s_pop, ↓s_dup, ↓s_dup2, ↓s_dupx1, ↓s_tab, ↓s_getI, ↓s_getR, ↓s_putI, ↓s_putZ, ↓s_putR, ↓s_ald, ↓s_ast, ↓s_zast, ↓s_lald, ↓s_last, ↓s_dald, ↓s_dast, ↓s_aald, ↓s_aast, ↓s_alen, ↓s_new, ↓s_newa, ↓s_multi, ↓s_cast, ↓s_getE, ↓s_obj, ↓s_mmin, ↓s_mmax, ↓s_hd, ↓s_call, ↓s_throw, ↓s_ret, ↓s_retL, ↓s_retD, ↓s_retA, ↓s_retV, mi_wI, mr_wI, mn_wI, mc_wI, sI_wI, u3_ap, mi_sI, mi_sR, mi_sL, mi_sD, mi_al, mi_bp, mr_sI, mr_sR, mr_sL, mr_sD, mr_al, mr_bp, ml_sI, ml_sR, ml_sL, ml_sD, ml_al, ml_bp, md_sI, md_sR, md_sL, md_sD, md_al, md_bp, mn_sI, mn_sR, mn_sL, mn_sD, mn_al, mn_bp, mc_sI, mc_sR, mc_sL, mc_sD, mc_al, mc_bp, mnc_sI, mnc_sR, mnc_sL, mnc_sD, mnc_al, mnc_bp, mns_sI, mns_sR, mns_sL, mns_sD, mns_al, mns_bp, SK_0, SK_1, SK_2, SK_3, SK_4, SK_5, SK_6, SK_7, SK_8, SK_9, SK_10, SK_11, SK_12, SK_13, SK_14, SK_15, SK_16, SK_17, SK_18, SK_19, SK_20, SK_21, SK_22, SK_23, SK_24, SK_25, SK_26, SK_27, SK_28, SK_29, SK_30, SK_31, SK_32, SK_33, SK_34, SK_35, SK_36, SK_37, SK_38, SK_39, SK_40, SK_41, SK_42, SK_43, SK_44, SK_45, SK_46, SK_47, SK_48, SK_49, SK_50, SK_51, SK_52, SK_53, SK_54, SK_55, SK_56, SK_57, SK_58, SK_59, SK_60, SK_61, SK_62, SK_63, SK_64, SK_65, st1_0, st1_1, st1_2, st1_3, st1_4, st1_5, st1_6, st1_7, st1_8, st2_0, st2_1, st2_2, st2_3, st2_4, st2_5, st2_6, st2_7, clr_I, clr_R, clr_X, clr_L, clr_D, clr_N]
  exact hk
