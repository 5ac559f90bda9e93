/-! p31: the school is written -/
noncomputable abbrev TW : ab_T := T_L_write SP_X6_person SP_X6_pass SP_L_cell SP_L_below SP_X6_give
section WR
variable {L : Nat} {xs : Nat → Int32} {M : ab_M} {n : Nat} {m : ab_M} {r : ab_C}
def lW (a b : Option ab_V) : ab_L := [some (vA 61 0), some (vA 0 0), some (vI 5), a, b]
theorem WI_pass {N i K n : Nat} {D : Int32} (hn : np r ≤ 12) (h : WI N i K r) : WI N i K (rPassX r D) := by
  have ho : ∀ s q, s ≠ 8 → s ≠ 61 → rPassX r D s 0 q = r s 0 q := fun s q h8 h61 => by
    unfold rPassX
    rw [pass_at, if_neg (fun z => h8 z.1), u3_ap, if_neg (fun z => h61 z.1)]
  refine ⟨fun j hj => by rw [ho 13 j (by decide) (by decide)]; exact h.1 j hj, fun j j1 j2 => ?_⟩
  rw [ho 5 j (by decide) (by decide), ho 7 j (by decide) (by decide)]
  exact h.2 j j1 j2
theorem wr_0 (h : LSt L xs M n m r) (hn : n ≤ 500) (h0 : np r = 0) (hs : nsc r = 0) : ∃ m' r', (LSt L xs M (n + 2) m' r' ∧ JJ 1 (n + 2) r' ∧ WI 1 0 0 r') ∧ gto TW 0 (lW none none) [] m 16 (lW (some (vI (nN 1))) none) [] m' := by
  obtain ⟨v1, m1, e1, h1⟩ := x_fou h h0
  obtain ⟨j1, w1⟩ := fou_J h.2.2.1 h0 hs
  obtain ⟨v2, m2, e2, h2⟩ := x_pass h1 (by omega) (D := 60) (by decide) (by decide)
  have j2 := (pass_J (D := 60) (Nat.le_refl 1) j1 h1.iv (by omega) (by decide)).1
  have w2 := WI_pass (n := n) (D := nN 60) h1.n12 w1
  refine ⟨m2, _, ⟨h2, j2, w2⟩, fun R K hK hk => ?_⟩
  have e60 : SP_X6_pass [vA 61 0, vI 60] m1 = okV (vI v2) m2 := e2
  have hk' : K 16 [some (vA 61 0), some (vA 0 0), some (vI 5), some (vI 1), none] [] m2 := hk
  clear hk
  show K 0 [some (vA 61 0), some (vA 0 0), some (vI 5), none, none] [] m
  refine run_sound hK mt_L_write (T_L_write SP_X6_person SP_X6_pass SP_L_cell SP_L_below SP_X6_give) (fun x hx => hx) _ _ _ _ ?_
  simp only [T_L_write, e1, e60, i10, Bool.false_eq_true, Bool.true_eq_false, Bool.not_true, Bool.not_false, ↓run_hit, ↓run_miss, ↓run_none, run_nil, ab_get0, ab_getS, if_true, if_false, if_pos, true_and, and_true, List.append_nil, List.nil_append, List.cons_append, List.length_cons, List.length_nil, List.take_succ_cons, List.take_zero, List.drop_succ_cons, List.drop_zero, List.reverse_cons, List.reverse_nil, List.map_nil, List.map_cons, List.sum_nil, List.sum_cons, rcv_some, rcv_999, wide_I, wide_L, wide_D, wide_R, wide_X, eq_self_iff_true, ite_true, ite_false, ↓reduceIte, Nat.reduceEqDiff, Nat.reduceLeDiff, Nat.reduceLT, Nat.reduceAdd, Nat.reduceMul, Nat.reduceBEq, decide_true, decide_false, and_self, or_self, or_true, true_or, false_or, or_false, and_false, false_and, not_false_eq_true, not_true_eq_false, Nat.zero_le, Nat.le_refl, Nat.add_eq_zero_iff, Nat.succ_ne_self, ↓s_const, ↓s_iload, ↓s_lload, ↓s_dload, ↓s_aload, ↓s_istore, ↓s_lstore, ↓s_dstore, ↓s_astore, ↓s_iinc, ↓s_bin, ↓s_div, ↓s_binL, ↓s_lcmp, ↓s_i2l, ↓s_i2d, ↓s_ddiv, ↓s_dcmpl, ↓s_goto, ↓s_ifeq, ↓s_iflt, ↓s_ifgt, ↓s_cmpeq, ↓s_cmplt, ↓s_cmpgt, ↓s_ifnull, ↓s_aeq, ↓s_pop, ↓s_dup, ↓s_dup2, ↓s_dupx1, ↓s_tab, ↓s_getI, ↓s_getR, ↓s_putI, ↓s_putZ, ↓s_putR, ↓s_ald, ↓s_ast, ↓s_zast, ↓s_lald, ↓s_last, ↓s_dald, ↓s_dast, ↓s_aald, ↓s_aast, ↓s_alen, ↓s_new, ↓s_newa, ↓s_multi, ↓s_cast, ↓s_getE, ↓s_obj, ↓s_mmin, ↓s_mmax, ↓s_hd, ↓s_call, ↓s_throw, ↓s_ret, ↓s_retL, ↓s_retD, ↓s_retA, ↓s_retV, mi_wI, mr_wI, mn_wI, mc_wI, sI_wI, u3_ap, mi_sI, mi_sR, mi_sL, mi_sD, mi_al, mi_bp, mr_sI, mr_sR, mr_sL, mr_sD, mr_al, mr_bp, ml_sI, ml_sR, ml_sL, ml_sD, ml_al, ml_bp, md_sI, md_sR, md_sL, md_sD, md_al, md_bp, mn_sI, mn_sR, mn_sL, mn_sD, mn_al, mn_bp, mc_sI, mc_sR, mc_sL, mc_sD, mc_al, mc_bp, mnc_sI, mnc_sR, mnc_sL, mnc_sD, mnc_al, mnc_bp, mns_sI, mns_sR, mns_sL, mns_sD, mns_al, mns_bp, SK_0, SK_1, SK_2, SK_3, SK_4, SK_5, SK_6, SK_7, SK_8, SK_9, SK_10, SK_11, SK_12, SK_13, SK_14, SK_15, SK_16, SK_17, SK_18, SK_19, SK_20, SK_21, SK_22, SK_23, SK_24, SK_25, SK_26, SK_27, SK_28, SK_29, SK_30, SK_31, SK_32, SK_33, SK_34, SK_35, SK_36, SK_37, SK_38, SK_39, SK_40, SK_41, SK_42, SK_43, SK_44, SK_45, SK_46, SK_47, SK_48, SK_49, SK_50, SK_51, SK_52, SK_53, SK_54, SK_55, SK_56, SK_57, SK_58, SK_59, SK_60, SK_61, SK_62, SK_63, SK_64, SK_65, st1_0, st1_1, st1_2, st1_3, st1_4, st1_5, st1_6, st1_7, st1_8, st2_0, st2_1, st2_2, st2_3, st2_4, st2_5, st2_6, st2_7, clr_I, clr_R, clr_X, clr_L, clr_D, clr_N]
  exact hk'
theorem wr_1 (h : LSt L xs M n m r) (hL : L ≤ 260) {k : Nat} (k1 : 1 ≤ k) (k8 : k < 8) (hJ : JJ k n r) (hW : WI k 0 0 r) : ∃ m' r', (LSt L xs M (n + 1) m' r' ∧ JJ (k + 1) (n + 1) r' ∧ WI (k + 1) 0 0 r') ∧ gto TW 16 (lW (some (vI (nN k))) none) [] m 16 (lW (some (vI (nN (k + 1)))) none) [] m' := by
  have hnp := hJ.1.1
  obtain ⟨X, e1⟩ := x_cell m (k := nN k + 5) (j := k + 5) (by rw [show (5 : Int32) = nN 5 from rfl, nN_add]) (by omega) (by rw [h.2.2.2.1]; exact hL)
  obtain ⟨t, ht, e2⟩ := x_below m X (N := nN k) (n := k) rfl (by omega) (by omega)
  obtain ⟨u, hu, e3⟩ := x_below m (X >>> (2 &&& 31)) (N := 3) (n := 3) rfl (by decide) (by decide)
  obtain ⟨q, hq, e4⟩ := x_below m (X >>> (3 &&& 31)) (N := nN k) (n := k) rfl (by omega) (by omega)
  have hlt : (nN k < 8) = True := eq_true (by rw [nN_lt8 (by omega)]; exact k8)
  have main : ∀ kin : Int32, (kin = -1 ∨ ∃ j, j < np r ∧ kin = nN j) → ∃ (v : Int32) (m' : ab_M), SP_X6_person [vA 61 0, vI (nN t), vI kin] m = okV (vI v) m' ∧ (LSt L xs M (n + 1) m' (rPerX r (nN t) kin (r 9 0 t)) ∧ JJ (k + 1) (n + 1) (rPerX r (nN t) kin (r 9 0 t)) ∧ WI (k + 1) 0 0 (rPerX r (nN t) kin (r 9 0 t))) := fun kin hkin => by
    obtain ⟨v, m', e, h'⟩ := x_per h (t := t) (k := kin) (by omega) (by omega) (by omega) (hW.1 t ht) hkin
    obtain ⟨j', w'⟩ := per_J (k := kin) k1 (by omega) hJ h.iv ht hW
    exact ⟨v, m', e, h', j', w'⟩
  by_cases z : nN u = 0
  · obtain ⟨v, m', e5, h'⟩ := main (-1) (Or.inl rfl)
    refine ⟨m', _, h', fun R K hK hk => ?_⟩
    have hk' : K 16 [some (vA 61 0), some (vA 0 0), some (vI 5), some (vI (nN k + 1)), some (vI X)] [] m' := by
      rw [nN_succ]
      exact hK.2 16 _ _ _ _ (le_c (le_c (le_c (le_c (le_n le_nil))))) hk
    clear hk
    show K 16 [some (vA 61 0), some (vA 0 0), some (vI 5), some (vI (nN k)), none] [] m
    refine run_sound hK mt_L_write (T_L_write_16 SP_X6_person SP_X6_pass SP_L_cell SP_L_below SP_X6_give) (fun x hx => List.mem_append_right _ hx) _ _ _ _ ?_
    simp only [T_L_write_16, hlt, e1, e2, e3, z, e5, i10, Bool.false_eq_true, Bool.true_eq_false, Bool.not_true, Bool.not_false, ↓run_hit, ↓run_miss, ↓run_none, run_nil, ab_get0, ab_getS, if_true, if_false, if_pos, true_and, and_true, List.append_nil, List.nil_append, List.cons_append, List.length_cons, List.length_nil, List.take_succ_cons, List.take_zero, List.drop_succ_cons, List.drop_zero, List.reverse_cons, List.reverse_nil, List.map_nil, List.map_cons, List.sum_nil, List.sum_cons, rcv_some, rcv_999, wide_I, wide_L, wide_D, wide_R, wide_X, eq_self_iff_true, ite_true, ite_false, ↓reduceIte, Nat.reduceEqDiff, Nat.reduceLeDiff, Nat.reduceLT, Nat.reduceAdd, Nat.reduceMul, Nat.reduceBEq, decide_true, decide_false, and_self, or_self, or_true, true_or, false_or, or_false, and_false, false_and, not_false_eq_true, not_true_eq_false, Nat.zero_le, Nat.le_refl, Nat.add_eq_zero_iff, Nat.succ_ne_self, ↓s_const, ↓s_iload, ↓s_lload, ↓s_dload, ↓s_aload, ↓s_istore, ↓s_lstore, ↓s_dstore, ↓s_astore, ↓s_iinc, ↓s_bin, ↓s_div, ↓s_binL, ↓s_lcmp, ↓s_i2l, ↓s_i2d, ↓s_ddiv, ↓s_dcmpl, ↓s_goto, ↓s_ifeq, ↓s_iflt, ↓s_ifgt, ↓s_cmpeq, ↓s_cmplt, ↓s_cmpgt, ↓s_ifnull, ↓s_aeq, ↓s_pop, ↓s_dup, ↓s_dup2, ↓s_dupx1, ↓s_tab, ↓s_getI, ↓s_getR, ↓s_putI, ↓s_putZ, ↓s_putR, ↓s_ald, ↓s_ast, ↓s_zast, ↓s_lald, ↓s_last, ↓s_dald, ↓s_dast, ↓s_aald, ↓s_aast, ↓s_alen, ↓s_new, ↓s_newa, ↓s_multi, ↓s_cast, ↓s_getE, ↓s_obj, ↓s_mmin, ↓s_mmax, ↓s_hd, ↓s_call, ↓s_throw, ↓s_ret, ↓s_retL, ↓s_retD, ↓s_retA, ↓s_retV, mi_wI, mr_wI, mn_wI, mc_wI, sI_wI, u3_ap, mi_sI, mi_sR, mi_sL, mi_sD, mi_al, mi_bp, mr_sI, mr_sR, mr_sL, mr_sD, mr_al, mr_bp, ml_sI, ml_sR, ml_sL, ml_sD, ml_al, ml_bp, md_sI, md_sR, md_sL, md_sD, md_al, md_bp, mn_sI, mn_sR, mn_sL, mn_sD, mn_al, mn_bp, mc_sI, mc_sR, mc_sL, mc_sD, mc_al, mc_bp, mnc_sI, mnc_sR, mnc_sL, mnc_sD, mnc_al, mnc_bp, mns_sI, mns_sR, mns_sL, mns_sD, mns_al, mns_bp, SK_0, SK_1, SK_2, SK_3, SK_4, SK_5, SK_6, SK_7, SK_8, SK_9, SK_10, SK_11, SK_12, SK_13, SK_14, SK_15, SK_16, SK_17, SK_18, SK_19, SK_20, SK_21, SK_22, SK_23, SK_24, SK_25, SK_26, SK_27, SK_28, SK_29, SK_30, SK_31, SK_32, SK_33, SK_34, SK_35, SK_36, SK_37, SK_38, SK_39, SK_40, SK_41, SK_42, SK_43, SK_44, SK_45, SK_46, SK_47, SK_48, SK_49, SK_50, SK_51, SK_52, SK_53, SK_54, SK_55, SK_56, SK_57, SK_58, SK_59, SK_60, SK_61, SK_62, SK_63, SK_64, SK_65, st1_0, st1_1, st1_2, st1_3, st1_4, st1_5, st1_6, st1_7, st1_8, st2_0, st2_1, st2_2, st2_3, st2_4, st2_5, st2_6, st2_7, clr_I, clr_R, clr_X, clr_L, clr_D, clr_N]
    exact hk'
  · obtain ⟨v, m', e5, h'⟩ := main (nN q) (Or.inr ⟨q, by omega, rfl⟩)
    refine ⟨m', _, h', fun R K hK hk => ?_⟩
    have hk' : K 16 [some (vA 61 0), some (vA 0 0), some (vI 5), some (vI (nN k + 1)), some (vI X)] [] m' := by
      rw [nN_succ]
      exact hK.2 16 _ _ _ _ (le_c (le_c (le_c (le_c (le_n le_nil))))) hk
    clear hk
    show K 16 [some (vA 61 0), some (vA 0 0), some (vI 5), some (vI (nN k)), none] [] m
    refine run_sound hK mt_L_write (T_L_write_16 SP_X6_person SP_X6_pass SP_L_cell SP_L_below SP_X6_give) (fun x hx => List.mem_append_right _ hx) _ _ _ _ ?_
    simp only [T_L_write_16, hlt, e1, e2, e3, z, e4, e5, i10, Bool.false_eq_true, Bool.true_eq_false, Bool.not_true, Bool.not_false, ↓run_hit, ↓run_miss, ↓run_none, run_nil, ab_get0, ab_getS, if_true, if_false, if_pos, true_and, and_true, List.append_nil, List.nil_append, List.cons_append, List.length_cons, List.length_nil, List.take_succ_cons, List.take_zero, List.drop_succ_cons, List.drop_zero, List.reverse_cons, List.reverse_nil, List.map_nil, List.map_cons, List.sum_nil, List.sum_cons, rcv_some, rcv_999, wide_I, wide_L, wide_D, wide_R, wide_X, eq_self_iff_true, ite_true, ite_false, ↓reduceIte, Nat.reduceEqDiff, Nat.reduceLeDiff, Nat.reduceLT, Nat.reduceAdd, Nat.reduceMul, Nat.reduceBEq, decide_true, decide_false, and_self, or_self, or_true, true_or, false_or, or_false, and_false, false_and, not_false_eq_true, not_true_eq_false, Nat.zero_le, Nat.le_refl, Nat.add_eq_zero_iff, Nat.succ_ne_self, ↓s_const, ↓s_iload, ↓s_lload, ↓s_dload, ↓s_aload, ↓s_istore, ↓s_lstore, ↓s_dstore, ↓s_astore, ↓s_iinc, ↓s_bin, ↓s_div, ↓s_binL, ↓s_lcmp, ↓s_i2l, ↓s_i2d, ↓s_ddiv, ↓s_dcmpl, ↓s_goto, ↓s_ifeq, ↓s_iflt, ↓s_ifgt, ↓s_cmpeq, ↓s_cmplt, ↓s_cmpgt, ↓s_ifnull, ↓s_aeq, ↓s_pop, ↓s_dup, ↓s_dup2, ↓s_dupx1, ↓s_tab, ↓s_getI, ↓s_getR, ↓s_putI, ↓s_putZ, ↓s_putR, ↓s_ald, ↓s_ast, ↓s_zast, ↓s_lald, ↓s_last, ↓s_dald, ↓s_dast, ↓s_aald, ↓s_aast, ↓s_alen, ↓s_new, ↓s_newa, ↓s_multi, ↓s_cast, ↓s_getE, ↓s_obj, ↓s_mmin, ↓s_mmax, ↓s_hd, ↓s_call, ↓s_throw, ↓s_ret, ↓s_retL, ↓s_retD, ↓s_retA, ↓s_retV, mi_wI, mr_wI, mn_wI, mc_wI, sI_wI, u3_ap, mi_sI, mi_sR, mi_sL, mi_sD, mi_al, mi_bp, mr_sI, mr_sR, mr_sL, mr_sD, mr_al, mr_bp, ml_sI, ml_sR, ml_sL, ml_sD, ml_al, ml_bp, md_sI, md_sR, md_sL, md_sD, md_al, md_bp, mn_sI, mn_sR, mn_sL, mn_sD, mn_al, mn_bp, mc_sI, mc_sR, mc_sL, mc_sD, mc_al, mc_bp, mnc_sI, mnc_sR, mnc_sL, mnc_sD, mnc_al, mnc_bp, mns_sI, mns_sR, mns_sL, mns_sD, mns_al, mns_bp, SK_0, SK_1, SK_2, SK_3, SK_4, SK_5, SK_6, SK_7, SK_8, SK_9, SK_10, SK_11, SK_12, SK_13, SK_14, SK_15, SK_16, SK_17, SK_18, SK_19, SK_20, SK_21, SK_22, SK_23, SK_24, SK_25, SK_26, SK_27, SK_28, SK_29, SK_30, SK_31, SK_32, SK_33, SK_34, SK_35, SK_36, SK_37, SK_38, SK_39, SK_40, SK_41, SK_42, SK_43, SK_44, SK_45, SK_46, SK_47, SK_48, SK_49, SK_50, SK_51, SK_52, SK_53, SK_54, SK_55, SK_56, SK_57, SK_58, SK_59, SK_60, SK_61, SK_62, SK_63, SK_64, SK_65, st1_0, st1_1, st1_2, st1_3, st1_4, st1_5, st1_6, st1_7, st1_8, st2_0, st2_1, st2_2, st2_3, st2_4, st2_5, st2_6, st2_7, clr_I, clr_R, clr_X, clr_L, clr_D, clr_N]
    exact hk'
theorem wr_1e {k : Nat} (k8 : ¬ nN k < 8) : gto TW 16 (lW (some (vI (nN k))) none) [] m 73 (lW (some (vI (nN 0))) none) [] m := fun R K hK hk => by
  have hk' : K 73 [some (vA 61 0), some (vA 0 0), some (vI 5), some (vI 0), none] [] m := hk
  clear hk
  show K 16 [some (vA 61 0), some (vA 0 0), some (vI 5), some (vI (nN k)), none] [] m
  refine run_sound hK mt_L_write (T_L_write_16 SP_X6_person SP_X6_pass SP_L_cell SP_L_below SP_X6_give) (fun x hx => List.mem_append_right _ hx) _ _ _ _ ?_
  simp only [T_L_write_16, k8, i10, Bool.false_eq_true, Bool.true_eq_false, Bool.not_true, Bool.not_false, ↓run_hit, ↓run_miss, ↓run_none, run_nil, ab_get0, ab_getS, if_true, if_false, if_pos, true_and, and_true, List.append_nil, List.nil_append, List.cons_append, List.length_cons, List.length_nil, List.take_succ_cons, List.take_zero, List.drop_succ_cons, List.drop_zero, List.reverse_cons, List.reverse_nil, List.map_nil, List.map_cons, List.sum_nil, List.sum_cons, rcv_some, rcv_999, wide_I, wide_L, wide_D, wide_R, wide_X, eq_self_iff_true, ite_true, ite_false, ↓reduceIte, Nat.reduceEqDiff, Nat.reduceLeDiff, Nat.reduceLT, Nat.reduceAdd, Nat.reduceMul, Nat.reduceBEq, decide_true, decide_false, and_self, or_self, or_true, true_or, false_or, or_false, and_false, false_and, not_false_eq_true, not_true_eq_false, Nat.zero_le, Nat.le_refl, Nat.add_eq_zero_iff, Nat.succ_ne_self, ↓s_const, ↓s_iload, ↓s_lload, ↓s_dload, ↓s_aload, ↓s_istore, ↓s_lstore, ↓s_dstore, ↓s_astore, ↓s_iinc, ↓s_bin, ↓s_div, ↓s_binL, ↓s_lcmp, ↓s_i2l, ↓s_i2d, ↓s_ddiv, ↓s_dcmpl, ↓s_goto, ↓s_ifeq, ↓s_iflt, ↓s_ifgt, ↓s_cmpeq, ↓s_cmplt, ↓s_cmpgt, ↓s_ifnull, ↓s_aeq, ↓s_pop, ↓s_dup, ↓s_dup2, ↓s_dupx1, ↓s_tab, ↓s_getI, ↓s_getR, ↓s_putI, ↓s_putZ, ↓s_putR, ↓s_ald, ↓s_ast, ↓s_zast, ↓s_lald, ↓s_last, ↓s_dald, ↓s_dast, ↓s_aald, ↓s_aast, ↓s_alen, ↓s_new, ↓s_newa, ↓s_multi, ↓s_cast, ↓s_getE, ↓s_obj, ↓s_mmin, ↓s_mmax, ↓s_hd, ↓s_call, ↓s_throw, ↓s_ret, ↓s_retL, ↓s_retD, ↓s_retA, ↓s_retV, mi_wI, mr_wI, mn_wI, mc_wI, sI_wI, u3_ap, mi_sI, mi_sR, mi_sL, mi_sD, mi_al, mi_bp, mr_sI, mr_sR, mr_sL, mr_sD, mr_al, mr_bp, ml_sI, ml_sR, ml_sL, ml_sD, ml_al, ml_bp, md_sI, md_sR, md_sL, md_sD, md_al, md_bp, mn_sI, mn_sR, mn_sL, mn_sD, mn_al, mn_bp, mc_sI, mc_sR, mc_sL, mc_sD, mc_al, mc_bp, mnc_sI, mnc_sR, mnc_sL, mnc_sD, mnc_al, mnc_bp, mns_sI, mns_sR, mns_sL, mns_sD, mns_al, mns_bp, SK_0, SK_1, SK_2, SK_3, SK_4, SK_5, SK_6, SK_7, SK_8, SK_9, SK_10, SK_11, SK_12, SK_13, SK_14, SK_15, SK_16, SK_17, SK_18, SK_19, SK_20, SK_21, SK_22, SK_23, SK_24, SK_25, SK_26, SK_27, SK_28, SK_29, SK_30, SK_31, SK_32, SK_33, SK_34, SK_35, SK_36, SK_37, SK_38, SK_39, SK_40, SK_41, SK_42, SK_43, SK_44, SK_45, SK_46, SK_47, SK_48, SK_49, SK_50, SK_51, SK_52, SK_53, SK_54, SK_55, SK_56, SK_57, SK_58, SK_59, SK_60, SK_61, SK_62, SK_63, SK_64, SK_65, st1_0, st1_1, st1_2, st1_3, st1_4, st1_5, st1_6, st1_7, st1_8, st2_0, st2_1, st2_2, st2_3, st2_4, st2_5, st2_6, st2_7, clr_I, clr_R, clr_X, clr_L, clr_D, clr_N]
  exact hk'
/-- all eight are there -/
theorem wr_2 (hL : L ≤ 260) : ∀ j k n m r, LSt L xs M n m r → 1 ≤ k → k + j = 8 → JJ k n r → WI k 0 0 r → ∃ m' r', (LSt L xs M (n + j) m' r' ∧ JJ 8 (n + j) r' ∧ WI 8 0 0 r') ∧ gto TW 16 (lW (some (vI (nN k))) none) [] m 73 (lW (some (vI (nN 0))) none) [] m' := by
  intro j
  induction j with
  | zero =>
    intro k n m r h _ hk hJ hW
    have e : k = 8 := by omega
    subst e
    exact ⟨m, r, ⟨h, hJ, hW⟩, wr_1e (by decide)⟩
  | succ j ih =>
    intro k n m r h k1 hk hJ hW
    obtain ⟨m1, r1, ⟨h1, j1, w1⟩, g1⟩ := wr_1 h hL k1 (by omega) hJ hW
    obtain ⟨m2, r2, ⟨h2, j2, w2⟩, g2⟩ := ih (k + 1) (n + 1) m1 r1 h1 (by omega) (by omega) j1 w1
    rw [show n + 1 + j = n + (j + 1) by omega] at h2 j2
    exact ⟨m2, r2, ⟨h2, j2, w2⟩, g1.trans g2⟩
/-- a step for one of them -/
theorem wr_3 (h : LSt L xs M n m r) (hL : L ≤ 260) (hn : n ≤ 500) {k i : Nat} (k5 : k < 5) (i1 : 1 ≤ i) (i8 : i < 8) (hJ : JJ 8 n r) (hW : WI 8 i k r) : ∃ m' r', (LSt L xs M (n + 1) m' r' ∧ JJ 8 (n + 1) r' ∧ WI 8 (i + 1) k r') ∧ gto TW 88 (lW (some (vI (nN k))) (some (vI (nN i)))) [] m 88 (lW (some (vI (nN k))) (some (vI (nN (i + 1))))) [] m' := by
  have hnp := hJ.1.1
  have h12 := h.n12
  obtain ⟨X, e1⟩ := x_cell m (k := nN i + nN k + 5) (j := i + k + 5) (by rw [show (5 : Int32) = nN 5 from rfl, nN_add, nN_add]) (by omega) (by rw [h.2.2.2.1]; exact hL)
  obtain ⟨t, ht, e2⟩ := x_below m X (N := 4) (n := 4) rfl (by decide) (by decide)
  have hlt : (nN i < 8) = True := eq_true (by rw [nN_lt8 (by omega)]; exact i8)
  have hup : WI 8 (i + 1) k r := ⟨hW.1, fun j j1 j2 => ⟨(hW.2 j j1 j2).1, by
    have := (hW.2 j j1 j2).2
    split at this
    · rw [if_pos (by omega)]; exact this
    · split <;> omega⟩⟩
  by_cases z : 0 < nN t
  · have h7 := (hW.2 i i1 i8).2
    rw [if_neg (by omega)] at h7
    have w0i := w0_eq h.iv (show i < np r by omega)
    have h79 : ¬ r 7 0 i = 9 := fun e => by
      rw [e] at h7
      have : (9 : Int32).toNatClampNeg = 9 := rfl
      omega
    obtain ⟨a1, a2, -, a4, a5⟩ := give_all (by decide) hJ h.iv (by omega) i8 (hW.1 i i8) h79 (hW.2 i i1 i8).1
    obtain ⟨m', e3, h'⟩ := x_give h (nN i) a1
    refine ⟨m', _, ⟨h', a2.up (Nat.le_succ n), fun j hj => ?_, fun j j1 j2 => ⟨?_, ?_⟩⟩, fun R K hK hk => ?_⟩
    · rw [a4 13 0 j (by decide) (by decide) (by decide) (by decide) (by decide)]
      exact hW.1 j hj
    · rw [a4 5 0 j (by decide) (by decide) (by decide) (by decide) (by decide)]
      exact (hW.2 j j1 j2).1
    · rcases a5 j with e | ⟨e, e9⟩
      · rw [e]; exact (hup.2 j j1 j2).2
      · subst e
        have : (r 7 0 j + 1).toNatClampNeg = (r 7 0 j).toNatClampNeg + 1 := by
          rw [w0i.1, nN_succ, nN_nat (by omega), nN_nat (by omega)]
        rw [e9, this, if_pos (by omega)]
        omega
    · have hk' : K 88 [some (vA 61 0), some (vA 0 0), some (vI 5), some (vI (nN k)), some (vI (nN i + 1))] [] m' := by
        rw [nN_succ]
        exact hk
      clear hk
      show K 88 [some (vA 61 0), some (vA 0 0), some (vI 5), some (vI (nN k)), some (vI (nN i))] [] m
      refine run_sound hK mt_L_write (T_L_write_88 SP_X6_person SP_X6_pass SP_L_cell SP_L_below SP_X6_give) (fun x hx => List.mem_append_right _ (List.mem_append_right _ (List.mem_append_right _ hx))) _ _ _ _ ?_
      simp only [T_L_write_88, hlt, e1, e2, z, e3, i10, Bool.false_eq_true, Bool.true_eq_false, Bool.not_true, Bool.not_false, ↓run_hit, ↓run_miss, ↓run_none, run_nil, ab_get0, ab_getS, if_true, if_false, if_pos, true_and, and_true, List.append_nil, List.nil_append, List.cons_append, List.length_cons, List.length_nil, List.take_succ_cons, List.take_zero, List.drop_succ_cons, List.drop_zero, List.reverse_cons, List.reverse_nil, List.map_nil, List.map_cons, List.sum_nil, List.sum_cons, rcv_some, rcv_999, wide_I, wide_L, wide_D, wide_R, wide_X, eq_self_iff_true, ite_true, ite_false, ↓reduceIte, Nat.reduceEqDiff, Nat.reduceLeDiff, Nat.reduceLT, Nat.reduceAdd, Nat.reduceMul, Nat.reduceBEq, decide_true, decide_false, and_self, or_self, or_true, true_or, false_or, or_false, and_false, false_and, not_false_eq_true, not_true_eq_false, Nat.zero_le, Nat.le_refl, Nat.add_eq_zero_iff, Nat.succ_ne_self, ↓s_const, ↓s_iload, ↓s_lload, ↓s_dload, ↓s_aload, ↓s_istore, ↓s_lstore, ↓s_dstore, ↓s_astore, ↓s_iinc, ↓s_bin, ↓s_div, ↓s_binL, ↓s_lcmp, ↓s_i2l, ↓s_i2d, ↓s_ddiv, ↓s_dcmpl, ↓s_goto, ↓s_ifeq, ↓s_iflt, ↓s_ifgt, ↓s_cmpeq, ↓s_cmplt, ↓s_cmpgt, ↓s_ifnull, ↓s_aeq, ↓s_pop, ↓s_dup, ↓s_dup2, ↓s_dupx1, ↓s_tab, ↓s_getI, ↓s_getR, ↓s_putI, ↓s_putZ, ↓s_putR, ↓s_ald, ↓s_ast, ↓s_zast, ↓s_lald, ↓s_last, ↓s_dald, ↓s_dast, ↓s_aald, ↓s_aast, ↓s_alen, ↓s_new, ↓s_newa, ↓s_multi, ↓s_cast, ↓s_getE, ↓s_obj, ↓s_mmin, ↓s_mmax, ↓s_hd, ↓s_call, ↓s_throw, ↓s_ret, ↓s_retL, ↓s_retD, ↓s_retA, ↓s_retV, mi_wI, mr_wI, mn_wI, mc_wI, sI_wI, u3_ap, mi_sI, mi_sR, mi_sL, mi_sD, mi_al, mi_bp, mr_sI, mr_sR, mr_sL, mr_sD, mr_al, mr_bp, ml_sI, ml_sR, ml_sL, ml_sD, ml_al, ml_bp, md_sI, md_sR, md_sL, md_sD, md_al, md_bp, mn_sI, mn_sR, mn_sL, mn_sD, mn_al, mn_bp, mc_sI, mc_sR, mc_sL, mc_sD, mc_al, mc_bp, mnc_sI, mnc_sR, mnc_sL, mnc_sD, mnc_al, mnc_bp, mns_sI, mns_sR, mns_sL, mns_sD, mns_al, mns_bp, SK_0, SK_1, SK_2, SK_3, SK_4, SK_5, SK_6, SK_7, SK_8, SK_9, SK_10, SK_11, SK_12, SK_13, SK_14, SK_15, SK_16, SK_17, SK_18, SK_19, SK_20, SK_21, SK_22, SK_23, SK_24, SK_25, SK_26, SK_27, SK_28, SK_29, SK_30, SK_31, SK_32, SK_33, SK_34, SK_35, SK_36, SK_37, SK_38, SK_39, SK_40, SK_41, SK_42, SK_43, SK_44, SK_45, SK_46, SK_47, SK_48, SK_49, SK_50, SK_51, SK_52, SK_53, SK_54, SK_55, SK_56, SK_57, SK_58, SK_59, SK_60, SK_61, SK_62, SK_63, SK_64, SK_65, st1_0, st1_1, st1_2, st1_3, st1_4, st1_5, st1_6, st1_7, st1_8, st2_0, st2_1, st2_2, st2_3, st2_4, st2_5, st2_6, st2_7, clr_I, clr_R, clr_X, clr_L, clr_D, clr_N]
      exact hk'
  · refine ⟨m, r, ⟨h.up (Nat.le_succ n), hJ.up (Nat.le_succ n), hup⟩, fun R K hK hk => ?_⟩
    have hk' : K 88 [some (vA 61 0), some (vA 0 0), some (vI 5), some (vI (nN k)), some (vI (nN i + 1))] [] m := by
      rw [nN_succ]
      exact hk
    clear hk
    show K 88 [some (vA 61 0), some (vA 0 0), some (vI 5), some (vI (nN k)), some (vI (nN i))] [] m
    refine run_sound hK mt_L_write (T_L_write_88 SP_X6_person SP_X6_pass SP_L_cell SP_L_below SP_X6_give) (fun x hx => List.mem_append_right _ (List.mem_append_right _ (List.mem_append_right _ hx))) _ _ _ _ ?_
    simp only [T_L_write_88, hlt, e1, e2, z, i10, Bool.false_eq_true, Bool.true_eq_false, Bool.not_true, Bool.not_false, ↓run_hit, ↓run_miss, ↓run_none, run_nil, ab_get0, ab_getS, if_true, if_false, if_pos, true_and, and_true, List.append_nil, List.nil_append, List.cons_append, List.length_cons, List.length_nil, List.take_succ_cons, List.take_zero, List.drop_succ_cons, List.drop_zero, List.reverse_cons, List.reverse_nil, List.map_nil, List.map_cons, List.sum_nil, List.sum_cons, rcv_some, rcv_999, wide_I, wide_L, wide_D, wide_R, wide_X, eq_self_iff_true, ite_true, ite_false, ↓reduceIte, Nat.reduceEqDiff, Nat.reduceLeDiff, Nat.reduceLT, Nat.reduceAdd, Nat.reduceMul, Nat.reduceBEq, decide_true, decide_false, and_self, or_self, or_true, true_or, false_or, or_false, and_false, false_and, not_false_eq_true, not_true_eq_false, Nat.zero_le, Nat.le_refl, Nat.add_eq_zero_iff, Nat.succ_ne_self, ↓s_const, ↓s_iload, ↓s_lload, ↓s_dload, ↓s_aload, ↓s_istore, ↓s_lstore, ↓s_dstore, ↓s_astore, ↓s_iinc, ↓s_bin, ↓s_div, ↓s_binL, ↓s_lcmp, ↓s_i2l, ↓s_i2d, ↓s_ddiv, ↓s_dcmpl, ↓s_goto, ↓s_ifeq, ↓s_iflt, ↓s_ifgt, ↓s_cmpeq, ↓s_cmplt, ↓s_cmpgt, ↓s_ifnull, ↓s_aeq, ↓s_pop, ↓s_dup, ↓s_dup2, ↓s_dupx1, ↓s_tab, ↓s_getI, ↓s_getR, ↓s_putI, ↓s_putZ, ↓s_putR, ↓s_ald, ↓s_ast, ↓s_zast, ↓s_lald, ↓s_last, ↓s_dald, ↓s_dast, ↓s_aald, ↓s_aast, ↓s_alen, ↓s_new, ↓s_newa, ↓s_multi, ↓s_cast, ↓s_getE, ↓s_obj, ↓s_mmin, ↓s_mmax, ↓s_hd, ↓s_call, ↓s_throw, ↓s_ret, ↓s_retL, ↓s_retD, ↓s_retA, ↓s_retV, mi_wI, mr_wI, mn_wI, mc_wI, sI_wI, u3_ap, mi_sI, mi_sR, mi_sL, mi_sD, mi_al, mi_bp, mr_sI, mr_sR, mr_sL, mr_sD, mr_al, mr_bp, ml_sI, ml_sR, ml_sL, ml_sD, ml_al, ml_bp, md_sI, md_sR, md_sL, md_sD, md_al, md_bp, mn_sI, mn_sR, mn_sL, mn_sD, mn_al, mn_bp, mc_sI, mc_sR, mc_sL, mc_sD, mc_al, mc_bp, mnc_sI, mnc_sR, mnc_sL, mnc_sD, mnc_al, mnc_bp, mns_sI, mns_sR, mns_sL, mns_sD, mns_al, mns_bp, SK_0, SK_1, SK_2, SK_3, SK_4, SK_5, SK_6, SK_7, SK_8, SK_9, SK_10, SK_11, SK_12, SK_13, SK_14, SK_15, SK_16, SK_17, SK_18, SK_19, SK_20, SK_21, SK_22, SK_23, SK_24, SK_25, SK_26, SK_27, SK_28, SK_29, SK_30, SK_31, SK_32, SK_33, SK_34, SK_35, SK_36, SK_37, SK_38, SK_39, SK_40, SK_41, SK_42, SK_43, SK_44, SK_45, SK_46, SK_47, SK_48, SK_49, SK_50, SK_51, SK_52, SK_53, SK_54, SK_55, SK_56, SK_57, SK_58, SK_59, SK_60, SK_61, SK_62, SK_63, SK_64, SK_65, st1_0, st1_1, st1_2, st1_3, st1_4, st1_5, st1_6, st1_7, st1_8, st2_0, st2_1, st2_2, st2_3, st2_4, st2_5, st2_6, st2_7, clr_I, clr_R, clr_X, clr_L, clr_D, clr_N]
    exact hk'
theorem wr_3e {k i : Nat} (i8 : ¬ nN i < 8) : gto TW 88 (lW (some (vI (nN k))) (some (vI (nN i)))) [] m 73 (lW (some (vI (nN (k + 1)))) none) [] m := fun R K hK hk => by
  have hk' : K 73 [some (vA 61 0), some (vA 0 0), some (vI 5), some (vI (nN k + 1)), some (vI (nN i))] [] m := by
    rw [nN_succ]
    exact hK.2 73 _ _ _ _ (le_c (le_c (le_c (le_c (le_n le_nil))))) hk
  clear hk
  show K 88 [some (vA 61 0), some (vA 0 0), some (vI 5), some (vI (nN k)), some (vI (nN i))] [] m
  refine run_sound hK mt_L_write (T_L_write_88 SP_X6_person SP_X6_pass SP_L_cell SP_L_below SP_X6_give) (fun x hx => List.mem_append_right _ (List.mem_append_right _ (List.mem_append_right _ hx))) _ _ _ _ ?_
  simp only [T_L_write_88, i8, i10, Bool.false_eq_true, Bool.true_eq_false, Bool.not_true, Bool.not_false, ↓run_hit, ↓run_miss, ↓run_none, run_nil, ab_get0, ab_getS, if_true, if_false, if_pos, true_and, and_true, List.append_nil, List.nil_append, List.cons_append, List.length_cons, List.length_nil, List.take_succ_cons, List.take_zero, List.drop_succ_cons, List.drop_zero, List.reverse_cons, List.reverse_nil, List.map_nil, List.map_cons, List.sum_nil, List.sum_cons, rcv_some, rcv_999, wide_I, wide_L, wide_D, wide_R, wide_X, eq_self_iff_true, ite_true, ite_false, ↓reduceIte, Nat.reduceEqDiff, Nat.reduceLeDiff, Nat.reduceLT, Nat.reduceAdd, Nat.reduceMul, Nat.reduceBEq, decide_true, decide_false, and_self, or_self, or_true, true_or, false_or, or_false, and_false, false_and, not_false_eq_true, not_true_eq_false, Nat.zero_le, Nat.le_refl, Nat.add_eq_zero_iff, Nat.succ_ne_self, ↓s_const, ↓s_iload, ↓s_lload, ↓s_dload, ↓s_aload, ↓s_istore, ↓s_lstore, ↓s_dstore, ↓s_astore, ↓s_iinc, ↓s_bin, ↓s_div, ↓s_binL, ↓s_lcmp, ↓s_i2l, ↓s_i2d, ↓s_ddiv, ↓s_dcmpl, ↓s_goto, ↓s_ifeq, ↓s_iflt, ↓s_ifgt, ↓s_cmpeq, ↓s_cmplt, ↓s_cmpgt, ↓s_ifnull, ↓s_aeq, ↓s_pop, ↓s_dup, ↓s_dup2, ↓s_dupx1, ↓s_tab, ↓s_getI, ↓s_getR, ↓s_putI, ↓s_putZ, ↓s_putR, ↓s_ald, ↓s_ast, ↓s_zast, ↓s_lald, ↓s_last, ↓s_dald, ↓s_dast, ↓s_aald, ↓s_aast, ↓s_alen, ↓s_new, ↓s_newa, ↓s_multi, ↓s_cast, ↓s_getE, ↓s_obj, ↓s_mmin, ↓s_mmax, ↓s_hd, ↓s_call, ↓s_throw, ↓s_ret, ↓s_retL, ↓s_retD, ↓s_retA, ↓s_retV, mi_wI, mr_wI, mn_wI, mc_wI, sI_wI, u3_ap, mi_sI, mi_sR, mi_sL, mi_sD, mi_al, mi_bp, mr_sI, mr_sR, mr_sL, mr_sD, mr_al, mr_bp, ml_sI, ml_sR, ml_sL, ml_sD, ml_al, ml_bp, md_sI, md_sR, md_sL, md_sD, md_al, md_bp, mn_sI, mn_sR, mn_sL, mn_sD, mn_al, mn_bp, mc_sI, mc_sR, mc_sL, mc_sD, mc_al, mc_bp, mnc_sI, mnc_sR, mnc_sL, mnc_sD, mnc_al, mnc_bp, mns_sI, mns_sR, mns_sL, mns_sD, mns_al, mns_bp, SK_0, SK_1, SK_2, SK_3, SK_4, SK_5, SK_6, SK_7, SK_8, SK_9, SK_10, SK_11, SK_12, SK_13, SK_14, SK_15, SK_16, SK_17, SK_18, SK_19, SK_20, SK_21, SK_22, SK_23, SK_24, SK_25, SK_26, SK_27, SK_28, SK_29, SK_30, SK_31, SK_32, SK_33, SK_34, SK_35, SK_36, SK_37, SK_38, SK_39, SK_40, SK_41, SK_42, SK_43, SK_44, SK_45, SK_46, SK_47, SK_48, SK_49, SK_50, SK_51, SK_52, SK_53, SK_54, SK_55, SK_56, SK_57, SK_58, SK_59, SK_60, SK_61, SK_62, SK_63, SK_64, SK_65, st1_0, st1_1, st1_2, st1_3, st1_4, st1_5, st1_6, st1_7, st1_8, st2_0, st2_1, st2_2, st2_3, st2_4, st2_5, st2_6, st2_7, clr_I, clr_R, clr_X, clr_L, clr_D, clr_N]
  exact hk'
theorem wr_4 (hL : L ≤ 260) {k : Nat} (k5 : k < 5) : ∀ j i n m r, LSt L xs M n m r → n + j ≤ 500 → 1 ≤ i → i + j = 8 → JJ 8 n r → WI 8 i k r → ∃ m' r', (LSt L xs M (n + j) m' r' ∧ JJ 8 (n + j) r' ∧ WI 8 8 k r') ∧ gto TW 88 (lW (some (vI (nN k))) (some (vI (nN i)))) [] m 73 (lW (some (vI (nN (k + 1)))) none) [] m' := by
  intro j
  induction j with
  | zero =>
    intro i n m r h _ _ hk hJ hW
    have e : i = 8 := by omega
    subst e
    exact ⟨m, r, ⟨h, hJ, hW⟩, wr_3e (by decide)⟩
  | succ j ih =>
    intro i n m r h hn i1 hk hJ hW
    obtain ⟨m1, r1, ⟨h1, j1, w1⟩, g1⟩ := wr_3 h hL (by omega) k5 i1 (by omega) hJ hW
    obtain ⟨m2, r2, ⟨h2, j2, w2⟩, g2⟩ := ih (i + 1) (n + 1) m1 r1 h1 (by omega) (by omega) (by omega) j1 w1
    rw [show n + 1 + j = n + (j + 1) by omega] at h2 j2
    exact ⟨m2, r2, ⟨h2, j2, w2⟩, g1.trans g2⟩
theorem wr_5 (h : LSt L xs M n m r) (hn : n ≤ 500) {k : Nat} (k5 : k < 5) (hJ : JJ 8 n r) (hW : WI 8 0 k r) : ∃ m' r', (LSt L xs M (n + 1) m' r' ∧ JJ 8 (n + 1) r' ∧ WI 8 1 k r') ∧ gto TW 73 (lW (some (vI (nN k))) none) [] m 88 (lW (some (vI (nN k))) (some (vI (nN 1)))) [] m' := by
  obtain ⟨v2, m2, e2, h2⟩ := x_pass h (by omega) (D := 60) (by decide) (by decide)
  have j2 := (pass_J (D := 60) (by decide) hJ h.iv (by omega) (by decide)).1
  have w2 := WI_pass (n := n) (D := nN 60) h.n12 hW
  have hlt : (nN k < 5) = True := eq_true (by rw [show (5 : Int32) = nN 5 from rfl, nN_lt (by omega) (by decide)]; exact k5)
  refine ⟨m2, _, ⟨h2, j2, w2.1, fun j j1 j2 => ⟨(w2.2 j j1 j2).1, ?_⟩⟩, fun R K hK hk => ?_⟩
  · have := (w2.2 j j1 j2).2
    rw [if_neg (by omega)] at this
    rw [if_neg (by omega)]
    exact this
  · have e60 : SP_X6_pass [vA 61 0, vI 60] m = okV (vI v2) m2 := e2
    have hk' : K 88 [some (vA 61 0), some (vA 0 0), some (vI 5), some (vI (nN k)), some (vI 1)] [] m2 := hk
    clear hk
    show K 73 [some (vA 61 0), some (vA 0 0), some (vI 5), some (vI (nN k)), none] [] m
    refine run_sound hK mt_L_write (T_L_write_73 SP_X6_person SP_X6_pass SP_L_cell SP_L_below SP_X6_give) (fun x hx => List.mem_append_right _ (List.mem_append_right _ hx)) _ _ _ _ ?_
    simp only [T_L_write_73, hlt, e60, i10, Bool.false_eq_true, Bool.true_eq_false, Bool.not_true, Bool.not_false, ↓run_hit, ↓run_miss, ↓run_none, run_nil, ab_get0, ab_getS, if_true, if_false, if_pos, true_and, and_true, List.append_nil, List.nil_append, List.cons_append, List.length_cons, List.length_nil, List.take_succ_cons, List.take_zero, List.drop_succ_cons, List.drop_zero, List.reverse_cons, List.reverse_nil, List.map_nil, List.map_cons, List.sum_nil, List.sum_cons, rcv_some, rcv_999, wide_I, wide_L, wide_D, wide_R, wide_X, eq_self_iff_true, ite_true, ite_false, ↓reduceIte, Nat.reduceEqDiff, Nat.reduceLeDiff, Nat.reduceLT, Nat.reduceAdd, Nat.reduceMul, Nat.reduceBEq, decide_true, decide_false, and_self, or_self, or_true, true_or, false_or, or_false, and_false, false_and, not_false_eq_true, not_true_eq_false, Nat.zero_le, Nat.le_refl, Nat.add_eq_zero_iff, Nat.succ_ne_self, ↓s_const, ↓s_iload, ↓s_lload, ↓s_dload, ↓s_aload, ↓s_istore, ↓s_lstore, ↓s_dstore, ↓s_astore, ↓s_iinc, ↓s_bin, ↓s_div, ↓s_binL, ↓s_lcmp, ↓s_i2l, ↓s_i2d, ↓s_ddiv, ↓s_dcmpl, ↓s_goto, ↓s_ifeq, ↓s_iflt, ↓s_ifgt, ↓s_cmpeq, ↓s_cmplt, ↓s_cmpgt, ↓s_ifnull, ↓s_aeq, ↓s_pop, ↓s_dup, ↓s_dup2, ↓s_dupx1, ↓s_tab, ↓s_getI, ↓s_getR, ↓s_putI, ↓s_putZ, ↓s_putR, ↓s_ald, ↓s_ast, ↓s_zast, ↓s_lald, ↓s_last, ↓s_dald, ↓s_dast, ↓s_aald, ↓s_aast, ↓s_alen, ↓s_new, ↓s_newa, ↓s_multi, ↓s_cast, ↓s_getE, ↓s_obj, ↓s_mmin, ↓s_mmax, ↓s_hd, ↓s_call, ↓s_throw, ↓s_ret, ↓s_retL, ↓s_retD, ↓s_retA, ↓s_retV, mi_wI, mr_wI, mn_wI, mc_wI, sI_wI, u3_ap, mi_sI, mi_sR, mi_sL, mi_sD, mi_al, mi_bp, mr_sI, mr_sR, mr_sL, mr_sD, mr_al, mr_bp, ml_sI, ml_sR, ml_sL, ml_sD, ml_al, ml_bp, md_sI, md_sR, md_sL, md_sD, md_al, md_bp, mn_sI, mn_sR, mn_sL, mn_sD, mn_al, mn_bp, mc_sI, mc_sR, mc_sL, mc_sD, mc_al, mc_bp, mnc_sI, mnc_sR, mnc_sL, mnc_sD, mnc_al, mnc_bp, mns_sI, mns_sR, mns_sL, mns_sD, mns_al, mns_bp, SK_0, SK_1, SK_2, SK_3, SK_4, SK_5, SK_6, SK_7, SK_8, SK_9, SK_10, SK_11, SK_12, SK_13, SK_14, SK_15, SK_16, SK_17, SK_18, SK_19, SK_20, SK_21, SK_22, SK_23, SK_24, SK_25, SK_26, SK_27, SK_28, SK_29, SK_30, SK_31, SK_32, SK_33, SK_34, SK_35, SK_36, SK_37, SK_38, SK_39, SK_40, SK_41, SK_42, SK_43, SK_44, SK_45, SK_46, SK_47, SK_48, SK_49, SK_50, SK_51, SK_52, SK_53, SK_54, SK_55, SK_56, SK_57, SK_58, SK_59, SK_60, SK_61, SK_62, SK_63, SK_64, SK_65, st1_0, st1_1, st1_2, st1_3, st1_4, st1_5, st1_6, st1_7, st1_8, st2_0, st2_1, st2_2, st2_3, st2_4, st2_5, st2_6, st2_7, clr_I, clr_R, clr_X, clr_L, clr_D, clr_N]
    exact hk'
theorem wr_6 (hL : L ≤ 260) : ∀ j k n m r, LSt L xs M n m r → n + 8 * j ≤ 500 → k + j = 5 → JJ 8 n r → WI 8 0 k r → ∃ m' r', (LSt L xs M (n + 8 * j) m' r' ∧ JJ 8 (n + 8 * j) r') ∧ gto TW 73 (lW (some (vI (nN k))) none) [] m 73 (lW (some (vI (nN 5))) none) [] m' := by
  intro j
  induction j with
  | zero =>
    intro k n m r h _ hk hJ hW
    have e : k = 5 := by omega
    subst e
    exact ⟨m, r, ⟨h, hJ⟩, gto.refl⟩
  | succ j ih =>
    intro k n m r h hn hk hJ hW
    obtain ⟨m1, r1, ⟨h1, j1, w1⟩, g1⟩ := wr_5 h (by omega) (by omega) hJ hW
    obtain ⟨m2, r2, ⟨h2, j2, w2⟩, g2⟩ := wr_4 hL (show k < 5 by omega) 7 1 (n + 1) m1 r1 h1 (by omega) (by omega) (by omega) j1 w1
    obtain ⟨m3, r3, ⟨h3, j3⟩, g3⟩ := ih (k + 1) (n + 1 + 7) m2 r2 h2 (by omega) (by omega) j2 ⟨w2.1, fun i i1 i2 => ⟨(w2.2 i i1 i2).1, by
      have := (w2.2 i i1 i2).2
      rw [if_pos i2] at this
      rw [if_neg (by omega)]
      exact this⟩⟩
    rw [show n + 1 + 7 + 8 * j = n + 8 * (j + 1) by omega] at h3 j3
    exact ⟨m3, r3, ⟨h3, j3⟩, (g1.trans g2).trans g3⟩
theorem wr_7 {R : ab_R → Prop} {K : ab_K} (hK : Closed TW R K) (hr : R (.inl ([], m))) : K 73 (lW (some (vI (nN 5))) none) [] m := by
  have hlt : (nN 5 < 5) = False := eq_false (by decide)
  show K 73 [some (vA 61 0), some (vA 0 0), some (vI 5), some (vI (nN 5)), none] [] m
  have hk : K 131 [some (vA 61 0), some (vA 0 0), some (vI 5), some (vI (nN 5)), none] [] m := by
    refine run_sound hK mt_L_write (T_L_write_88 SP_X6_person SP_X6_pass SP_L_cell SP_L_below SP_X6_give) (fun x hx => List.mem_append_right _ (List.mem_append_right _ (List.mem_append_right _ hx))) _ _ _ _ ?_
    simp only [T_L_write_88, i10, Bool.false_eq_true, Bool.true_eq_false, Bool.not_true, Bool.not_false, ↓run_hit, ↓run_miss, ↓run_none, run_nil, ab_get0, ab_getS, if_true, if_false, if_pos, true_and, and_true, List.append_nil, List.nil_append, List.cons_append, List.length_cons, List.length_nil, List.take_succ_cons, List.take_zero, List.drop_succ_cons, List.drop_zero, List.reverse_cons, List.reverse_nil, List.map_nil, List.map_cons, List.sum_nil, List.sum_cons, rcv_some, rcv_999, wide_I, wide_L, wide_D, wide_R, wide_X, eq_self_iff_true, ite_true, ite_false, ↓reduceIte, Nat.reduceEqDiff, Nat.reduceLeDiff, Nat.reduceLT, Nat.reduceAdd, Nat.reduceMul, Nat.reduceBEq, decide_true, decide_false, and_self, or_self, or_true, true_or, false_or, or_false, and_false, false_and, not_false_eq_true, not_true_eq_false, Nat.zero_le, Nat.le_refl, Nat.add_eq_zero_iff, Nat.succ_ne_self, ↓s_const, ↓s_iload, ↓s_lload, ↓s_dload, ↓s_aload, ↓s_istore, ↓s_lstore, ↓s_dstore, ↓s_astore, ↓s_iinc, ↓s_bin, ↓s_div, ↓s_binL, ↓s_lcmp, ↓s_i2l, ↓s_i2d, ↓s_ddiv, ↓s_dcmpl, ↓s_goto, ↓s_ifeq, ↓s_iflt, ↓s_ifgt, ↓s_cmpeq, ↓s_cmplt, ↓s_cmpgt, ↓s_ifnull, ↓s_aeq, ↓s_pop, ↓s_dup, ↓s_dup2, ↓s_dupx1, ↓s_tab, ↓s_getI, ↓s_getR, ↓s_putI, ↓s_putZ, ↓s_putR, ↓s_ald, ↓s_ast, ↓s_zast, ↓s_lald, ↓s_last, ↓s_dald, ↓s_dast, ↓s_aald, ↓s_aast, ↓s_alen, ↓s_new, ↓s_newa, ↓s_multi, ↓s_cast, ↓s_getE, ↓s_obj, ↓s_mmin, ↓s_mmax, ↓s_hd, ↓s_call, ↓s_throw, ↓s_ret, ↓s_retL, ↓s_retD, ↓s_retA, ↓s_retV, mi_wI, mr_wI, mn_wI, mc_wI, sI_wI, u3_ap, mi_sI, mi_sR, mi_sL, mi_sD, mi_al, mi_bp, mr_sI, mr_sR, mr_sL, mr_sD, mr_al, mr_bp, ml_sI, ml_sR, ml_sL, ml_sD, ml_al, ml_bp, md_sI, md_sR, md_sL, md_sD, md_al, md_bp, mn_sI, mn_sR, mn_sL, mn_sD, mn_al, mn_bp, mc_sI, mc_sR, mc_sL, mc_sD, mc_al, mc_bp, mnc_sI, mnc_sR, mnc_sL, mnc_sD, mnc_al, mnc_bp, mns_sI, mns_sR, mns_sL, mns_sD, mns_al, mns_bp, SK_0, SK_1, SK_2, SK_3, SK_4, SK_5, SK_6, SK_7, SK_8, SK_9, SK_10, SK_11, SK_12, SK_13, SK_14, SK_15, SK_16, SK_17, SK_18, SK_19, SK_20, SK_21, SK_22, SK_23, SK_24, SK_25, SK_26, SK_27, SK_28, SK_29, SK_30, SK_31, SK_32, SK_33, SK_34, SK_35, SK_36, SK_37, SK_38, SK_39, SK_40, SK_41, SK_42, SK_43, SK_44, SK_45, SK_46, SK_47, SK_48, SK_49, SK_50, SK_51, SK_52, SK_53, SK_54, SK_55, SK_56, SK_57, SK_58, SK_59, SK_60, SK_61, SK_62, SK_63, SK_64, SK_65, st1_0, st1_1, st1_2, st1_3, st1_4, st1_5, st1_6, st1_7, st1_8, st2_0, st2_1, st2_2, st2_3, st2_4, st2_5, st2_6, st2_7, clr_I, clr_R, clr_X, clr_L, clr_D, clr_N]
    exact hr
  refine run_sound hK mt_L_write (T_L_write_73 SP_X6_person SP_X6_pass SP_L_cell SP_L_below SP_X6_give) (fun x hx => List.mem_append_right _ (List.mem_append_right _ hx)) _ _ _ _ ?_
  simp only [T_L_write_73, T_L_write_88, hlt, hr, i10, Bool.false_eq_true, Bool.true_eq_false, Bool.not_true, Bool.not_false, ↓run_hit, ↓run_miss, ↓run_none, run_nil, ab_get0, ab_getS, if_true, if_false, if_pos, true_and, and_true, List.append_nil, List.nil_append, List.cons_append, List.length_cons, List.length_nil, List.take_succ_cons, List.take_zero, List.drop_succ_cons, List.drop_zero, List.reverse_cons, List.reverse_nil, List.map_nil, List.map_cons, List.sum_nil, List.sum_cons, rcv_some, rcv_999, wide_I, wide_L, wide_D, wide_R, wide_X, eq_self_iff_true, ite_true, ite_false, ↓reduceIte, Nat.reduceEqDiff, Nat.reduceLeDiff, Nat.reduceLT, Nat.reduceAdd, Nat.reduceMul, Nat.reduceBEq, decide_true, decide_false, and_self, or_self, or_true, true_or, false_or, or_false, and_false, false_and, not_false_eq_true, not_true_eq_false, Nat.zero_le, Nat.le_refl, Nat.add_eq_zero_iff, Nat.succ_ne_self, ↓s_const, ↓s_iload, ↓s_lload, ↓s_dload, ↓s_aload, ↓s_istore, ↓s_lstore, ↓s_dstore, ↓s_astore, ↓s_iinc, ↓s_bin, ↓s_div, ↓s_binL, ↓s_lcmp, ↓s_i2l, ↓s_i2d, ↓s_ddiv, ↓s_dcmpl, ↓s_goto, ↓s_ifeq, ↓s_iflt, ↓s_ifgt, ↓s_cmpeq, ↓s_cmplt, ↓s_cmpgt, ↓s_ifnull, ↓s_aeq, ↓s_pop, ↓s_dup, ↓s_dup2, ↓s_dupx1, ↓s_tab, ↓s_getI, ↓s_getR, ↓s_putI, ↓s_putZ, ↓s_putR, ↓s_ald, ↓s_ast, ↓s_zast, ↓s_lald, ↓s_last, ↓s_dald, ↓s_dast, ↓s_aald, ↓s_aast, ↓s_alen, ↓s_new, ↓s_newa, ↓s_multi, ↓s_cast, ↓s_getE, ↓s_obj, ↓s_mmin, ↓s_mmax, ↓s_hd, ↓s_call, ↓s_throw, ↓s_ret, ↓s_retL, ↓s_retD, ↓s_retA, ↓s_retV, mi_wI, mr_wI, mn_wI, mc_wI, sI_wI, u3_ap, mi_sI, mi_sR, mi_sL, mi_sD, mi_al, mi_bp, mr_sI, mr_sR, mr_sL, mr_sD, mr_al, mr_bp, ml_sI, ml_sR, ml_sL, ml_sD, ml_al, ml_bp, md_sI, md_sR, md_sL, md_sD, md_al, md_bp, mn_sI, mn_sR, mn_sL, mn_sD, mn_al, mn_bp, mc_sI, mc_sR, mc_sL, mc_sD, mc_al, mc_bp, mnc_sI, mnc_sR, mnc_sL, mnc_sD, mnc_al, mnc_bp, mns_sI, mns_sR, mns_sL, mns_sD, mns_al, mns_bp, SK_0, SK_1, SK_2, SK_3, SK_4, SK_5, SK_6, SK_7, SK_8, SK_9, SK_10, SK_11, SK_12, SK_13, SK_14, SK_15, SK_16, SK_17, SK_18, SK_19, SK_20, SK_21, SK_22, SK_23, SK_24, SK_25, SK_26, SK_27, SK_28, SK_29, SK_30, SK_31, SK_32, SK_33, SK_34, SK_35, SK_36, SK_37, SK_38, SK_39, SK_40, SK_41, SK_42, SK_43, SK_44, SK_45, SK_46, SK_47, SK_48, SK_49, SK_50, SK_51, SK_52, SK_53, SK_54, SK_55, SK_56, SK_57, SK_58, SK_59, SK_60, SK_61, SK_62, SK_63, SK_64, SK_65, st1_0, st1_1, st1_2, st1_3, st1_4, st1_5, st1_6, st1_7, st1_8, st2_0, st2_1, st2_2, st2_3, st2_4, st2_5, st2_6, st2_7, clr_I, clr_R, clr_X, clr_L, clr_D, clr_N]
end WR
/-- the school, as it stands behind 'write' -/
def PW (m : ab_M) (r : ab_R) : Prop := ∃ (m' : ab_M) (c : ab_C), r = .inl ([], m') ∧ LSt (mn m 0 0) (mi m 0 0) m 60 m' c ∧ JJ 8 60 c
noncomputable def SP_L_write : List ab_V → ab_M → ab_O := fun as m => chs TW 5 as m (PW m)
theorem e_L_write {m : ab_M} {r : ab_C} (hL : mn m 0 0 ≤ 260) (h : LSt (mn m 0 0) (mi m 0 0) m 0 m r) (h0 : np r = 0) (hs : nsc r = 0) : ∃ m' c, SP_L_write [vA 61 0, vA 0 0, vI 5] m = ok0 m' ∧ LSt (mn m 0 0) (mi m 0 0) m 60 m' c ∧ JJ 8 60 c := by
  obtain ⟨m1, r1, ⟨h1, j1, w1⟩, g1⟩ := wr_0 h (by decide) h0 hs
  obtain ⟨m2, r2, ⟨h2, j2, w2⟩, g2⟩ := wr_2 hL 7 1 2 m1 r1 h1 (by decide) (by decide) j1 w1
  obtain ⟨m3, r3, ⟨h3, j3⟩, g3⟩ := wr_6 hL 5 0 9 m2 r2 h2 (by decide) (by decide) j2 w2
  have hq : ∃ r, ((eL [vA 61 0, vA 0 0, vI 5]).length ≤ 5 ∧ (mnc m ≤ mnc (resM r) ∧ mns m ≤ mns (resM r)) ∧ Comes_to TW (entry 5 [vA 61 0, vA 0 0, vI 5]) m r) ∧ PW m r := by
    have eM : m3.2 = m.2 := h3.1
    refine ⟨.inl ([], m3), ⟨by show 3 ≤ 5; decide, ⟨?_, ?_⟩, fun K hK => ((g1.trans g2).trans g3) _ K hK (wr_7 hK rfl)⟩, m3, r3, rfl, h3.up (by decide), j3.up (by decide)⟩
    · show mnc m ≤ mnc m3
      unfold mnc
      rw [eM]
      exact Nat.le_refl _
    · show mns m ≤ mns m3
      unfold mns
      rw [eM]
      exact Nat.le_refl _
  obtain ⟨r9, e, m', c, e2, a, b⟩ := chs_ok hq
  exact ⟨m', c, by show chs TW 5 _ m (PW m) = _; rw [e, e2], a, b⟩
theorem C_L_write {l : Launch} {D : va_G} {cA : Nat → ClassId} {d : Nat} (hst : l.stackTraces = false) (hd : 20 ≤ d) : ∀ (as : List ab_V) (m : ab_M), Ctr l D cA d yL_write (Cond.code yL_write cL_write 5 none :: TB) as m (SP_L_write as m) := fun as m => ctr_chs (by decide +kernel) hst (by omega) (snd_L_write (d' := 19) (hd9 := by omega) (hC_X6_person := C_X6_person hst (by omega)) (hC_X6_pass := C_X6_pass hst (by omega)) (hC_L_cell := C_L_cell hst (by omega)) (hC_L_below := C_L_below hst (by omega)) (hC_X6_give := C_X6_give hst (by omega)))
