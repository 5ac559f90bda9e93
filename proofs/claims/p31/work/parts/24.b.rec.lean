/-! count of what falls; the planner's choice -/
/-- the steps are 0 … 9 -/
def SE (c : ab_C) : Prop := ∀ i, i < 12 → inb (c 7 0 i) 10
def fKept : Nat → ab_C → ab_C := fun i a => u3 a 2 0 i (a 7 0 i)
def cKept (c : ab_C) : ab_C := fo fKept c (np c)
theorem cKept_eq (c : ab_C) : ∀ k x y z, fo fKept c k x y z = if x = 2 ∧ y = 0 ∧ z < k then c 7 0 z else c x y z := by
  intro k
  induction k with
  | zero => intro x y z; rw [if_neg (by omega)]; rfl
  | succ k ih =>
    intro x y z
    show u3 (fo fKept c k) 2 0 k (fo fKept c k 7 0 k) x y z = _
    rw [u3_ap, ih, ih]
    by_cases h : x = 2 ∧ y = 0 ∧ z = k
    · rw [if_pos h, if_neg (by omega), if_pos (by omega), h.2.2]
    · rw [if_neg h]
      by_cases h2 : x = 2 ∧ y = 0 ∧ z < k
      · rw [if_pos h2, if_pos (by omega)]
      · rw [if_neg h2, if_neg (by omega)]
theorem cKept_KE {c : ab_C} (hs : SE c) (hk : KE c) : KE (cKept c) := by
  intro i hi
  unfold cKept
  rw [cKept_eq]
  split
  · exact hs i hi
  · exact hk i hi
theorem cKept_at {c : ab_C} {x y z : Nat} (h : x ≠ 2) : cKept c x y z = c x y z := by
  unfold cKept
  rw [cKept_eq, if_neg (fun e => h e.1)]
def cFall (c : ab_C) (p s : Int32) : Int32 × ab_C := cDrop 12 p s.toNatClampNeg (cKept c)
noncomputable def SP_X0_count : List ab_V → ab_M → ab_O := fun as m => match as with
  | [this, .inl p, .inl s] => gd (this = vA 39 0 ∧ (CI m) ∧ (SE (mi m)) ∧ (KE (mi m)) ∧ (inb p 12) ∧ (inb s 10 ∧ 1 ≤ s.toNatClampNeg)) (okV (vI (cFall (mi m) p s).1) (wI m (cFall (mi m) p s).2))
  | _ => none
theorem e_X0_count {m : ab_M} {p : Int32} {s : Int32} (h1 : CI m) (h2 : SE (mi m)) (h3 : KE (mi m)) (h4 : inb p 12) (h5 : inb s 10 ∧ 1 ≤ s.toNatClampNeg) : SP_X0_count [vA 39 0, vI p, vI s] m = okV (vI (cFall (mi m) p s).1) (wI m (cFall (mi m) p s).2) := gd_pos ⟨rfl, h1, h2, h3, h4, h5⟩
theorem q_X0_count {m : ab_M} {p : Int32} {s : Int32} (h1 : CI m) (h2 : SE (mi m)) (h3 : KE (mi m)) (h4 : inb p 12) (h5 : inb s 10 ∧ 1 ≤ s.toNatClampNeg) : ∀ r : ab_R, okV (vI (cFall (mi m) p s).1) (wI m (cFall (mi m) p s).2) = some r → (mnc m ≤ mnc (resM r) ∧ mns m ≤ mns (resM r)) ∧ ∀ K : ab_K, Closed (T_X0_count (SP_X0_drop 12)) (fun r' => r' = r) K → run K (fun r' => r' = r) (T_X0_count (SP_X0_drop 12)) 0 [some (vA 39 0), some (vI p), some (vI s), none] [] m := by
  intro r hr; cases hr
  refine ⟨⟨Nat.le_refl _, Nat.le_refl _⟩, fun K hK => ?_⟩
  have hC := h1.1
  have hn := h1.2.1.1
  have h12 := h1.2.1.2
  have hnB : np (mi m) < 2147483648 := by omega
  have hhn := h1.2.2.1.1
  have hh4 := h1.2.2.1.2
  have hhB : nh (mi m) < 2147483648 := by omega
  have hsn := h1.2.2.2.1.1
  have hs8 := h1.2.2.2.1.2
  have hsB : nsc (mi m) < 2147483648 := by omega
  have hun := h1.2.2.2.2.1
  have hu12 := h1.2.2.2.2.2
  have huB : nu (mi m) < 2147483648 := by omega
  have hd : SP_X0_drop 12 [vA 39 0, vI p, vI s, vI 0] (wI m (cKept (mi m))) = okV (vI (cFall (mi m) p s).1) (wI m (cFall (mi m) p s).2) :=
    e_X0_drop (CI_wI h1 (cKept_at (by decide)) (cKept_at (by decide)) (cKept_at (by decide)) (cKept_at (by decide))) (cKept_KE h2 h3) h4 h5 (by unfold inb; decide) (by decide)
  have hI : ∀ k, fo fKept (mi m) k 35 0 0 = nN (np (mi m)) := fun k => (fo_cell (f := fKept) (fun i a => rfl) k).trans hn
  have lp : (fun (i : Nat) (a : ab_C) => K 2 [some (vA 39 0), some (vI p), some (vI s), some (vI (nN i))] [] (wI m a)) 0 (mi m) := by
    refine fo_loop (P := fun (i : Nat) (a : ab_C) => K 2 [some (vA 39 0), some (vI p), some (vI s), some (vI (nN i))] [] (wI m a)) (f := fKept) (n := np (mi m)) ?_ ?_
    · intro i a hi ha hk
      have hka := hI i
      rw [← ha] at hka
      have hiB : i < 2147483648 := by omega
      have hi12 : i < 12 := by omega
      refine run_sound hK mt_X0_count (T_X0_count_2 (SP_X0_drop 12)) (fun x hx => List.mem_append_right _ hx) _ _ _ _ ?_
      simp only [T_X0_count_2, hka, nN_lt hiB hnB, hi, inb_nN hiB, hi12, nN_nat hiB, nN_succ, Bool.false_eq_true, ↓run_hit, ↓run_miss, ↓run_none, run_nil, ab_get0, ab_getS, if_true, if_false, if_pos, true_and, and_true, List.append_nil, List.nil_append, List.cons_append, List.length_cons, List.length_nil, List.take_succ_cons, List.take_zero, List.drop_succ_cons, List.drop_zero, List.reverse_cons, List.reverse_nil, List.map_nil, List.map_cons, List.sum_nil, List.sum_cons, rcv_some, rcv_999, wide_I, wide_L, wide_D, wide_R, wide_X, eq_self_iff_true, ite_true, ite_false, ↓reduceIte, Nat.reduceEqDiff, Nat.reduceLeDiff, Nat.reduceLT, Nat.reduceAdd, Nat.reduceMul, Nat.reduceBEq, decide_true, decide_false, and_self, or_self, or_true, true_or, false_or, or_false, and_false, false_and, not_false_eq_true, not_true_eq_false, Nat.zero_le, Nat.le_refl, Nat.add_eq_zero_iff, Nat.succ_ne_self, ↓s_const, ↓s_iload, ↓s_lload, ↓s_dload, ↓s_aload, ↓s_istore, ↓s_lstore, ↓s_dstore, ↓s_astore, ↓s_iinc, ↓s_bin, ↓s_div, ↓s_binL, ↓s_lcmp, ↓s_i2l, ↓s_i2d, ↓s_ddiv, ↓s_dcmpl, ↓s_goto, ↓s_ifeq, ↓s_iflt, ↓s_ifgt, ↓s_cmpeq, ↓s_cmplt, ↓s_cmpgt, ↓s_ifnull, ↓s_aeq, ↓s_pop, ↓s_dup, ↓s_dup2, ↓s_dupx1, ↓s_tab, ↓s_getI, ↓s_getR, ↓s_putI, ↓s_putZ, ↓s_putR, ↓s_ald, ↓s_ast, ↓s_zast, ↓s_lald, ↓s_last, ↓s_dald, ↓s_dast, ↓s_aald, ↓s_aast, ↓s_alen, ↓s_new, ↓s_newa, ↓s_multi, ↓s_cast, ↓s_getE, ↓s_obj, ↓s_mmin, ↓s_mmax, ↓s_hd, ↓s_call, ↓s_throw, ↓s_ret, ↓s_retL, ↓s_retD, ↓s_retA, ↓s_retV, mi_wI, mr_wI, mn_wI, mc_wI, sI_wI, u3_ap, mi_sI, mi_sR, mi_sL, mi_sD, mi_al, mi_bp, mr_sI, mr_sR, mr_sL, mr_sD, mr_al, mr_bp, ml_sI, ml_sR, ml_sL, ml_sD, ml_al, ml_bp, md_sI, md_sR, md_sL, md_sD, md_al, md_bp, mn_sI, mn_sR, mn_sL, mn_sD, mn_al, mn_bp, mc_sI, mc_sR, mc_sL, mc_sD, mc_al, mc_bp, mnc_sI, mnc_sR, mnc_sL, mnc_sD, mnc_al, mnc_bp, mns_sI, mns_sR, mns_sL, mns_sD, mns_al, mns_bp, SK_0, SK_1, SK_2, SK_3, SK_4, SK_5, SK_6, SK_7, SK_8, SK_9, SK_10, SK_11, SK_12, SK_13, SK_14, SK_15, SK_16, SK_17, SK_18, SK_19, SK_20, SK_21, SK_22, SK_23, SK_24, SK_25, SK_26, SK_27, SK_28, SK_29, SK_30, SK_31, SK_32, SK_33, SK_34, SK_35, SK_36, SK_37, SK_38, SK_39, SK_40, SK_41, SK_42, SK_43, SK_44, SK_45, SK_46, SK_47, SK_48, SK_49, SK_50, SK_51, SK_52, SK_53, SK_54, SK_55, SK_56, SK_57, SK_58, SK_59, SK_60, SK_61, SK_62, SK_63, SK_64, SK_65, st1_0, st1_1, st1_2, st1_3, st1_4, st1_5, st1_6, st1_7, st1_8, st2_0, st2_1, st2_2, st2_3, st2_4, st2_5, st2_6, st2_7, clr_I, clr_R, clr_X, clr_L, clr_D, clr_N, cr_14 hC, cr_16 hC, cr_33 hC, cn_15 hC, cn_17 hC, cn_34 hC, cr_61_0 hC, cr_61_1 hC, cr_61_2 hC, cr_61_3 hC, cr_61_4 hC, cr_61_5 hC, cr_35_1 hC, cr_35_2 hC, cr_35_3 hC, cr_35_4 hC, cr_35_5 hC, cr_35_6 hC, cr_35_7 hC, cr_35_8 hC, cr_35_9 hC, cr_35_10 hC, cr_35_11 hC, cr_36_1 hC, cr_36_2 hC, cr_37_1 hC, cr_37_2 hC, cr_37_3 hC, cr_37_4 hC, cr_38_1 hC, cr_38_2 hC, cr_38_3 hC, cr_38_4 hC, cr_38_5 hC, cr_38_6 hC, cr_38_7 hC, cr_38_8 hC, cr_39_0 hC, cr_39_1 hC, cr_40_0 hC, cr_40_1 hC, cr_40_2 hC, cr_40_3 hC, cr_40_4 hC, cr_40_5 hC, cn_2 hC, cn_3 hC, cn_4 hC, cn_14 hC, cn_16 hC, cn_18 hC, cn_19 hC, cn_20 hC, cn_21 hC, cn_33 hC, cn_5 hC, cn_6 hC, cn_7 hC, cn_8 hC, cn_9 hC, cn_10 hC, cn_11 hC, cn_12 hC, cn_13 hC, cn_22 hC, cn_23 hC, cn_24 hC, cn_25 hC, cn_26 hC, cn_27 hC, cn_28 hC, cn_29 hC, cn_30 hC, cn_31 hC, cn_32 hC]
      exact hk
    · have hka := hI (np (mi m))
      rw [show fo fKept (mi m) (np (mi m)) = cKept (mi m) from rfl] at hka ⊢
      refine run_sound hK mt_X0_count (T_X0_count_2 (SP_X0_drop 12)) (fun x hx => List.mem_append_right _ hx) _ _ _ _ ?_
      simp only [T_X0_count_2, hka, nN_lt hnB hnB, Nat.lt_irrefl, hd, Bool.false_eq_true, ↓run_hit, ↓run_miss, ↓run_none, run_nil, ab_get0, ab_getS, if_true, if_false, if_pos, true_and, and_true, List.append_nil, List.nil_append, List.cons_append, List.length_cons, List.length_nil, List.take_succ_cons, List.take_zero, List.drop_succ_cons, List.drop_zero, List.reverse_cons, List.reverse_nil, List.map_nil, List.map_cons, List.sum_nil, List.sum_cons, rcv_some, rcv_999, wide_I, wide_L, wide_D, wide_R, wide_X, eq_self_iff_true, ite_true, ite_false, ↓reduceIte, Nat.reduceEqDiff, Nat.reduceLeDiff, Nat.reduceLT, Nat.reduceAdd, Nat.reduceMul, Nat.reduceBEq, decide_true, decide_false, and_self, or_self, or_true, true_or, false_or, or_false, and_false, false_and, not_false_eq_true, not_true_eq_false, Nat.zero_le, Nat.le_refl, Nat.add_eq_zero_iff, Nat.succ_ne_self, ↓s_const, ↓s_iload, ↓s_lload, ↓s_dload, ↓s_aload, ↓s_istore, ↓s_lstore, ↓s_dstore, ↓s_astore, ↓s_iinc, ↓s_bin, ↓s_div, ↓s_binL, ↓s_lcmp, ↓s_i2l, ↓s_i2d, ↓s_ddiv, ↓s_dcmpl, ↓s_goto, ↓s_ifeq, ↓s_iflt, ↓s_ifgt, ↓s_cmpeq, ↓s_cmplt, ↓s_cmpgt, ↓s_ifnull, ↓s_aeq, ↓s_pop, ↓s_dup, ↓s_dup2, ↓s_dupx1, ↓s_tab, ↓s_getI, ↓s_getR, ↓s_putI, ↓s_putZ, ↓s_putR, ↓s_ald, ↓s_ast, ↓s_zast, ↓s_lald, ↓s_last, ↓s_dald, ↓s_dast, ↓s_aald, ↓s_aast, ↓s_alen, ↓s_new, ↓s_newa, ↓s_multi, ↓s_cast, ↓s_getE, ↓s_obj, ↓s_mmin, ↓s_mmax, ↓s_hd, ↓s_call, ↓s_throw, ↓s_ret, ↓s_retL, ↓s_retD, ↓s_retA, ↓s_retV, mi_wI, mr_wI, mn_wI, mc_wI, sI_wI, u3_ap, mi_sI, mi_sR, mi_sL, mi_sD, mi_al, mi_bp, mr_sI, mr_sR, mr_sL, mr_sD, mr_al, mr_bp, ml_sI, ml_sR, ml_sL, ml_sD, ml_al, ml_bp, md_sI, md_sR, md_sL, md_sD, md_al, md_bp, mn_sI, mn_sR, mn_sL, mn_sD, mn_al, mn_bp, mc_sI, mc_sR, mc_sL, mc_sD, mc_al, mc_bp, mnc_sI, mnc_sR, mnc_sL, mnc_sD, mnc_al, mnc_bp, mns_sI, mns_sR, mns_sL, mns_sD, mns_al, mns_bp, SK_0, SK_1, SK_2, SK_3, SK_4, SK_5, SK_6, SK_7, SK_8, SK_9, SK_10, SK_11, SK_12, SK_13, SK_14, SK_15, SK_16, SK_17, SK_18, SK_19, SK_20, SK_21, SK_22, SK_23, SK_24, SK_25, SK_26, SK_27, SK_28, SK_29, SK_30, SK_31, SK_32, SK_33, SK_34, SK_35, SK_36, SK_37, SK_38, SK_39, SK_40, SK_41, SK_42, SK_43, SK_44, SK_45, SK_46, SK_47, SK_48, SK_49, SK_50, SK_51, SK_52, SK_53, SK_54, SK_55, SK_56, SK_57, SK_58, SK_59, SK_60, SK_61, SK_62, SK_63, SK_64, SK_65, st1_0, st1_1, st1_2, st1_3, st1_4, st1_5, st1_6, st1_7, st1_8, st2_0, st2_1, st2_2, st2_3, st2_4, st2_5, st2_6, st2_7, clr_I, clr_R, clr_X, clr_L, clr_D, clr_N, cr_14 hC, cr_16 hC, cr_33 hC, cn_15 hC, cn_17 hC, cn_34 hC, cr_61_0 hC, cr_61_1 hC, cr_61_2 hC, cr_61_3 hC, cr_61_4 hC, cr_61_5 hC, cr_35_1 hC, cr_35_2 hC, cr_35_3 hC, cr_35_4 hC, cr_35_5 hC, cr_35_6 hC, cr_35_7 hC, cr_35_8 hC, cr_35_9 hC, cr_35_10 hC, cr_35_11 hC, cr_36_1 hC, cr_36_2 hC, cr_37_1 hC, cr_37_2 hC, cr_37_3 hC, cr_37_4 hC, cr_38_1 hC, cr_38_2 hC, cr_38_3 hC, cr_38_4 hC, cr_38_5 hC, cr_38_6 hC, cr_38_7 hC, cr_38_8 hC, cr_39_0 hC, cr_39_1 hC, cr_40_0 hC, cr_40_1 hC, cr_40_2 hC, cr_40_3 hC, cr_40_4 hC, cr_40_5 hC, cn_2 hC, cn_3 hC, cn_4 hC, cn_14 hC, cn_16 hC, cn_18 hC, cn_19 hC, cn_20 hC, cn_21 hC, cn_33 hC, cn_5 hC, cn_6 hC, cn_7 hC, cn_8 hC, cn_9 hC, cn_10 hC, cn_11 hC, cn_12 hC, cn_13 hC, cn_22 hC, cn_23 hC, cn_24 hC, cn_25 hC, cn_26 hC, cn_27 hC, cn_28 hC, cn_29 hC, cn_30 hC, cn_31 hC, cn_32 hC]
  simp only [T_X0_count, Bool.false_eq_true, ↓run_hit, ↓run_miss, ↓run_none, run_nil, ab_get0, ab_getS, if_true, if_false, if_pos, true_and, and_true, List.append_nil, List.nil_append, List.cons_append, List.length_cons, List.length_nil, List.take_succ_cons, List.take_zero, List.drop_succ_cons, List.drop_zero, List.reverse_cons, List.reverse_nil, List.map_nil, List.map_cons, List.sum_nil, List.sum_cons, rcv_some, rcv_999, wide_I, wide_L, wide_D, wide_R, wide_X, eq_self_iff_true, ite_true, ite_false, ↓reduceIte, Nat.reduceEqDiff, Nat.reduceLeDiff, Nat.reduceLT, Nat.reduceAdd, Nat.reduceMul, Nat.reduceBEq, decide_true, decide_false, and_self, or_self, or_true, true_or, false_or, or_false, and_false, false_and, not_false_eq_true, not_true_eq_false, Nat.zero_le, Nat.le_refl, Nat.add_eq_zero_iff, Nat.succ_ne_self, ↓s_const, ↓s_iload, ↓s_lload, ↓s_dload, ↓s_aload, ↓s_istore, ↓s_lstore, ↓s_dstore, ↓s_astore, ↓s_iinc, ↓s_bin, ↓s_div, ↓s_binL, ↓s_lcmp, ↓s_i2l, ↓s_i2d, ↓s_ddiv, ↓s_dcmpl, ↓s_goto, ↓s_ifeq, ↓s_iflt, ↓s_ifgt, ↓s_cmpeq, ↓s_cmplt, ↓s_cmpgt, ↓s_ifnull, ↓s_aeq, ↓s_pop, ↓s_dup, ↓s_dup2, ↓s_dupx1, ↓s_tab, ↓s_getI, ↓s_getR, ↓s_putI, ↓s_putZ, ↓s_putR, ↓s_ald, ↓s_ast, ↓s_zast, ↓s_lald, ↓s_last, ↓s_dald, ↓s_dast, ↓s_aald, ↓s_aast, ↓s_alen, ↓s_new, ↓s_newa, ↓s_multi, ↓s_cast, ↓s_getE, ↓s_obj, ↓s_mmin, ↓s_mmax, ↓s_hd, ↓s_call, ↓s_throw, ↓s_ret, ↓s_retL, ↓s_retD, ↓s_retA, ↓s_retV, mi_wI, mr_wI, mn_wI, mc_wI, sI_wI, u3_ap, mi_sI, mi_sR, mi_sL, mi_sD, mi_al, mi_bp, mr_sI, mr_sR, mr_sL, mr_sD, mr_al, mr_bp, ml_sI, ml_sR, ml_sL, ml_sD, ml_al, ml_bp, md_sI, md_sR, md_sL, md_sD, md_al, md_bp, mn_sI, mn_sR, mn_sL, mn_sD, mn_al, mn_bp, mc_sI, mc_sR, mc_sL, mc_sD, mc_al, mc_bp, mnc_sI, mnc_sR, mnc_sL, mnc_sD, mnc_al, mnc_bp, mns_sI, mns_sR, mns_sL, mns_sD, mns_al, mns_bp, SK_0, SK_1, SK_2, SK_3, SK_4, SK_5, SK_6, SK_7, SK_8, SK_9, SK_10, SK_11, SK_12, SK_13, SK_14, SK_15, SK_16, SK_17, SK_18, SK_19, SK_20, SK_21, SK_22, SK_23, SK_24, SK_25, SK_26, SK_27, SK_28, SK_29, SK_30, SK_31, SK_32, SK_33, SK_34, SK_35, SK_36, SK_37, SK_38, SK_39, SK_40, SK_41, SK_42, SK_43, SK_44, SK_45, SK_46, SK_47, SK_48, SK_49, SK_50, SK_51, SK_52, SK_53, SK_54, SK_55, SK_56, SK_57, SK_58, SK_59, SK_60, SK_61, SK_62, SK_63, SK_64, SK_65, st1_0, st1_1, st1_2, st1_3, st1_4, st1_5, st1_6, st1_7, st1_8, st2_0, st2_1, st2_2, st2_3, st2_4, st2_5, st2_6, st2_7, clr_I, clr_R, clr_X, clr_L, clr_D, clr_N, cr_14 hC, cr_16 hC, cr_33 hC, cn_15 hC, cn_17 hC, cn_34 hC, cr_61_0 hC, cr_61_1 hC, cr_61_2 hC, cr_61_3 hC, cr_61_4 hC, cr_61_5 hC, cr_35_1 hC, cr_35_2 hC, cr_35_3 hC, cr_35_4 hC, cr_35_5 hC, cr_35_6 hC, cr_35_7 hC, cr_35_8 hC, cr_35_9 hC, cr_35_10 hC, cr_35_11 hC, cr_36_1 hC, cr_36_2 hC, cr_37_1 hC, cr_37_2 hC, cr_37_3 hC, cr_37_4 hC, cr_38_1 hC, cr_38_2 hC, cr_38_3 hC, cr_38_4 hC, cr_38_5 hC, cr_38_6 hC, cr_38_7 hC, cr_38_8 hC, cr_39_0 hC, cr_39_1 hC, cr_40_0 hC, cr_40_1 hC, cr_40_2 hC, cr_40_3 hC, cr_40_4 hC, cr_40_5 hC, cn_2 hC, cn_3 hC, cn_4 hC, cn_14 hC, cn_16 hC, cn_18 hC, cn_19 hC, cn_20 hC, cn_21 hC, cn_33 hC, cn_5 hC, cn_6 hC, cn_7 hC, cn_8 hC, cn_9 hC, cn_10 hC, cn_11 hC, cn_12 hC, cn_13 hC, cn_22 hC, cn_23 hC, cn_24 hC, cn_25 hC, cn_26 hC, cn_27 hC, cn_28 hC, cn_29 hC, cn_30 hC, cn_31 hC, cn_32 hC]
  exact lp
theorem C_X0_count {l : Launch} {D : va_G} {cA : Nat → ClassId} {d : Nat} (hst : l.stackTraces = false) (hd : 14 ≤ d) : ∀ (as : List ab_V) (m : ab_M), Ctr l D cA d yX0_count (Cond.code yX0_count cX0_count 4 (some .int) :: TB) as m (SP_X0_count as m) := by
  intro as m
  refine ctr_of2 (by decide +kernel) hst (by omega) (snd_X0_count (d' := 13) (hd9 := by omega) (hC_X0_drop := C_X0_drop hst 12 _ (by omega))) mt_X0_count ?_
  intro r hr
  unfold SP_X0_count at hr
  split at hr
  · obtain ⟨hp, hr'⟩ := gd_some hr
    obtain ⟨rfl, h1, h2, h3, h4, h5⟩ := hp
    have q := q_X0_count h1 h2 h3 h4 h5 r hr'
    exact ⟨by show 3 ≤ 4; decide, q.1, q.2⟩
  · cases hr
def fCh (g : Int32 → ab_C → ab_C) (kd : Nat) (w : Int32) : Nat → ab_C → ab_C := fun i a => if a 21 0 i = 0 then a else if a 26 0 i = nN kd then g (w + a 20 0 i - 4 * cSame a (a 28 0 i) kd) (u3 a 19 0 kd (nN i)) else a
/-- all plans from the kind 4 - k on, with what is picked before -/
def cChoose : Nat → Int32 → ab_C → ab_C
  | 0, w, c => cKeep c w
  | k + 1, w, c => cChoose k w (u3 (fo (fCh (cChoose k) (3 - k) w) c (nu c)) 19 0 (3 - k) (-1))
theorem cChoose_s (k : Nat) (w : Int32) (c : ab_C) : cChoose (k + 1) w c = cChoose k w (u3 (fo (fCh (cChoose k) (3 - k) w) c (nu c)) 19 0 (3 - k) (-1)) := rfl
/-- what a choice from the kind 4 - k on leaves as it was -/
def DC (k : Nat) (c c' : ab_C) : Prop := ∀ x y z, ¬ x = 18 → ¬ x = 40 → ¬ (x = 19 ∧ 4 ≤ z + k) → c' x y z = c x y z
theorem DC.trans {k : Nat} {a b c : ab_C} (h : DC k a b) (h' : DC k b c) : DC k a c := fun x y z e e2 e3 => (h' x y z e e2 e3).trans (h x y z e e2 e3)
theorem DC.up {k : Nat} {a b : ab_C} (h : DC k a b) : DC (k + 1) a b := fun x y z e e2 e3 => h x y z e e2 (fun z => e3 ⟨z.1, by omega⟩)
theorem DC_set {k : Nat} {c : ab_C} {v : Int32} (hk : k < 4) : DC (k + 1) c (u3 c 19 0 (3 - k) v) := fun x y z _ _ e3 => by
  rw [u3_ap, if_neg (fun e => e3 ⟨e.1, by omega⟩)]
theorem cKeep_at {c : ab_C} {w : Int32} {x y z : Nat} (h : ¬ x = 18) (h' : ¬ x = 40) : cKeep c w x y z = c x y z := by
  unfold cKeep
  split
  · rw [fo_cell (fun i a => by show u3 _ _ _ _ _ _ _ _ = _; rw [u3_ap, if_neg (fun e => h e.1)]), u3_ap, if_neg (fun e => h' e.1)]
  · rfl
theorem DC_fCh {g : Int32 → ab_C → ab_C} {k : Nat} {w : Int32} {c : ab_C} (hk : k < 4) (hg : ∀ w c', DC k c' (g w c')) (i : Nat) (a : ab_C) (ha : DC (k + 1) c a) : DC (k + 1) c (fCh g (3 - k) w i a) := by
  unfold fCh
  split
  · exact ha
  · split
    · exact ha.trans ((DC_set hk).trans (hg _ _).up)
    · exact ha
theorem cChoose_pres (k : Nat) : k ≤ 4 → ∀ (w : Int32) (c : ab_C), DC k c (cChoose k w c) := by
  induction k with
  | zero => intro _ w c x y z e e2 _; exact cKeep_at e e2
  | succ k ih =>
    intro hk w c
    rw [cChoose_s]
    have H := fo_inv (f := fCh (cChoose k) (3 - k) w) (s := c) (n := nu c) (fun _ a => DC (k + 1) c a) (fun _ _ _ _ _ _ => rfl) (fun i a _ ha => DC_fCh (by omega) (ih (by omega)) i a ha) (nu c) (Nat.le_refl _)
    exact DC.trans H (DC.trans (DC_set (by omega)) (ih (by omega) w _).up)
noncomputable def SP_X3_choose (k : Nat) : List ab_V → ab_M → ab_O := fun as m => match as with
  | [this, .inl kd, .inl w] => gd (this = vA 40 0 ∧ CI m ∧ inb kd 5 ∧ PE (mi m) kd.toNatClampNeg ∧ 4 - kd.toNatClampNeg ≤ k) (ok0 (wI m (cChoose (4 - kd.toNatClampNeg) w (mi m))))
  | _ => none
theorem e_X3_choose {k : Nat} {m : ab_M} {kd w : Int32} (h1 : CI m) (h2 : inb kd 5) (h3 : PE (mi m) kd.toNatClampNeg) (h4 : 4 - kd.toNatClampNeg ≤ k) : SP_X3_choose k [vA 40 0, vI kd, vI w] m = ok0 (wI m (cChoose (4 - kd.toNatClampNeg) w (mi m))) := gd_pos ⟨rfl, h1, h2, h3, h4⟩
theorem q0_X3_choose {sp : List ab_V → ab_M → ab_O} {m : ab_M} {kd w : Int32} (h1 : CI m) (hd : kd = 4) : ∀ K : ab_K, Closed (T_X3_choose SP_X3_keepIfBetter SP_X3_countSameTheme sp) (fun r' => r' = .inl ([], wI m (cChoose 0 w (mi m)))) K → run K (fun r' => r' = .inl ([], wI m (cChoose 0 w (mi m)))) (T_X3_choose SP_X3_keepIfBetter SP_X3_countSameTheme sp) 0 [some (vA 40 0), some (vI kd), some (vI w), none, none] [] m := by
  intro K hK
  have hC := h1.1
  subst hd
  simp only [T_X3_choose, show ¬ ((4 : Int32) < 4) from by decide, e_X3_keepIfBetter hC, Bool.false_eq_true, ↓run_hit, ↓run_miss, ↓run_none, run_nil, ab_get0, ab_getS, if_true, if_false, if_pos, true_and, and_true, List.append_nil, List.nil_append, List.cons_append, List.length_cons, List.length_nil, List.take_succ_cons, List.take_zero, List.drop_succ_cons, List.drop_zero, List.reverse_cons, List.reverse_nil, List.map_nil, List.map_cons, List.sum_nil, List.sum_cons, rcv_some, rcv_999, wide_I, wide_L, wide_D, wide_R, wide_X, eq_self_iff_true, ite_true, ite_false, ↓reduceIte, Nat.reduceEqDiff, Nat.reduceLeDiff, Nat.reduceLT, Nat.reduceAdd, Nat.reduceMul, Nat.reduceBEq, decide_true, decide_false, and_self, or_self, or_true, true_or, false_or, or_false, and_false, false_and, not_false_eq_true, not_true_eq_false, Nat.zero_le, Nat.le_refl, Nat.add_eq_zero_iff, Nat.succ_ne_self, ↓s_const, ↓s_iload, ↓s_lload, ↓s_dload, ↓s_aload, ↓s_istore, ↓s_lstore, ↓s_dstore, ↓s_astore, ↓s_iinc, ↓s_bin, ↓s_div, ↓s_binL, ↓s_lcmp, ↓s_i2l, ↓s_i2d, ↓s_ddiv, ↓s_dcmpl, ↓s_goto, ↓s_ifeq, ↓s_iflt, ↓s_ifgt, ↓s_cmpeq, ↓s_cmplt, ↓s_cmpgt, ↓s_ifnull, ↓s_aeq, ↓s_pop, ↓s_dup, ↓s_dup2, ↓s_dupx1, ↓s_tab, ↓s_getI, ↓s_getR, ↓s_putI, ↓s_putZ, ↓s_putR, ↓s_ald, ↓s_ast, ↓s_zast, ↓s_lald, ↓s_last, ↓s_dald, ↓s_dast, ↓s_aald, ↓s_aast, ↓s_alen, ↓s_new, ↓s_newa, ↓s_multi, ↓s_cast, ↓s_getE, ↓s_obj, ↓s_mmin, ↓s_mmax, ↓s_hd, ↓s_call, ↓s_throw, ↓s_ret, ↓s_retL, ↓s_retD, ↓s_retA, ↓s_retV, mi_wI, mr_wI, mn_wI, mc_wI, sI_wI, u3_ap, mi_sI, mi_sR, mi_sL, mi_sD, mi_al, mi_bp, mr_sI, mr_sR, mr_sL, mr_sD, mr_al, mr_bp, ml_sI, ml_sR, ml_sL, ml_sD, ml_al, ml_bp, md_sI, md_sR, md_sL, md_sD, md_al, md_bp, mn_sI, mn_sR, mn_sL, mn_sD, mn_al, mn_bp, mc_sI, mc_sR, mc_sL, mc_sD, mc_al, mc_bp, mnc_sI, mnc_sR, mnc_sL, mnc_sD, mnc_al, mnc_bp, mns_sI, mns_sR, mns_sL, mns_sD, mns_al, mns_bp, SK_0, SK_1, SK_2, SK_3, SK_4, SK_5, SK_6, SK_7, SK_8, SK_9, SK_10, SK_11, SK_12, SK_13, SK_14, SK_15, SK_16, SK_17, SK_18, SK_19, SK_20, SK_21, SK_22, SK_23, SK_24, SK_25, SK_26, SK_27, SK_28, SK_29, SK_30, SK_31, SK_32, SK_33, SK_34, SK_35, SK_36, SK_37, SK_38, SK_39, SK_40, SK_41, SK_42, SK_43, SK_44, SK_45, SK_46, SK_47, SK_48, SK_49, SK_50, SK_51, SK_52, SK_53, SK_54, SK_55, SK_56, SK_57, SK_58, SK_59, SK_60, SK_61, SK_62, SK_63, SK_64, SK_65, st1_0, st1_1, st1_2, st1_3, st1_4, st1_5, st1_6, st1_7, st1_8, st2_0, st2_1, st2_2, st2_3, st2_4, st2_5, st2_6, st2_7, clr_I, clr_R, clr_X, clr_L, clr_D, clr_N, cr_14 hC, cr_16 hC, cr_33 hC, cn_15 hC, cn_17 hC, cn_34 hC, cr_61_0 hC, cr_61_1 hC, cr_61_2 hC, cr_61_3 hC, cr_61_4 hC, cr_61_5 hC, cr_35_1 hC, cr_35_2 hC, cr_35_3 hC, cr_35_4 hC, cr_35_5 hC, cr_35_6 hC, cr_35_7 hC, cr_35_8 hC, cr_35_9 hC, cr_35_10 hC, cr_35_11 hC, cr_36_1 hC, cr_36_2 hC, cr_37_1 hC, cr_37_2 hC, cr_37_3 hC, cr_37_4 hC, cr_38_1 hC, cr_38_2 hC, cr_38_3 hC, cr_38_4 hC, cr_38_5 hC, cr_38_6 hC, cr_38_7 hC, cr_38_8 hC, cr_39_0 hC, cr_39_1 hC, cr_40_0 hC, cr_40_1 hC, cr_40_2 hC, cr_40_3 hC, cr_40_4 hC, cr_40_5 hC, cn_2 hC, cn_3 hC, cn_4 hC, cn_14 hC, cn_16 hC, cn_18 hC, cn_19 hC, cn_20 hC, cn_21 hC, cn_33 hC, cn_5 hC, cn_6 hC, cn_7 hC, cn_8 hC, cn_9 hC, cn_10 hC, cn_11 hC, cn_12 hC, cn_13 hC, cn_22 hC, cn_23 hC, cn_24 hC, cn_25 hC, cn_26 hC, cn_27 hC, cn_28 hC, cn_29 hC, cn_30 hC, cn_31 hC, cn_32 hC]
  rfl
theorem q_X3_choose {sp : List ab_V → ab_M → ab_O} {m : ab_M} {kd : Nat} {w : Int32} (h1 : CI m) (h2 : kd < 4) (h3 : PE (mi m) kd)
    (hsp : ∀ (c : ab_C) (w : Int32), CI (wI m c) → PE c (kd + 1) → sp [vA 40 0, vI (nN (kd + 1)), vI w] (wI m c) = ok0 (wI m (cChoose (3 - kd) w c))) :
    ∀ K : ab_K, Closed (T_X3_choose SP_X3_keepIfBetter SP_X3_countSameTheme sp) (fun r' => r' = .inl ([], wI m (cChoose (4 - kd) w (mi m)))) K → run K (fun r' => r' = .inl ([], wI m (cChoose (4 - kd) w (mi m)))) (T_X3_choose SP_X3_keepIfBetter SP_X3_countSameTheme sp) 0 [some (vA 40 0), some (vI (nN kd)), some (vI w), none, none] [] m := by
  intro K hK
  have hC := h1.1
  have hn := h1.2.1.1
  have h12 := h1.2.1.2
  have hnB : np (mi m) < 2147483648 := by omega
  have hhn := h1.2.2.1.1
  have hh4 := h1.2.2.1.2
  have hhB : nh (mi m) < 2147483648 := by omega
  have hsn := h1.2.2.2.1.1
  have hs8 := h1.2.2.2.1.2
  have hsB : nsc (mi m) < 2147483648 := by omega
  have hun := h1.2.2.2.2.1
  have hu12 := h1.2.2.2.2.2
  have huB : nu (mi m) < 2147483648 := by omega
  have hdB : kd < 2147483648 := by omega
  have ek : 4 - kd = (3 - kd) + 1 := by omega
  have e1 : cChoose (4 - kd) w (mi m) = cChoose (3 - kd) w (u3 (fo (fCh (cChoose (3 - kd)) kd w) (mi m) (nu (mi m))) 19 0 kd (-1)) := by
    rw [ek, cChoose_s, show 3 - (3 - kd) = kd by omega]
  rw [e1] at hK ⊢
  have hI := fo_inv (f := fCh (cChoose (3 - kd)) kd w) (s := mi m) (n := nu (mi m)) (fun _ a => DC (3 - kd + 1) (mi m) a) (fun _ _ _ _ _ _ => rfl) (fun i a _ ha => by
    have := DC_fCh (g := cChoose (3 - kd)) (k := 3 - kd) (w := w) (by omega) (cChoose_pres _ (by omega)) i a ha
    rw [show 3 - (3 - kd) = kd by omega] at this
    exact this)
  have hCI : ∀ a, DC (3 - kd + 1) (mi m) a → CI (wI m a) := fun a ha => CI_wI h1 (ha _ _ _ (by decide) (by decide) (by omega)) (ha _ _ _ (by decide) (by decide) (by omega)) (ha _ _ _ (by decide) (by decide) (by omega)) (ha _ _ _ (by decide) (by decide) (by omega))
  have hPE : ∀ a, DC (3 - kd + 1) (mi m) a → PE a kd := fun a ha i hi => by rw [ha 19 0 i (by decide) (by decide) (by omega)]; exact h3 i hi
  have hPu : ∀ a v, PE a kd → (v = -1 ∨ inb v 12) → PE (u3 a 19 0 kd v) (kd + 1) := by
    intro a v ha hv i hi
    rw [u3_ap]
    split
    · exact hv
    · exact ha i (by omega)
  have hCu : ∀ a v, DC (3 - kd + 1) (mi m) a → CI (wI m (u3 a 19 0 kd v)) := by
    intro a v ha
    have := hCI a ha
    exact CI_wI (m := wI m a) this rfl rfl rfl rfl
  have lp : (fun (i : Nat) (a : ab_C) => K 13 [some (vA 40 0), some (vI (nN kd)), some (vI w), some (vI (nN i)), none] [] (wI m a)) 0 (mi m) := by
    refine fo_loop (P := fun (i : Nat) (a : ab_C) => K 13 [some (vA 40 0), some (vI (nN kd)), some (vI w), some (vI (nN i)), none] [] (wI m a)) (f := fCh (cChoose (3 - kd)) kd w) (n := nu (mi m)) ?_ ?_
    · intro i a hi ha hk
      have hDa := hI i (by omega)
      rw [← ha] at hDa
      clear ha hI
      have hiB : i < 2147483648 := by omega
      have hi12 : i < 12 := by omega
      have e38 : a 38 0 0 = nN (nu (mi m)) := (hDa _ _ _ (by decide) (by decide) (by omega)).trans hun
      have hP := hPE a hDa
      have hs1 : ∀ t, SP_X3_countSameTheme [vA 40 0, vI t, vI (nN kd)] (wI m a) = okV (vI (cSame a t kd)) (wI m a) := by
        intro t
        have := e_X3_countSameTheme (m := wI m a) (t := t) (k := nN kd) hC (by rw [inb_nN hdB]; exact h2) (by rw [nN_nat hdB]; exact hP)
        rw [this, nN_nat hdB]; rfl
      have hs2 := hsp (u3 a 19 0 kd (nN i)) (w + a 20 0 i - 4 * cSame a (a 28 0 i) kd) (hCu a _ hDa) (hPu a _ hP (Or.inr (by rw [inb_nN hiB]; exact hi12)))
      simp only [fCh] at hk
      refine run_sound hK mt_X3_choose (T_X3_choose_13 SP_X3_keepIfBetter SP_X3_countSameTheme sp) (fun x hx => List.mem_append_right _ hx) _ _ _ _ ?_
      simp only [T_X3_choose_13, e38, nN_lt hiB huB, hi, inb_nN hiB, hi12, inb_nN hdB, h2, nN_nat hiB, nN_nat hdB, nN_succ, hs1, hs2, Bool.false_eq_true, ↓run_hit, ↓run_miss, ↓run_none, run_nil, ab_get0, ab_getS, if_true, if_false, if_pos, true_and, and_true, List.append_nil, List.nil_append, List.cons_append, List.length_cons, List.length_nil, List.take_succ_cons, List.take_zero, List.drop_succ_cons, List.drop_zero, List.reverse_cons, List.reverse_nil, List.map_nil, List.map_cons, List.sum_nil, List.sum_cons, rcv_some, rcv_999, wide_I, wide_L, wide_D, wide_R, wide_X, eq_self_iff_true, ite_true, ite_false, ↓reduceIte, Nat.reduceEqDiff, Nat.reduceLeDiff, Nat.reduceLT, Nat.reduceAdd, Nat.reduceMul, Nat.reduceBEq, decide_true, decide_false, and_self, or_self, or_true, true_or, false_or, or_false, and_false, false_and, not_false_eq_true, not_true_eq_false, Nat.zero_le, Nat.le_refl, Nat.add_eq_zero_iff, Nat.succ_ne_self, ↓s_const, ↓s_iload, ↓s_lload, ↓s_dload, ↓s_aload, ↓s_istore, ↓s_lstore, ↓s_dstore, ↓s_astore, ↓s_iinc, ↓s_bin, ↓s_div, ↓s_binL, ↓s_lcmp, ↓s_i2l, ↓s_i2d, ↓s_ddiv, ↓s_dcmpl, ↓s_goto, ↓s_ifeq, ↓s_iflt, ↓s_ifgt, ↓s_cmpeq, ↓s_cmplt, ↓s_cmpgt, ↓s_ifnull, ↓s_aeq, ↓s_pop, ↓s_dup, ↓s_dup2, ↓s_dupx1, ↓s_tab, ↓s_getI, ↓s_getR, ↓s_putI, ↓s_putZ, ↓s_putR, ↓s_ald, ↓s_ast, ↓s_zast, ↓s_lald, ↓s_last, ↓s_dald, ↓s_dast, ↓s_aald, ↓s_aast, ↓s_alen, ↓s_new, ↓s_newa, ↓s_multi, ↓s_cast, ↓s_getE, ↓s_obj, ↓s_mmin, ↓s_mmax, ↓s_hd, ↓s_call, ↓s_throw, ↓s_ret, ↓s_retL, ↓s_retD, ↓s_retA, ↓s_retV, mi_wI, mr_wI, mn_wI, mc_wI, sI_wI, u3_ap, mi_sI, mi_sR, mi_sL, mi_sD, mi_al, mi_bp, mr_sI, mr_sR, mr_sL, mr_sD, mr_al, mr_bp, ml_sI, ml_sR, ml_sL, ml_sD, ml_al, ml_bp, md_sI, md_sR, md_sL, md_sD, md_al, md_bp, mn_sI, mn_sR, mn_sL, mn_sD, mn_al, mn_bp, mc_sI, mc_sR, mc_sL, mc_sD, mc_al, mc_bp, mnc_sI, mnc_sR, mnc_sL, mnc_sD, mnc_al, mnc_bp, mns_sI, mns_sR, mns_sL, mns_sD, mns_al, mns_bp, SK_0, SK_1, SK_2, SK_3, SK_4, SK_5, SK_6, SK_7, SK_8, SK_9, SK_10, SK_11, SK_12, SK_13, SK_14, SK_15, SK_16, SK_17, SK_18, SK_19, SK_20, SK_21, SK_22, SK_23, SK_24, SK_25, SK_26, SK_27, SK_28, SK_29, SK_30, SK_31, SK_32, SK_33, SK_34, SK_35, SK_36, SK_37, SK_38, SK_39, SK_40, SK_41, SK_42, SK_43, SK_44, SK_45, SK_46, SK_47, SK_48, SK_49, SK_50, SK_51, SK_52, SK_53, SK_54, SK_55, SK_56, SK_57, SK_58, SK_59, SK_60, SK_61, SK_62, SK_63, SK_64, SK_65, st1_0, st1_1, st1_2, st1_3, st1_4, st1_5, st1_6, st1_7, st1_8, st2_0, st2_1, st2_2, st2_3, st2_4, st2_5, st2_6, st2_7, clr_I, clr_R, clr_X, clr_L, clr_D, clr_N, cr_14 hC, cr_16 hC, cr_33 hC, cn_15 hC, cn_17 hC, cn_34 hC, cr_61_0 hC, cr_61_1 hC, cr_61_2 hC, cr_61_3 hC, cr_61_4 hC, cr_61_5 hC, cr_35_1 hC, cr_35_2 hC, cr_35_3 hC, cr_35_4 hC, cr_35_5 hC, cr_35_6 hC, cr_35_7 hC, cr_35_8 hC, cr_35_9 hC, cr_35_10 hC, cr_35_11 hC, cr_36_1 hC, cr_36_2 hC, cr_37_1 hC, cr_37_2 hC, cr_37_3 hC, cr_37_4 hC, cr_38_1 hC, cr_38_2 hC, cr_38_3 hC, cr_38_4 hC, cr_38_5 hC, cr_38_6 hC, cr_38_7 hC, cr_38_8 hC, cr_39_0 hC, cr_39_1 hC, cr_40_0 hC, cr_40_1 hC, cr_40_2 hC, cr_40_3 hC, cr_40_4 hC, cr_40_5 hC, cn_2 hC, cn_3 hC, cn_4 hC, cn_14 hC, cn_16 hC, cn_18 hC, cn_19 hC, cn_20 hC, cn_21 hC, cn_33 hC, cn_5 hC, cn_6 hC, cn_7 hC, cn_8 hC, cn_9 hC, cn_10 hC, cn_11 hC, cn_12 hC, cn_13 hC, cn_22 hC, cn_23 hC, cn_24 hC, cn_25 hC, cn_26 hC, cn_27 hC, cn_28 hC, cn_29 hC, cn_30 hC, cn_31 hC, cn_32 hC]
      repeat' split
      all_goals simp_all only [if_true, if_false, reduceIte]
      refine hK.2 13 _ _ _ _ ?_ hk
      repeat (first | exact le_nil | apply le_c | apply le_n)
    · have hDa := hI (nu (mi m)) (Nat.le_refl _)
      have e38 := (hDa 38 0 0 (by decide) (by decide) (by omega)).trans hun
      have hs2 := hsp (u3 (fo (fCh (cChoose (3 - kd)) kd w) (mi m) (nu (mi m))) 19 0 kd (-1)) w (hCu _ _ hDa) (hPu _ _ (hPE _ hDa) (Or.inl rfl))
      refine run_sound hK mt_X3_choose (T_X3_choose_13 SP_X3_keepIfBetter SP_X3_countSameTheme sp) (fun x hx => List.mem_append_right _ hx) _ _ _ _ ?_
      simp only [T_X3_choose_13, e38, nN_lt huB huB, Nat.lt_irrefl, inb_nN hdB, h2, nN_nat hdB, nN_succ, hs2, Bool.false_eq_true, ↓run_hit, ↓run_miss, ↓run_none, run_nil, ab_get0, ab_getS, if_true, if_false, if_pos, true_and, and_true, List.append_nil, List.nil_append, List.cons_append, List.length_cons, List.length_nil, List.take_succ_cons, List.take_zero, List.drop_succ_cons, List.drop_zero, List.reverse_cons, List.reverse_nil, List.map_nil, List.map_cons, List.sum_nil, List.sum_cons, rcv_some, rcv_999, wide_I, wide_L, wide_D, wide_R, wide_X, eq_self_iff_true, ite_true, ite_false, ↓reduceIte, Nat.reduceEqDiff, Nat.reduceLeDiff, Nat.reduceLT, Nat.reduceAdd, Nat.reduceMul, Nat.reduceBEq, decide_true, decide_false, and_self, or_self, or_true, true_or, false_or, or_false, and_false, false_and, not_false_eq_true, not_true_eq_false, Nat.zero_le, Nat.le_refl, Nat.add_eq_zero_iff, Nat.succ_ne_self, ↓s_const, ↓s_iload, ↓s_lload, ↓s_dload, ↓s_aload, ↓s_istore, ↓s_lstore, ↓s_dstore, ↓s_astore, ↓s_iinc, ↓s_bin, ↓s_div, ↓s_binL, ↓s_lcmp, ↓s_i2l, ↓s_i2d, ↓s_ddiv, ↓s_dcmpl, ↓s_goto, ↓s_ifeq, ↓s_iflt, ↓s_ifgt, ↓s_cmpeq, ↓s_cmplt, ↓s_cmpgt, ↓s_ifnull, ↓s_aeq, ↓s_pop, ↓s_dup, ↓s_dup2, ↓s_dupx1, ↓s_tab, ↓s_getI, ↓s_getR, ↓s_putI, ↓s_putZ, ↓s_putR, ↓s_ald, ↓s_ast, ↓s_zast, ↓s_lald, ↓s_last, ↓s_dald, ↓s_dast, ↓s_aald, ↓s_aast, ↓s_alen, ↓s_new, ↓s_newa, ↓s_multi, ↓s_cast, ↓s_getE, ↓s_obj, ↓s_mmin, ↓s_mmax, ↓s_hd, ↓s_call, ↓s_throw, ↓s_ret, ↓s_retL, ↓s_retD, ↓s_retA, ↓s_retV, mi_wI, mr_wI, mn_wI, mc_wI, sI_wI, u3_ap, mi_sI, mi_sR, mi_sL, mi_sD, mi_al, mi_bp, mr_sI, mr_sR, mr_sL, mr_sD, mr_al, mr_bp, ml_sI, ml_sR, ml_sL, ml_sD, ml_al, ml_bp, md_sI, md_sR, md_sL, md_sD, md_al, md_bp, mn_sI, mn_sR, mn_sL, mn_sD, mn_al, mn_bp, mc_sI, mc_sR, mc_sL, mc_sD, mc_al, mc_bp, mnc_sI, mnc_sR, mnc_sL, mnc_sD, mnc_al, mnc_bp, mns_sI, mns_sR, mns_sL, mns_sD, mns_al, mns_bp, SK_0, SK_1, SK_2, SK_3, SK_4, SK_5, SK_6, SK_7, SK_8, SK_9, SK_10, SK_11, SK_12, SK_13, SK_14, SK_15, SK_16, SK_17, SK_18, SK_19, SK_20, SK_21, SK_22, SK_23, SK_24, SK_25, SK_26, SK_27, SK_28, SK_29, SK_30, SK_31, SK_32, SK_33, SK_34, SK_35, SK_36, SK_37, SK_38, SK_39, SK_40, SK_41, SK_42, SK_43, SK_44, SK_45, SK_46, SK_47, SK_48, SK_49, SK_50, SK_51, SK_52, SK_53, SK_54, SK_55, SK_56, SK_57, SK_58, SK_59, SK_60, SK_61, SK_62, SK_63, SK_64, SK_65, st1_0, st1_1, st1_2, st1_3, st1_4, st1_5, st1_6, st1_7, st1_8, st2_0, st2_1, st2_2, st2_3, st2_4, st2_5, st2_6, st2_7, clr_I, clr_R, clr_X, clr_L, clr_D, clr_N, cr_14 hC, cr_16 hC, cr_33 hC, cn_15 hC, cn_17 hC, cn_34 hC, cr_61_0 hC, cr_61_1 hC, cr_61_2 hC, cr_61_3 hC, cr_61_4 hC, cr_61_5 hC, cr_35_1 hC, cr_35_2 hC, cr_35_3 hC, cr_35_4 hC, cr_35_5 hC, cr_35_6 hC, cr_35_7 hC, cr_35_8 hC, cr_35_9 hC, cr_35_10 hC, cr_35_11 hC, cr_36_1 hC, cr_36_2 hC, cr_37_1 hC, cr_37_2 hC, cr_37_3 hC, cr_37_4 hC, cr_38_1 hC, cr_38_2 hC, cr_38_3 hC, cr_38_4 hC, cr_38_5 hC, cr_38_6 hC, cr_38_7 hC, cr_38_8 hC, cr_39_0 hC, cr_39_1 hC, cr_40_0 hC, cr_40_1 hC, cr_40_2 hC, cr_40_3 hC, cr_40_4 hC, cr_40_5 hC, cn_2 hC, cn_3 hC, cn_4 hC, cn_14 hC, cn_16 hC, cn_18 hC, cn_19 hC, cn_20 hC, cn_21 hC, cn_33 hC, cn_5 hC, cn_6 hC, cn_7 hC, cn_8 hC, cn_9 hC, cn_10 hC, cn_11 hC, cn_12 hC, cn_13 hC, cn_22 hC, cn_23 hC, cn_24 hC, cn_25 hC, cn_26 hC, cn_27 hC, cn_28 hC, cn_29 hC, cn_30 hC, cn_31 hC, cn_32 hC]
  simp only [T_X3_choose, nN_lt4 hdB, h2, Bool.false_eq_true, ↓run_hit, ↓run_miss, ↓run_none, run_nil, ab_get0, ab_getS, if_true, if_false, if_pos, true_and, and_true, List.append_nil, List.nil_append, List.cons_append, List.length_cons, List.length_nil, List.take_succ_cons, List.take_zero, List.drop_succ_cons, List.drop_zero, List.reverse_cons, List.reverse_nil, List.map_nil, List.map_cons, List.sum_nil, List.sum_cons, rcv_some, rcv_999, wide_I, wide_L, wide_D, wide_R, wide_X, eq_self_iff_true, ite_true, ite_false, ↓reduceIte, Nat.reduceEqDiff, Nat.reduceLeDiff, Nat.reduceLT, Nat.reduceAdd, Nat.reduceMul, Nat.reduceBEq, decide_true, decide_false, and_self, or_self, or_true, true_or, false_or, or_false, and_false, false_and, not_false_eq_true, not_true_eq_false, Nat.zero_le, Nat.le_refl, Nat.add_eq_zero_iff, Nat.succ_ne_self, ↓s_const, ↓s_iload, ↓s_lload, ↓s_dload, ↓s_aload, ↓s_istore, ↓s_lstore, ↓s_dstore, ↓s_astore, ↓s_iinc, ↓s_bin, ↓s_div, ↓s_binL, ↓s_lcmp, ↓s_i2l, ↓s_i2d, ↓s_ddiv, ↓s_dcmpl, ↓s_goto, ↓s_ifeq, ↓s_iflt, ↓s_ifgt, ↓s_cmpeq, ↓s_cmplt, ↓s_cmpgt, ↓s_ifnull, ↓s_aeq, ↓s_pop, ↓s_dup, ↓s_dup2, ↓s_dupx1, ↓s_tab, ↓s_getI, ↓s_getR, ↓s_putI, ↓s_putZ, ↓s_putR, ↓s_ald, ↓s_ast, ↓s_zast, ↓s_lald, ↓s_last, ↓s_dald, ↓s_dast, ↓s_aald, ↓s_aast, ↓s_alen, ↓s_new, ↓s_newa, ↓s_multi, ↓s_cast, ↓s_getE, ↓s_obj, ↓s_mmin, ↓s_mmax, ↓s_hd, ↓s_call, ↓s_throw, ↓s_ret, ↓s_retL, ↓s_retD, ↓s_retA, ↓s_retV, mi_wI, mr_wI, mn_wI, mc_wI, sI_wI, u3_ap, mi_sI, mi_sR, mi_sL, mi_sD, mi_al, mi_bp, mr_sI, mr_sR, mr_sL, mr_sD, mr_al, mr_bp, ml_sI, ml_sR, ml_sL, ml_sD, ml_al, ml_bp, md_sI, md_sR, md_sL, md_sD, md_al, md_bp, mn_sI, mn_sR, mn_sL, mn_sD, mn_al, mn_bp, mc_sI, mc_sR, mc_sL, mc_sD, mc_al, mc_bp, mnc_sI, mnc_sR, mnc_sL, mnc_sD, mnc_al, mnc_bp, mns_sI, mns_sR, mns_sL, mns_sD, mns_al, mns_bp, SK_0, SK_1, SK_2, SK_3, SK_4, SK_5, SK_6, SK_7, SK_8, SK_9, SK_10, SK_11, SK_12, SK_13, SK_14, SK_15, SK_16, SK_17, SK_18, SK_19, SK_20, SK_21, SK_22, SK_23, SK_24, SK_25, SK_26, SK_27, SK_28, SK_29, SK_30, SK_31, SK_32, SK_33, SK_34, SK_35, SK_36, SK_37, SK_38, SK_39, SK_40, SK_41, SK_42, SK_43, SK_44, SK_45, SK_46, SK_47, SK_48, SK_49, SK_50, SK_51, SK_52, SK_53, SK_54, SK_55, SK_56, SK_57, SK_58, SK_59, SK_60, SK_61, SK_62, SK_63, SK_64, SK_65, st1_0, st1_1, st1_2, st1_3, st1_4, st1_5, st1_6, st1_7, st1_8, st2_0, st2_1, st2_2, st2_3, st2_4, st2_5, st2_6, st2_7, clr_I, clr_R, clr_X, clr_L, clr_D, clr_N, cr_14 hC, cr_16 hC, cr_33 hC, cn_15 hC, cn_17 hC, cn_34 hC, cr_61_0 hC, cr_61_1 hC, cr_61_2 hC, cr_61_3 hC, cr_61_4 hC, cr_61_5 hC, cr_35_1 hC, cr_35_2 hC, cr_35_3 hC, cr_35_4 hC, cr_35_5 hC, cr_35_6 hC, cr_35_7 hC, cr_35_8 hC, cr_35_9 hC, cr_35_10 hC, cr_35_11 hC, cr_36_1 hC, cr_36_2 hC, cr_37_1 hC, cr_37_2 hC, cr_37_3 hC, cr_37_4 hC, cr_38_1 hC, cr_38_2 hC, cr_38_3 hC, cr_38_4 hC, cr_38_5 hC, cr_38_6 hC, cr_38_7 hC, cr_38_8 hC, cr_39_0 hC, cr_39_1 hC, cr_40_0 hC, cr_40_1 hC, cr_40_2 hC, cr_40_3 hC, cr_40_4 hC, cr_40_5 hC, cn_2 hC, cn_3 hC, cn_4 hC, cn_14 hC, cn_16 hC, cn_18 hC, cn_19 hC, cn_20 hC, cn_21 hC, cn_33 hC, cn_5 hC, cn_6 hC, cn_7 hC, cn_8 hC, cn_9 hC, cn_10 hC, cn_11 hC, cn_12 hC, cn_13 hC, cn_22 hC, cn_23 hC, cn_24 hC, cn_25 hC, cn_26 hC, cn_27 hC, cn_28 hC, cn_29 hC, cn_30 hC, cn_31 hC, cn_32 hC]
  exact lp
theorem C_X3_choose {l : Launch} {D : va_G} {cA : Nat → ClassId} (hst : l.stackTraces = false) : ∀ (k d : Nat), k + 3 ≤ d → ∀ (as : List ab_V) (m : ab_M), Ctr l D cA d yX3_choose (Cond.code yX3_choose cX3_choose 5 none :: TB) as m (SP_X3_choose k as m) := by
  intro k
  induction k with
  | zero =>
    intro d hd as m
    refine ctr_of2 (by decide +kernel) hst (by omega) (snd_X3_choose (sp_X3_choose := fun _ _ => none) (d' := 2) (hd9 := by omega) (hC_X3_keepIfBetter := C_X3_keepIfBetter hst (by omega)) (hC_X3_countSameTheme := C_X3_countSameTheme hst (by omega)) (hC_X3_choose := fun _ _ _ h => by cases h)) mt_X3_choose ?_
    intro r hr
    unfold SP_X3_choose at hr
    split at hr
    · obtain ⟨hp, hr'⟩ := gd_some hr
      obtain ⟨rfl, h1, h2, h3, h4⟩ := hp
      rename_i kd w
      have e4 : kd.toNatClampNeg = 4 := by have := (inb_eq h2).2; omega
      have ed : kd = 4 := by rw [(inb_eq h2).1, e4]; rfl
      rw [e4] at hr'
      cases hr'
      exact ⟨by show 3 ≤ 5; decide, ⟨Nat.le_refl _, Nat.le_refl _⟩, q0_X3_choose h1 ed⟩
    · cases hr
  | succ k ih =>
    intro d hd as m
    refine ctr_of2 (by decide +kernel) hst (by omega) (snd_X3_choose (sp_X3_choose := SP_X3_choose k) (d' := k + 3) (hd9 := by omega) (hC_X3_keepIfBetter := C_X3_keepIfBetter hst (by omega)) (hC_X3_countSameTheme := C_X3_countSameTheme hst (by omega)) (hC_X3_choose := ih (k + 3) (Nat.le_refl _))) mt_X3_choose ?_
    intro r hr
    unfold SP_X3_choose at hr
    split at hr
    · obtain ⟨hp, hr'⟩ := gd_some hr
      obtain ⟨rfl, h1, h2, h3, h4⟩ := hp
      rename_i kd w
      by_cases e4 : kd.toNatClampNeg = 4
      · have ed : kd = 4 := by rw [(inb_eq h2).1, e4]; rfl
        rw [e4] at hr'
        cases hr'
        exact ⟨by show 3 ≤ 5; decide, ⟨Nat.le_refl _, Nat.le_refl _⟩, q0_X3_choose h1 ed⟩
      · cases hr'
        have hk5 := (inb_eq h2).2
        refine ⟨by show 3 ≤ 5; decide, ⟨Nat.le_refl _, Nat.le_refl _⟩, ?_⟩
        have q := q_X3_choose (sp := SP_X3_choose k) (m := m) (kd := kd.toNatClampNeg) (w := w) h1 (by omega) h3 (by
          intro c w hc hp
          have := e_X3_choose (k := k) (m := wI m c) (kd := nN (kd.toNatClampNeg + 1)) (w := w) hc (by rw [inb_nN (by omega)]; omega) (by rw [nN_nat (by omega)]; exact hp) (by rw [nN_nat (by omega)]; omega)
          rw [this, nN_nat (by omega), show 4 - (kd.toNatClampNeg + 1) = 3 - kd.toNatClampNeg by omega]; rfl)
        rw [← (inb_eq h2).1] at q
        exact q
    · cases hr
def fVal (h g d s : Int32) : Nat → ab_C → ab_C := fun i a => u3 (u3 a 20 0 i (a 29 0 i - 3 * bc (cSeenBy a (nN i) d &&& g))) 21 0 i (bI (cCan (u3 a 20 0 i (a 29 0 i - 3 * bc (cSeenBy a (nN i) d &&& g))) (nN i) h s))
def cBest0 (c : ab_C) (h g d s : Int32) : ab_C := u3 (fo (fVal h g d s) c (nu c)) 40 0 6 (-1000000)
def cBest (c : ab_C) (h g d s : Int32) : ab_C := cChoose 4 (-6 * cQuarrels (cBest0 c h g d s) (g ||| sB h)) (cBest0 c h g d s)
theorem cBest0_at {c : ab_C} {h g d s : Int32} {x y z : Nat} (h1 : x ≠ 20) (h2 : x ≠ 21) (h3 : x ≠ 40) : cBest0 c h g d s x y z = c x y z := by
  unfold cBest0
  rw [u3_ap, if_neg (fun e => h3 e.1)]
  exact fo_cell (fun i a => by unfold fVal; rw [u3_ap, if_neg (fun e => h2 e.1), u3_ap, if_neg (fun e => h1 e.1)]) _
noncomputable def SP_X3_findBest : List ab_V → ab_M → ab_O := fun as m => match as with
  | [this, .inl h, .inl g, .inl d, .inl s] => gd (this = vA 40 0 ∧ (CI m)) (okV (vI (cBest (mi m) h g d s 40 0 6)) (wI m (cBest (mi m) h g d s)))
  | _ => none
theorem e_X3_findBest {m : ab_M} {h : Int32} {g : Int32} {d : Int32} {s : Int32} (h1 : CI m) : SP_X3_findBest [vA 40 0, vI h, vI g, vI d, vI s] m = okV (vI (cBest (mi m) h g d s 40 0 6)) (wI m (cBest (mi m) h g d s)) := gd_pos ⟨rfl, h1⟩
theorem q_X3_findBest {m : ab_M} {h : Int32} {g : Int32} {d : Int32} {s : Int32} (h1 : CI m) : ∀ r : ab_R, okV (vI (cBest (mi m) h g d s 40 0 6)) (wI m (cBest (mi m) h g d s)) = some r → (mnc m ≤ mnc (resM r) ∧ mns m ≤ mns (resM r)) ∧ ∀ K : ab_K, Closed (T_X3_findBest SP_X5_seenBy SP_J6_bitCount_0f7a4 SP_X3_canBeChosen SP_X2_countQuarrels (SP_X3_choose 4)) (fun r' => r' = r) K → run K (fun r' => r' = r) (T_X3_findBest SP_X5_seenBy SP_J6_bitCount_0f7a4 SP_X3_canBeChosen SP_X2_countQuarrels (SP_X3_choose 4)) 0 [some (vA 40 0), some (vI h), some (vI g), some (vI d), some (vI s), none, none] [] m := by
  intro r hr; cases hr
  refine ⟨⟨Nat.le_refl _, Nat.le_refl _⟩, fun K hK => ?_⟩
  have hC := h1.1
  have hn := h1.2.1.1
  have h12 := h1.2.1.2
  have hnB : np (mi m) < 2147483648 := by omega
  have hhn := h1.2.2.1.1
  have hh4 := h1.2.2.1.2
  have hhB : nh (mi m) < 2147483648 := by omega
  have hsn := h1.2.2.2.1.1
  have hs8 := h1.2.2.2.1.2
  have hsB : nsc (mi m) < 2147483648 := by omega
  have hun := h1.2.2.2.2.1
  have hu12 := h1.2.2.2.2.2
  have huB : nu (mi m) < 2147483648 := by omega
  have hI : ∀ k, fo (fVal h g d s) (mi m) k 38 0 0 = nN (nu (mi m)) := fun k => (fo_cell (f := fVal h g d s) (fun i a => rfl) k).trans hun
  have lp : (fun (i : Nat) (a : ab_C) => K 3 [some (vA 40 0), some (vI h), some (vI g), some (vI d), some (vI s), some (vI (nN i)), none] [] (wI m a)) 0 (mi m) := by
    refine fo_loop (P := fun (i : Nat) (a : ab_C) => K 3 [some (vA 40 0), some (vI h), some (vI g), some (vI d), some (vI s), some (vI (nN i)), none] [] (wI m a)) (f := fVal h g d s) (n := nu (mi m)) ?_ ?_
    · intro i a hi ha hk
      have hka := hI i
      rw [← ha] at hka
      clear ha hI
      have hiB : i < 2147483648 := by omega
      have hi12 : i < 12 := by omega
      have hin : inb (nN i) 12 := by rw [inb_nN hiB]; exact hi12
      have hs1 := e_X5_seenBy (m := wI m a) (u := nN i) (d := d) hC hin
      have hs2 := e_X3_canBeChosen (m := wI m (u3 a 20 0 i (a 29 0 i - 3 * bc (cSeenBy a (nN i) d &&& g)))) (u := nN i) (h := h) (s := s) hC hin
      rw [mi_wI] at hs1 hs2
      refine run_sound hK mt_X3_findBest (T_X3_findBest_3 SP_X5_seenBy SP_J6_bitCount_0f7a4 SP_X3_canBeChosen SP_X2_countQuarrels (SP_X3_choose 4)) (fun x hx => List.mem_append_right _ hx) _ _ _ _ ?_
      simp only [T_X3_findBest_3, hka, nN_lt hiB huB, hi, inb_nN hiB, hi12, nN_nat hiB, nN_succ, hs1, e_J6_bitCount_0f7a4 trivial, hs2, bI01, Bool.false_eq_true, ↓run_hit, ↓run_miss, ↓run_none, run_nil, ab_get0, ab_getS, if_true, if_false, if_pos, true_and, and_true, List.append_nil, List.nil_append, List.cons_append, List.length_cons, List.length_nil, List.take_succ_cons, List.take_zero, List.drop_succ_cons, List.drop_zero, List.reverse_cons, List.reverse_nil, List.map_nil, List.map_cons, List.sum_nil, List.sum_cons, rcv_some, rcv_999, wide_I, wide_L, wide_D, wide_R, wide_X, eq_self_iff_true, ite_true, ite_false, ↓reduceIte, Nat.reduceEqDiff, Nat.reduceLeDiff, Nat.reduceLT, Nat.reduceAdd, Nat.reduceMul, Nat.reduceBEq, decide_true, decide_false, and_self, or_self, or_true, true_or, false_or, or_false, and_false, false_and, not_false_eq_true, not_true_eq_false, Nat.zero_le, Nat.le_refl, Nat.add_eq_zero_iff, Nat.succ_ne_self, ↓s_const, ↓s_iload, ↓s_lload, ↓s_dload, ↓s_aload, ↓s_istore, ↓s_lstore, ↓s_dstore, ↓s_astore, ↓s_iinc, ↓s_bin, ↓s_div, ↓s_binL, ↓s_lcmp, ↓s_i2l, ↓s_i2d, ↓s_ddiv, ↓s_dcmpl, ↓s_goto, ↓s_ifeq, ↓s_iflt, ↓s_ifgt, ↓s_cmpeq, ↓s_cmplt, ↓s_cmpgt, ↓s_ifnull, ↓s_aeq, ↓s_pop, ↓s_dup, ↓s_dup2, ↓s_dupx1, ↓s_tab, ↓s_getI, ↓s_getR, ↓s_putI, ↓s_putZ, ↓s_putR, ↓s_ald, ↓s_ast, ↓s_zast, ↓s_lald, ↓s_last, ↓s_dald, ↓s_dast, ↓s_aald, ↓s_aast, ↓s_alen, ↓s_new, ↓s_newa, ↓s_multi, ↓s_cast, ↓s_getE, ↓s_obj, ↓s_mmin, ↓s_mmax, ↓s_hd, ↓s_call, ↓s_throw, ↓s_ret, ↓s_retL, ↓s_retD, ↓s_retA, ↓s_retV, mi_wI, mr_wI, mn_wI, mc_wI, sI_wI, u3_ap, mi_sI, mi_sR, mi_sL, mi_sD, mi_al, mi_bp, mr_sI, mr_sR, mr_sL, mr_sD, mr_al, mr_bp, ml_sI, ml_sR, ml_sL, ml_sD, ml_al, ml_bp, md_sI, md_sR, md_sL, md_sD, md_al, md_bp, mn_sI, mn_sR, mn_sL, mn_sD, mn_al, mn_bp, mc_sI, mc_sR, mc_sL, mc_sD, mc_al, mc_bp, mnc_sI, mnc_sR, mnc_sL, mnc_sD, mnc_al, mnc_bp, mns_sI, mns_sR, mns_sL, mns_sD, mns_al, mns_bp, SK_0, SK_1, SK_2, SK_3, SK_4, SK_5, SK_6, SK_7, SK_8, SK_9, SK_10, SK_11, SK_12, SK_13, SK_14, SK_15, SK_16, SK_17, SK_18, SK_19, SK_20, SK_21, SK_22, SK_23, SK_24, SK_25, SK_26, SK_27, SK_28, SK_29, SK_30, SK_31, SK_32, SK_33, SK_34, SK_35, SK_36, SK_37, SK_38, SK_39, SK_40, SK_41, SK_42, SK_43, SK_44, SK_45, SK_46, SK_47, SK_48, SK_49, SK_50, SK_51, SK_52, SK_53, SK_54, SK_55, SK_56, SK_57, SK_58, SK_59, SK_60, SK_61, SK_62, SK_63, SK_64, SK_65, st1_0, st1_1, st1_2, st1_3, st1_4, st1_5, st1_6, st1_7, st1_8, st2_0, st2_1, st2_2, st2_3, st2_4, st2_5, st2_6, st2_7, clr_I, clr_R, clr_X, clr_L, clr_D, clr_N, cr_14 hC, cr_16 hC, cr_33 hC, cn_15 hC, cn_17 hC, cn_34 hC, cr_61_0 hC, cr_61_1 hC, cr_61_2 hC, cr_61_3 hC, cr_61_4 hC, cr_61_5 hC, cr_35_1 hC, cr_35_2 hC, cr_35_3 hC, cr_35_4 hC, cr_35_5 hC, cr_35_6 hC, cr_35_7 hC, cr_35_8 hC, cr_35_9 hC, cr_35_10 hC, cr_35_11 hC, cr_36_1 hC, cr_36_2 hC, cr_37_1 hC, cr_37_2 hC, cr_37_3 hC, cr_37_4 hC, cr_38_1 hC, cr_38_2 hC, cr_38_3 hC, cr_38_4 hC, cr_38_5 hC, cr_38_6 hC, cr_38_7 hC, cr_38_8 hC, cr_39_0 hC, cr_39_1 hC, cr_40_0 hC, cr_40_1 hC, cr_40_2 hC, cr_40_3 hC, cr_40_4 hC, cr_40_5 hC, cn_2 hC, cn_3 hC, cn_4 hC, cn_14 hC, cn_16 hC, cn_18 hC, cn_19 hC, cn_20 hC, cn_21 hC, cn_33 hC, cn_5 hC, cn_6 hC, cn_7 hC, cn_8 hC, cn_9 hC, cn_10 hC, cn_11 hC, cn_12 hC, cn_13 hC, cn_22 hC, cn_23 hC, cn_24 hC, cn_25 hC, cn_26 hC, cn_27 hC, cn_28 hC, cn_29 hC, cn_30 hC, cn_31 hC, cn_32 hC]
      refine hK.2 3 _ _ _ _ ?_ hk
      repeat (first | exact le_nil | apply le_c | apply le_n)
    · have hka := hI (nu (mi m))
      have hCI0 : CI (wI m (cBest0 (mi m) h g d s)) := CI_wI h1 (cBest0_at (by decide) (by decide) (by decide)) (cBest0_at (by decide) (by decide) (by decide)) (cBest0_at (by decide) (by decide) (by decide)) (cBest0_at (by decide) (by decide) (by decide))
      have hs1 := e_X2_countQuarrels (m := wI m (cBest0 (mi m) h g d s)) (s := g ||| sB h) hCI0
      have hs2 := e_X3_choose (k := 4) (m := wI m (cBest0 (mi m) h g d s)) (kd := 0) (w := -6 * cQuarrels (cBest0 (mi m) h g d s) (g ||| sB h)) hCI0 (by unfold inb; decide) (fun i hi => absurd hi (Nat.not_lt_zero i)) (by decide)
      rw [mi_wI] at hs1 hs2
      simp only [sB] at hs1 hs2
      have e0 : u3 (fo (fVal h g d s) (mi m) (nu (mi m))) 40 0 6 (-1000000) = cBest0 (mi m) h g d s := rfl
      refine run_sound hK mt_X3_findBest (T_X3_findBest_3 SP_X5_seenBy SP_J6_bitCount_0f7a4 SP_X3_canBeChosen SP_X2_countQuarrels (SP_X3_choose 4)) (fun x hx => List.mem_append_right _ hx) _ _ _ _ ?_
      simp only [T_X3_findBest_3, hka, nN_lt huB huB, Nat.lt_irrefl, e0, hs1, hs2, Bool.false_eq_true, ↓run_hit, ↓run_miss, ↓run_none, run_nil, ab_get0, ab_getS, if_true, if_false, if_pos, true_and, and_true, List.append_nil, List.nil_append, List.cons_append, List.length_cons, List.length_nil, List.take_succ_cons, List.take_zero, List.drop_succ_cons, List.drop_zero, List.reverse_cons, List.reverse_nil, List.map_nil, List.map_cons, List.sum_nil, List.sum_cons, rcv_some, rcv_999, wide_I, wide_L, wide_D, wide_R, wide_X, eq_self_iff_true, ite_true, ite_false, ↓reduceIte, Nat.reduceEqDiff, Nat.reduceLeDiff, Nat.reduceLT, Nat.reduceAdd, Nat.reduceMul, Nat.reduceBEq, decide_true, decide_false, and_self, or_self, or_true, true_or, false_or, or_false, and_false, false_and, not_false_eq_true, not_true_eq_false, Nat.zero_le, Nat.le_refl, Nat.add_eq_zero_iff, Nat.succ_ne_self, ↓s_const, ↓s_iload, ↓s_lload, ↓s_dload, ↓s_aload, ↓s_istore, ↓s_lstore, ↓s_dstore, ↓s_astore, ↓s_iinc, ↓s_bin, ↓s_div, ↓s_binL, ↓s_lcmp, ↓s_i2l, ↓s_i2d, ↓s_ddiv, ↓s_dcmpl, ↓s_goto, ↓s_ifeq, ↓s_iflt, ↓s_ifgt, ↓s_cmpeq, ↓s_cmplt, ↓s_cmpgt, ↓s_ifnull, ↓s_aeq, ↓s_pop, ↓s_dup, ↓s_dup2, ↓s_dupx1, ↓s_tab, ↓s_getI, ↓s_getR, ↓s_putI, ↓s_putZ, ↓s_putR, ↓s_ald, ↓s_ast, ↓s_zast, ↓s_lald, ↓s_last, ↓s_dald, ↓s_dast, ↓s_aald, ↓s_aast, ↓s_alen, ↓s_new, ↓s_newa, ↓s_multi, ↓s_cast, ↓s_getE, ↓s_obj, ↓s_mmin, ↓s_mmax, ↓s_hd, ↓s_call, ↓s_throw, ↓s_ret, ↓s_retL, ↓s_retD, ↓s_retA, ↓s_retV, mi_wI, mr_wI, mn_wI, mc_wI, sI_wI, u3_ap, mi_sI, mi_sR, mi_sL, mi_sD, mi_al, mi_bp, mr_sI, mr_sR, mr_sL, mr_sD, mr_al, mr_bp, ml_sI, ml_sR, ml_sL, ml_sD, ml_al, ml_bp, md_sI, md_sR, md_sL, md_sD, md_al, md_bp, mn_sI, mn_sR, mn_sL, mn_sD, mn_al, mn_bp, mc_sI, mc_sR, mc_sL, mc_sD, mc_al, mc_bp, mnc_sI, mnc_sR, mnc_sL, mnc_sD, mnc_al, mnc_bp, mns_sI, mns_sR, mns_sL, mns_sD, mns_al, mns_bp, SK_0, SK_1, SK_2, SK_3, SK_4, SK_5, SK_6, SK_7, SK_8, SK_9, SK_10, SK_11, SK_12, SK_13, SK_14, SK_15, SK_16, SK_17, SK_18, SK_19, SK_20, SK_21, SK_22, SK_23, SK_24, SK_25, SK_26, SK_27, SK_28, SK_29, SK_30, SK_31, SK_32, SK_33, SK_34, SK_35, SK_36, SK_37, SK_38, SK_39, SK_40, SK_41, SK_42, SK_43, SK_44, SK_45, SK_46, SK_47, SK_48, SK_49, SK_50, SK_51, SK_52, SK_53, SK_54, SK_55, SK_56, SK_57, SK_58, SK_59, SK_60, SK_61, SK_62, SK_63, SK_64, SK_65, st1_0, st1_1, st1_2, st1_3, st1_4, st1_5, st1_6, st1_7, st1_8, st2_0, st2_1, st2_2, st2_3, st2_4, st2_5, st2_6, st2_7, clr_I, clr_R, clr_X, clr_L, clr_D, clr_N, cr_14 hC, cr_16 hC, cr_33 hC, cn_15 hC, cn_17 hC, cn_34 hC, cr_61_0 hC, cr_61_1 hC, cr_61_2 hC, cr_61_3 hC, cr_61_4 hC, cr_61_5 hC, cr_35_1 hC, cr_35_2 hC, cr_35_3 hC, cr_35_4 hC, cr_35_5 hC, cr_35_6 hC, cr_35_7 hC, cr_35_8 hC, cr_35_9 hC, cr_35_10 hC, cr_35_11 hC, cr_36_1 hC, cr_36_2 hC, cr_37_1 hC, cr_37_2 hC, cr_37_3 hC, cr_37_4 hC, cr_38_1 hC, cr_38_2 hC, cr_38_3 hC, cr_38_4 hC, cr_38_5 hC, cr_38_6 hC, cr_38_7 hC, cr_38_8 hC, cr_39_0 hC, cr_39_1 hC, cr_40_0 hC, cr_40_1 hC, cr_40_2 hC, cr_40_3 hC, cr_40_4 hC, cr_40_5 hC, cn_2 hC, cn_3 hC, cn_4 hC, cn_14 hC, cn_16 hC, cn_18 hC, cn_19 hC, cn_20 hC, cn_21 hC, cn_33 hC, cn_5 hC, cn_6 hC, cn_7 hC, cn_8 hC, cn_9 hC, cn_10 hC, cn_11 hC, cn_12 hC, cn_13 hC, cn_22 hC, cn_23 hC, cn_24 hC, cn_25 hC, cn_26 hC, cn_27 hC, cn_28 hC, cn_29 hC, cn_30 hC, cn_31 hC, cn_32 hC]
      rfl
  simp only [T_X3_findBest, Bool.false_eq_true, ↓run_hit, ↓run_miss, ↓run_none, run_nil, ab_get0, ab_getS, if_true, if_false, if_pos, true_and, and_true, List.append_nil, List.nil_append, List.cons_append, List.length_cons, List.length_nil, List.take_succ_cons, List.take_zero, List.drop_succ_cons, List.drop_zero, List.reverse_cons, List.reverse_nil, List.map_nil, List.map_cons, List.sum_nil, List.sum_cons, rcv_some, rcv_999, wide_I, wide_L, wide_D, wide_R, wide_X, eq_self_iff_true, ite_true, ite_false, ↓reduceIte, Nat.reduceEqDiff, Nat.reduceLeDiff, Nat.reduceLT, Nat.reduceAdd, Nat.reduceMul, Nat.reduceBEq, decide_true, decide_false, and_self, or_self, or_true, true_or, false_or, or_false, and_false, false_and, not_false_eq_true, not_true_eq_false, Nat.zero_le, Nat.le_refl, Nat.add_eq_zero_iff, Nat.succ_ne_self, ↓s_const, ↓s_iload, ↓s_lload, ↓s_dload, ↓s_aload, ↓s_istore, ↓s_lstore, ↓s_dstore, ↓s_astore, ↓s_iinc, ↓s_bin, ↓s_div, ↓s_binL, ↓s_lcmp, ↓s_i2l, ↓s_i2d, ↓s_ddiv, ↓s_dcmpl, ↓s_goto, ↓s_ifeq, ↓s_iflt, ↓s_ifgt, ↓s_cmpeq, ↓s_cmplt, ↓s_cmpgt, ↓s_ifnull, ↓s_aeq, ↓s_pop, ↓s_dup, ↓s_dup2, ↓s_dupx1, ↓s_tab, ↓s_getI, ↓s_getR, ↓s_putI, ↓s_putZ, ↓s_putR, ↓s_ald, ↓s_ast, ↓s_zast, ↓s_lald, ↓s_last, ↓s_dald, ↓s_dast, ↓s_aald, ↓s_aast, ↓s_alen, ↓s_new, ↓s_newa, ↓s_multi, ↓s_cast, ↓s_getE, ↓s_obj, ↓s_mmin, ↓s_mmax, ↓s_hd, ↓s_call, ↓s_throw, ↓s_ret, ↓s_retL, ↓s_retD, ↓s_retA, ↓s_retV, mi_wI, mr_wI, mn_wI, mc_wI, sI_wI, u3_ap, mi_sI, mi_sR, mi_sL, mi_sD, mi_al, mi_bp, mr_sI, mr_sR, mr_sL, mr_sD, mr_al, mr_bp, ml_sI, ml_sR, ml_sL, ml_sD, ml_al, ml_bp, md_sI, md_sR, md_sL, md_sD, md_al, md_bp, mn_sI, mn_sR, mn_sL, mn_sD, mn_al, mn_bp, mc_sI, mc_sR, mc_sL, mc_sD, mc_al, mc_bp, mnc_sI, mnc_sR, mnc_sL, mnc_sD, mnc_al, mnc_bp, mns_sI, mns_sR, mns_sL, mns_sD, mns_al, mns_bp, SK_0, SK_1, SK_2, SK_3, SK_4, SK_5, SK_6, SK_7, SK_8, SK_9, SK_10, SK_11, SK_12, SK_13, SK_14, SK_15, SK_16, SK_17, SK_18, SK_19, SK_20, SK_21, SK_22, SK_23, SK_24, SK_25, SK_26, SK_27, SK_28, SK_29, SK_30, SK_31, SK_32, SK_33, SK_34, SK_35, SK_36, SK_37, SK_38, SK_39, SK_40, SK_41, SK_42, SK_43, SK_44, SK_45, SK_46, SK_47, SK_48, SK_49, SK_50, SK_51, SK_52, SK_53, SK_54, SK_55, SK_56, SK_57, SK_58, SK_59, SK_60, SK_61, SK_62, SK_63, SK_64, SK_65, st1_0, st1_1, st1_2, st1_3, st1_4, st1_5, st1_6, st1_7, st1_8, st2_0, st2_1, st2_2, st2_3, st2_4, st2_5, st2_6, st2_7, clr_I, clr_R, clr_X, clr_L, clr_D, clr_N, cr_14 hC, cr_16 hC, cr_33 hC, cn_15 hC, cn_17 hC, cn_34 hC, cr_61_0 hC, cr_61_1 hC, cr_61_2 hC, cr_61_3 hC, cr_61_4 hC, cr_61_5 hC, cr_35_1 hC, cr_35_2 hC, cr_35_3 hC, cr_35_4 hC, cr_35_5 hC, cr_35_6 hC, cr_35_7 hC, cr_35_8 hC, cr_35_9 hC, cr_35_10 hC, cr_35_11 hC, cr_36_1 hC, cr_36_2 hC, cr_37_1 hC, cr_37_2 hC, cr_37_3 hC, cr_37_4 hC, cr_38_1 hC, cr_38_2 hC, cr_38_3 hC, cr_38_4 hC, cr_38_5 hC, cr_38_6 hC, cr_38_7 hC, cr_38_8 hC, cr_39_0 hC, cr_39_1 hC, cr_40_0 hC, cr_40_1 hC, cr_40_2 hC, cr_40_3 hC, cr_40_4 hC, cr_40_5 hC, cn_2 hC, cn_3 hC, cn_4 hC, cn_14 hC, cn_16 hC, cn_18 hC, cn_19 hC, cn_20 hC, cn_21 hC, cn_33 hC, cn_5 hC, cn_6 hC, cn_7 hC, cn_8 hC, cn_9 hC, cn_10 hC, cn_11 hC, cn_12 hC, cn_13 hC, cn_22 hC, cn_23 hC, cn_24 hC, cn_25 hC, cn_26 hC, cn_27 hC, cn_28 hC, cn_29 hC, cn_30 hC, cn_31 hC, cn_32 hC]
  exact lp
theorem C_X3_findBest {l : Launch} {D : va_G} {cA : Nat → ClassId} {d : Nat} (hst : l.stackTraces = false) (hd : 8 ≤ d) : ∀ (as : List ab_V) (m : ab_M), Ctr l D cA d yX3_findBest (Cond.code yX3_findBest cX3_findBest 7 (some .int) :: TB) as m (SP_X3_findBest as m) := by
  intro as m
  refine ctr_of2 (by decide +kernel) hst (by omega) (snd_X3_findBest (d' := 7) (hd9 := by omega) (hC_X5_seenBy := C_X5_seenBy hst (by omega)) (hC_J6_bitCount_0f7a4 := C_J6_bitCount_0f7a4 hst (by omega)) (hC_X3_canBeChosen := C_X3_canBeChosen hst (by omega)) (hC_X2_countQuarrels := C_X2_countQuarrels hst (by omega)) (hC_X3_choose := C_X3_choose hst 4 _ (by omega))) mt_X3_findBest ?_
  intro r hr
  unfold SP_X3_findBest at hr
  split at hr
  · obtain ⟨hp, hr'⟩ := gd_some hr
    obtain ⟨rfl, h1⟩ := hp
    have q := q_X3_findBest h1 r hr'
    exact ⟨by show 5 ≤ 7; decide, q.1, q.2⟩
  · cases hr

