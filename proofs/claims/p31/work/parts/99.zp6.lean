/-! p31: the law's small methods -/
def bel (v n : Int32) : Int32 := (v &&& 2147483647) - (v &&& 2147483647) / n * n
def celV (m : ab_M) (k : Int32) : Int32 := if k < Int32.ofNat (mn m 0 0) then mi m 0 0 k.toNatClampNeg else 790386105 * (k + 3)
theorem bel_ex (v : Int32) {n : Nat} (hn : 0 < n) (hb : n < 1000) : ∃ t, t < n ∧ bel v (nN n) = nN t := by
  obtain ⟨a, ha, ea⟩ : ∃ a, a < 2147483648 ∧ v &&& 2147483647 = nN a := by
    have h : (v &&& 2147483647).toBitVec.toNat < 2147483648 := by
      rw [Int32.toBitVec_and, BitVec.toNat_and]
      have e : (2147483647 : Int32).toBitVec.toNat = 2147483647 := rfl
      rw [e]
      have := Nat.and_le_right (n := v.toBitVec.toNat) (m := 2147483647)
      omega
    refine ⟨_, h, ?_⟩
    apply Int32.toBitVec_inj.mp
    show _ = BitVec.ofNat 32 _
    rw [BitVec.ofNat_toNat, BitVec.setWidth_eq]
  unfold bel
  have h2 := Nat.div_mul_le_self a n
  rw [ea, nN_div ha (by omega), nN_mul, nN_sub h2]
  refine ⟨a - a / n * n, ?_, rfl⟩
  have h3 := Nat.mod_lt a hn
  have h4 := Nat.div_add_mod a n
  rw [Nat.mul_comm] at h4
  omega
noncomputable def SP_L_below : List ab_V → ab_M → ab_O := fun as m => match as with
  | [.inl v, .inl n] => gd ((¬ n = 0)) ((okV (vI (bel v n)) m))
  | _ => none
theorem e_L_below {m : ab_M} {v : Int32} {n : Int32} (h1 : ¬ n = 0) : SP_L_below [vI v, vI n] m = (okV (vI (bel v n)) m) := gd_pos h1
theorem q_L_below {m : ab_M} {v : Int32} {n : Int32} (h1 : ¬ n = 0) : ∀ r : ab_R, (okV (vI (bel v n)) m) = some r → (mnc m ≤ mnc (resM r) ∧ mns m ≤ mns (resM r)) ∧ ∀ K : ab_K, Closed T_L_below (fun r' => r' = r) K → run K (fun r' => r' = r) T_L_below 0 [some (vI v), some (vI n)] [] m := by
  intro r hr; cases hr
  refine ⟨⟨Nat.le_refl _, Nat.le_refl _⟩, fun K hK => ?_⟩
  simp only [T_L_below, h1, i10, Bool.false_eq_true, Bool.true_eq_false, Bool.not_true, Bool.not_false, ↓run_hit, ↓run_miss, ↓run_none, run_nil, ab_get0, ab_getS, if_true, if_false, if_pos, true_and, and_true, List.append_nil, List.nil_append, List.cons_append, List.length_cons, List.length_nil, List.take_succ_cons, List.take_zero, List.drop_succ_cons, List.drop_zero, List.reverse_cons, List.reverse_nil, List.map_nil, List.map_cons, List.sum_nil, List.sum_cons, rcv_some, rcv_999, wide_I, wide_L, wide_D, wide_R, wide_X, eq_self_iff_true, ite_true, ite_false, ↓reduceIte, Nat.reduceEqDiff, Nat.reduceLeDiff, Nat.reduceLT, Nat.reduceAdd, Nat.reduceMul, Nat.reduceBEq, decide_true, decide_false, and_self, or_self, or_true, true_or, false_or, or_false, and_false, false_and, not_false_eq_true, not_true_eq_false, Nat.zero_le, Nat.le_refl, Nat.add_eq_zero_iff, Nat.succ_ne_self, ↓s_const, ↓s_iload, ↓s_lload, ↓s_dload, ↓s_aload, ↓s_istore, ↓s_lstore, ↓s_dstore, ↓s_astore, ↓s_iinc, ↓s_bin, ↓s_div, ↓s_binL, ↓s_lcmp, ↓s_i2l, ↓s_i2d, ↓s_ddiv, ↓s_dcmpl, ↓s_goto, ↓s_ifeq, ↓s_iflt, ↓s_ifgt, ↓s_cmpeq, ↓s_cmplt, ↓s_cmpgt, ↓s_ifnull, ↓s_aeq, ↓s_pop, ↓s_dup, ↓s_dup2, ↓s_dupx1, ↓s_tab, ↓s_getI, ↓s_getR, ↓s_putI, ↓s_putZ, ↓s_putR, ↓s_ald, ↓s_ast, ↓s_zast, ↓s_lald, ↓s_last, ↓s_dald, ↓s_dast, ↓s_aald, ↓s_aast, ↓s_alen, ↓s_new, ↓s_newa, ↓s_multi, ↓s_cast, ↓s_getE, ↓s_obj, ↓s_mmin, ↓s_mmax, ↓s_hd, ↓s_call, ↓s_throw, ↓s_ret, ↓s_retL, ↓s_retD, ↓s_retA, ↓s_retV, mi_wI, mr_wI, mn_wI, mc_wI, sI_wI, u3_ap, mi_sI, mi_sR, mi_sL, mi_sD, mi_al, mi_bp, mr_sI, mr_sR, mr_sL, mr_sD, mr_al, mr_bp, ml_sI, ml_sR, ml_sL, ml_sD, ml_al, ml_bp, md_sI, md_sR, md_sL, md_sD, md_al, md_bp, mn_sI, mn_sR, mn_sL, mn_sD, mn_al, mn_bp, mc_sI, mc_sR, mc_sL, mc_sD, mc_al, mc_bp, mnc_sI, mnc_sR, mnc_sL, mnc_sD, mnc_al, mnc_bp, mns_sI, mns_sR, mns_sL, mns_sD, mns_al, mns_bp, SK_0, SK_1, SK_2, SK_3, SK_4, SK_5, SK_6, SK_7, SK_8, SK_9, SK_10, SK_11, SK_12, SK_13, SK_14, SK_15, SK_16, SK_17, SK_18, SK_19, SK_20, SK_21, SK_22, SK_23, SK_24, SK_25, SK_26, SK_27, SK_28, SK_29, SK_30, SK_31, SK_32, SK_33, SK_34, SK_35, SK_36, SK_37, SK_38, SK_39, SK_40, SK_41, SK_42, SK_43, SK_44, SK_45, SK_46, SK_47, SK_48, SK_49, SK_50, SK_51, SK_52, SK_53, SK_54, SK_55, SK_56, SK_57, SK_58, SK_59, SK_60, SK_61, SK_62, SK_63, SK_64, SK_65, st1_0, st1_1, st1_2, st1_3, st1_4, st1_5, st1_6, st1_7, st1_8, st2_0, st2_1, st2_2, st2_3, st2_4, st2_5, st2_6, st2_7, clr_I, clr_R, clr_X, clr_L, clr_D, clr_N]
  rfl
theorem C_L_below {l : Launch} {D : va_G} {cA : Nat → ClassId} {d : Nat} (hst : l.stackTraces = false) (hd : 1 ≤ d) : ∀ (as : List ab_V) (m : ab_M), Ctr l D cA d yL_below (Cond.code yL_below cL_below 2 (some .int) :: TB) as m (SP_L_below as m) := by
  intro as m
  refine ctr_of2 (by decide +kernel) hst (by omega) (snd_L_below) mt_L_below ?_
  intro r hr
  unfold SP_L_below at hr
  split at hr
  · obtain ⟨hp, hr'⟩ := gd_some hr
    have h1 := hp
    have q := q_L_below h1 r hr'
    exact ⟨by show 2 ≤ 2; decide, q.1, q.2⟩
  · cases hr
noncomputable def SP_L_cell : List ab_V → ab_M → ab_O := fun as m => match as with
  | [this, .inl k] => gd (this = vA 0 0 ∧ (inb k 1000) ∧ (mn m 0 0 ≤ 260)) ((okV (vI (celV m k)) m))
  | _ => none
theorem e_L_cell {m : ab_M} {k : Int32} (h1 : inb k 1000) (h2 : mn m 0 0 ≤ 260) : SP_L_cell [vA 0 0, vI k] m = (okV (vI (celV m k)) m) := gd_pos ⟨rfl, h1, h2⟩
theorem q_L_cell {m : ab_M} {k : Int32} (h1 : inb k 1000) (h2 : mn m 0 0 ≤ 260) : ∀ r : ab_R, (okV (vI (celV m k)) m) = some r → (mnc m ≤ mnc (resM r) ∧ mns m ≤ mns (resM r)) ∧ ∀ K : ab_K, Closed T_L_cell (fun r' => r' = r) K → run K (fun r' => r' = r) T_L_cell 0 [some (vA 0 0), some (vI k)] [] m := by
  intro r hr; cases hr
  refine ⟨⟨Nat.le_refl _, Nat.le_refl _⟩, fun K hK => ?_⟩
  obtain ⟨j, hj, rfl⟩ := nN_ex h1
  by_cases z : nN j < Int32.ofNat (mn m 0 0)
  · have e : celV m (nN j) = mi m 0 0 (nN j).toNatClampNeg := if_pos z
    have hin : inb (nN j) (mn m 0 0) := by
      have z2 : nN j < nN (mn m 0 0) := z
      rw [nN_lt (by omega) (by omega)] at z2
      rw [inb_nN (by omega)]
      exact z2
    rw [e] at hK ⊢
    clear e
    simp only [T_L_cell, z, hin, i10, Bool.false_eq_true, Bool.true_eq_false, Bool.not_true, Bool.not_false, ↓run_hit, ↓run_miss, ↓run_none, run_nil, ab_get0, ab_getS, if_true, if_false, if_pos, true_and, and_true, List.append_nil, List.nil_append, List.cons_append, List.length_cons, List.length_nil, List.take_succ_cons, List.take_zero, List.drop_succ_cons, List.drop_zero, List.reverse_cons, List.reverse_nil, List.map_nil, List.map_cons, List.sum_nil, List.sum_cons, rcv_some, rcv_999, wide_I, wide_L, wide_D, wide_R, wide_X, eq_self_iff_true, ite_true, ite_false, ↓reduceIte, Nat.reduceEqDiff, Nat.reduceLeDiff, Nat.reduceLT, Nat.reduceAdd, Nat.reduceMul, Nat.reduceBEq, decide_true, decide_false, and_self, or_self, or_true, true_or, false_or, or_false, and_false, false_and, not_false_eq_true, not_true_eq_false, Nat.zero_le, Nat.le_refl, Nat.add_eq_zero_iff, Nat.succ_ne_self, ↓s_const, ↓s_iload, ↓s_lload, ↓s_dload, ↓s_aload, ↓s_istore, ↓s_lstore, ↓s_dstore, ↓s_astore, ↓s_iinc, ↓s_bin, ↓s_div, ↓s_binL, ↓s_lcmp, ↓s_i2l, ↓s_i2d, ↓s_ddiv, ↓s_dcmpl, ↓s_goto, ↓s_ifeq, ↓s_iflt, ↓s_ifgt, ↓s_cmpeq, ↓s_cmplt, ↓s_cmpgt, ↓s_ifnull, ↓s_aeq, ↓s_pop, ↓s_dup, ↓s_dup2, ↓s_dupx1, ↓s_tab, ↓s_getI, ↓s_getR, ↓s_putI, ↓s_putZ, ↓s_putR, ↓s_ald, ↓s_ast, ↓s_zast, ↓s_lald, ↓s_last, ↓s_dald, ↓s_dast, ↓s_aald, ↓s_aast, ↓s_alen, ↓s_new, ↓s_newa, ↓s_multi, ↓s_cast, ↓s_getE, ↓s_obj, ↓s_mmin, ↓s_mmax, ↓s_hd, ↓s_call, ↓s_throw, ↓s_ret, ↓s_retL, ↓s_retD, ↓s_retA, ↓s_retV, mi_wI, mr_wI, mn_wI, mc_wI, sI_wI, u3_ap, mi_sI, mi_sR, mi_sL, mi_sD, mi_al, mi_bp, mr_sI, mr_sR, mr_sL, mr_sD, mr_al, mr_bp, ml_sI, ml_sR, ml_sL, ml_sD, ml_al, ml_bp, md_sI, md_sR, md_sL, md_sD, md_al, md_bp, mn_sI, mn_sR, mn_sL, mn_sD, mn_al, mn_bp, mc_sI, mc_sR, mc_sL, mc_sD, mc_al, mc_bp, mnc_sI, mnc_sR, mnc_sL, mnc_sD, mnc_al, mnc_bp, mns_sI, mns_sR, mns_sL, mns_sD, mns_al, mns_bp, SK_0, SK_1, SK_2, SK_3, SK_4, SK_5, SK_6, SK_7, SK_8, SK_9, SK_10, SK_11, SK_12, SK_13, SK_14, SK_15, SK_16, SK_17, SK_18, SK_19, SK_20, SK_21, SK_22, SK_23, SK_24, SK_25, SK_26, SK_27, SK_28, SK_29, SK_30, SK_31, SK_32, SK_33, SK_34, SK_35, SK_36, SK_37, SK_38, SK_39, SK_40, SK_41, SK_42, SK_43, SK_44, SK_45, SK_46, SK_47, SK_48, SK_49, SK_50, SK_51, SK_52, SK_53, SK_54, SK_55, SK_56, SK_57, SK_58, SK_59, SK_60, SK_61, SK_62, SK_63, SK_64, SK_65, st1_0, st1_1, st1_2, st1_3, st1_4, st1_5, st1_6, st1_7, st1_8, st2_0, st2_1, st2_2, st2_3, st2_4, st2_5, st2_6, st2_7, clr_I, clr_R, clr_X, clr_L, clr_D, clr_N]
  · have e : celV m (nN j) = 790386105 * (nN j + 3) := if_neg z
    rw [e] at hK ⊢
    clear e
    simp only [T_L_cell, z, i10, Bool.false_eq_true, Bool.true_eq_false, Bool.not_true, Bool.not_false, ↓run_hit, ↓run_miss, ↓run_none, run_nil, ab_get0, ab_getS, if_true, if_false, if_pos, true_and, and_true, List.append_nil, List.nil_append, List.cons_append, List.length_cons, List.length_nil, List.take_succ_cons, List.take_zero, List.drop_succ_cons, List.drop_zero, List.reverse_cons, List.reverse_nil, List.map_nil, List.map_cons, List.sum_nil, List.sum_cons, rcv_some, rcv_999, wide_I, wide_L, wide_D, wide_R, wide_X, eq_self_iff_true, ite_true, ite_false, ↓reduceIte, Nat.reduceEqDiff, Nat.reduceLeDiff, Nat.reduceLT, Nat.reduceAdd, Nat.reduceMul, Nat.reduceBEq, decide_true, decide_false, and_self, or_self, or_true, true_or, false_or, or_false, and_false, false_and, not_false_eq_true, not_true_eq_false, Nat.zero_le, Nat.le_refl, Nat.add_eq_zero_iff, Nat.succ_ne_self, ↓s_const, ↓s_iload, ↓s_lload, ↓s_dload, ↓s_aload, ↓s_istore, ↓s_lstore, ↓s_dstore, ↓s_astore, ↓s_iinc, ↓s_bin, ↓s_div, ↓s_binL, ↓s_lcmp, ↓s_i2l, ↓s_i2d, ↓s_ddiv, ↓s_dcmpl, ↓s_goto, ↓s_ifeq, ↓s_iflt, ↓s_ifgt, ↓s_cmpeq, ↓s_cmplt, ↓s_cmpgt, ↓s_ifnull, ↓s_aeq, ↓s_pop, ↓s_dup, ↓s_dup2, ↓s_dupx1, ↓s_tab, ↓s_getI, ↓s_getR, ↓s_putI, ↓s_putZ, ↓s_putR, ↓s_ald, ↓s_ast, ↓s_zast, ↓s_lald, ↓s_last, ↓s_dald, ↓s_dast, ↓s_aald, ↓s_aast, ↓s_alen, ↓s_new, ↓s_newa, ↓s_multi, ↓s_cast, ↓s_getE, ↓s_obj, ↓s_mmin, ↓s_mmax, ↓s_hd, ↓s_call, ↓s_throw, ↓s_ret, ↓s_retL, ↓s_retD, ↓s_retA, ↓s_retV, mi_wI, mr_wI, mn_wI, mc_wI, sI_wI, u3_ap, mi_sI, mi_sR, mi_sL, mi_sD, mi_al, mi_bp, mr_sI, mr_sR, mr_sL, mr_sD, mr_al, mr_bp, ml_sI, ml_sR, ml_sL, ml_sD, ml_al, ml_bp, md_sI, md_sR, md_sL, md_sD, md_al, md_bp, mn_sI, mn_sR, mn_sL, mn_sD, mn_al, mn_bp, mc_sI, mc_sR, mc_sL, mc_sD, mc_al, mc_bp, mnc_sI, mnc_sR, mnc_sL, mnc_sD, mnc_al, mnc_bp, mns_sI, mns_sR, mns_sL, mns_sD, mns_al, mns_bp, SK_0, SK_1, SK_2, SK_3, SK_4, SK_5, SK_6, SK_7, SK_8, SK_9, SK_10, SK_11, SK_12, SK_13, SK_14, SK_15, SK_16, SK_17, SK_18, SK_19, SK_20, SK_21, SK_22, SK_23, SK_24, SK_25, SK_26, SK_27, SK_28, SK_29, SK_30, SK_31, SK_32, SK_33, SK_34, SK_35, SK_36, SK_37, SK_38, SK_39, SK_40, SK_41, SK_42, SK_43, SK_44, SK_45, SK_46, SK_47, SK_48, SK_49, SK_50, SK_51, SK_52, SK_53, SK_54, SK_55, SK_56, SK_57, SK_58, SK_59, SK_60, SK_61, SK_62, SK_63, SK_64, SK_65, st1_0, st1_1, st1_2, st1_3, st1_4, st1_5, st1_6, st1_7, st1_8, st2_0, st2_1, st2_2, st2_3, st2_4, st2_5, st2_6, st2_7, clr_I, clr_R, clr_X, clr_L, clr_D, clr_N]
theorem C_L_cell {l : Launch} {D : va_G} {cA : Nat → ClassId} {d : Nat} (hst : l.stackTraces = false) (hd : 1 ≤ d) : ∀ (as : List ab_V) (m : ab_M), Ctr l D cA d yL_cell (Cond.code yL_cell cL_cell 2 (some .int) :: TB) as m (SP_L_cell as m) := by
  intro as m
  refine ctr_of2 (by decide +kernel) hst (by omega) (snd_L_cell) mt_L_cell ?_
  intro r hr
  unfold SP_L_cell at hr
  split at hr
  · obtain ⟨hp, hr'⟩ := gd_some hr
    obtain ⟨rfl, h1, h2⟩ := hp
    have q := q_L_cell h1 h2 r hr'
    exact ⟨by show 2 ≤ 2; decide, q.1, q.2⟩
  · cases hr
theorem x_below (m : ab_M) (v : Int32) {n : Nat} {N : Int32} (hN : N = nN n) (hn : 0 < n) (hb : n < 1000) : ∃ t, t < n ∧ SP_L_below [vI v, vI N] m = okV (vI (nN t)) m := by
  obtain ⟨t, ht, e⟩ := bel_ex v hn hb
  have h0 : ¬ N = 0 := by
    rw [hN, show (0 : Int32) = nN 0 from rfl, nN_inj (by omega) (by decide)]
    omega
  refine ⟨t, ht, ?_⟩
  rw [e_L_below h0, hN, e]
theorem x_cell (m : ab_M) {k : Int32} {j : Nat} (hk : k = nN j) (hj : j < 1000) (hL : mn m 0 0 ≤ 260) : ∃ x, SP_L_cell [vA 0 0, vI k] m = okV (vI x) m := ⟨_, e_L_cell (by rw [hk, inb_nN (by omega)]; exact hj) hL⟩
