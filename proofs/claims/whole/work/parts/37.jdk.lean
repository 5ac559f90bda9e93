/-! lists that grow -/
/-- a copy of the array e, of the length L -/
def sC (m : ab_M) (e : Nat × Nat) (L : Nat) : ab_M := ((al m 65 L L).1, (fun a b k => if a = 65 ∧ b = mc m 65 then (if k < mn m e.1 e.2 then mr m e.1 e.2 k else none) else mr m a b k), (al m 65 L L).2.2)
theorem mi_sC (m : ab_M) (e : Nat × Nat) (L : Nat) : mi (sC m e L) = mi (al m 65 L L) := rfl
theorem ml_sC (m : ab_M) (e : Nat × Nat) (L : Nat) : ml (sC m e L) = ml (al m 65 L L) := rfl
theorem md_sC (m : ab_M) (e : Nat × Nat) (L : Nat) : md (sC m e L) = md (al m 65 L L) := rfl
theorem mn_sC (m : ab_M) (e : Nat × Nat) (L : Nat) : mn (sC m e L) = mn (al m 65 L L) := rfl
theorem mc_sC (m : ab_M) (e : Nat × Nat) (L : Nat) : mc (sC m e L) = mc (al m 65 L L) := rfl
theorem mdm_sC (m : ab_M) (e : Nat × Nat) (L : Nat) : mdm (sC m e L) = mdm (al m 65 L L) := rfl
theorem mnc_sC (m : ab_M) (e : Nat × Nat) (L : Nat) : mnc (sC m e L) = mnc m + 1 := rfl
theorem mns_sC (m : ab_M) (e : Nat × Nat) (L : Nat) : mns (sC m e L) = mns m + L := rfl
theorem mr_sC (m : ab_M) (e : Nat × Nat) (L a b k : Nat) : mr (sC m e L) a b k = if a = 65 ∧ b = mc m 65 then (if k < mn m e.1 e.2 then mr m e.1 e.2 k else none) else mr m a b k := rfl
theorem i15n : ¬ (15 : Int32) < 0 := by decide
theorem i15p : (15 : Int32).toNatClampNeg = 15 := rfl
noncomputable def SP_J7_copyOf_6403c (c0 : Nat) : List ab_V → ab_M → ab_O := fun as m => match as with
  | [.inr (.inr (.inr (.inl (some e)))), .inl n, .inr (.inr (.inr (.inr a)))] => gd (a = c0 ∧ SK e.1 = 104 ∧ n = 15 ∧ mn m e.1 e.2 ≤ 15 ∧ KDs m e) (okV (vA 65 (mc m 65)) (sC m e 15))
  | _ => none
theorem e_J7_copyOf_6403c {c0 : Nat} {m : ab_M} {e : Nat × Nat} {n : Int32} (h1 : SK e.1 = 104) (h2 : n = 15) (h3 : mn m e.1 e.2 ≤ 15) (h4 : KDs m e) : SP_J7_copyOf_6403c c0 [vR (some e), vI n, vX c0] m = okV (vA 65 (mc m 65)) (sC m e 15) := gd_pos ⟨rfl, h1, h2, h3, h4⟩
theorem cpM_sC {m : ab_M} {e : Nat × Nat} (h : KDs m e) : cpM (al m 65 15 15) e (65, mc m 65) (mn m e.1 e.2) = sC m e 15 := by
  have hne : ¬ (e.1 = 65 ∧ e.2 = mc m 65) := fun w => by
    have := h.2.1
    rw [w.1, w.2] at this
    omega
  have e1 : (fun a b c => if a = (65, mc m 65).1 ∧ b = (65, mc m 65).2 then (if c < mn m e.1 e.2 then mr (al m 65 15 15) e.1 e.2 c else mr (al m 65 15 15) (65, mc m 65).1 (65, mc m 65).2 c) else mr (al m 65 15 15) a b c) = (fun a b k => if a = 65 ∧ b = mc m 65 then (if k < mn m e.1 e.2 then mr m e.1 e.2 k else none) else mr m a b k) := by
    funext a b k
    by_cases w : a = 65 ∧ b = mc m 65
    · rw [if_pos w, if_pos w]
      have e2 : mr (al m 65 15 15) e.1 e.2 k = mr m e.1 e.2 k := by rw [mr_al, u2_ap, if_neg hne]
      have e3 : mr (al m 65 15 15) (65, mc m 65).1 (65, mc m 65).2 k = none := by rw [mr_al, u2_ap, if_pos ⟨rfl, rfl⟩]
      rw [e2, e3]
    · rw [if_neg w, if_neg w, mr_al, u2_ap, if_neg w]
  unfold cpM sC
  rw [e1]
theorem q_J7_copyOf_6403c {c0 : Nat} {m : ab_M} {e : Nat × Nat} (h1 : SK e.1 = 104) (h3 : mn m e.1 e.2 ≤ 15) (h4 : KDs m e) : ∀ K : ab_K, Closed (T_J7_copyOf_6403c c0) (fun r' => r' = .inl ([vA 65 (mc m 65)], sC m e 15)) K → K 0 [some (vR (some e)), some (vI 15), some (vX c0), none] [] m := by
  intro K hK
  have hk : (Int32.ofNat (mn m e.1 e.2)).toNatClampNeg = mn m e.1 e.2 := nN_nat (by omega)
  have hneg : ¬ Int32.ofNat (mn m e.1 e.2) < 0 := nN_neg (by omega)
  have hle : ¬ (15 : Int32) < Int32.ofNat (mn m e.1 e.2) := by
    have := nN_lt (a := 15) (b := mn m e.1 e.2) (by decide) (by omega)
    intro w
    have w2 : nN 15 < nN (mn m e.1 e.2) := w
    rw [this] at w2
    omega
  have hne : ¬ (e.1 = 65 ∧ e.2 = mc m 65) := fun w => by
    have := h4.2.1
    rw [w.1, w.2] at this
    omega
  have hme : mn (al m 65 15 15) e.1 e.2 = mn m e.1 e.2 := by rw [mn_al, u2_ap, if_neg hne]
  have hm5 : mn (al m 65 15 15) 65 (mc m 65) = 15 := by rw [mn_al, u2_ap, if_pos ⟨rfl, rfl⟩]
  have hKD : KDs (al m 65 15 15) e := by
    refine ⟨h4.1, ?_, fun k y hk2 hy => ?_⟩
    · rw [mc_al, u1_ap]
      split
      · next w => have := h4.2.1; rw [w] at this; omega
      · exact h4.2.1
    · rw [hme] at hk2
      rw [mr_al, u2_ap, if_neg hne] at hy
      exact h4.2.2 k y hk2 hy
  have hcp := cpM_sC h4
  have hL : (100 : Nat) ≤ SK e.1 := by rw [h1]; decide
  refine run_sound hK mt_J7_copyOf_6403c ((T_J7_copyOf_6403c c0).take 7) (fun x hx => List.mem_of_mem_take hx) _ _ _ _ ?_
  simp only [T_J7_copyOf_6403c, ↓s_xload, ↓s_xeq, ↓s_ldcM, ↓s_getC, ↓s_copy, List.take_succ_cons, List.take_zero, i15n, i15p, i10, Bool.false_eq_true, Bool.true_eq_false, Bool.not_true, Bool.not_false, ↓run_hit, ↓run_miss, ↓run_none, run_nil, ab_get0, ab_getS, if_true, if_false, if_pos, true_and, and_true, List.append_nil, List.nil_append, List.cons_append, List.length_cons, List.length_nil, List.take_succ_cons, List.take_zero, List.drop_succ_cons, List.drop_zero, List.reverse_cons, List.reverse_nil, List.map_nil, List.map_cons, List.sum_nil, List.sum_cons, rcv_some, rcv_999, wide_I, wide_L, wide_D, wide_R, wide_X, eq_self_iff_true, ite_true, ite_false, ↓reduceIte, Nat.reduceEqDiff, Nat.reduceLeDiff, Nat.reduceLT, Nat.reduceAdd, Nat.reduceMul, Nat.reduceBEq, decide_true, decide_false, and_self, or_self, or_true, true_or, false_or, or_false, and_false, false_and, not_false_eq_true, not_true_eq_false, Nat.zero_le, Nat.le_refl, Nat.add_eq_zero_iff, Nat.succ_ne_self, ↓s_const, ↓s_iload, ↓s_lload, ↓s_dload, ↓s_aload, ↓s_istore, ↓s_lstore, ↓s_dstore, ↓s_astore, ↓s_iinc, ↓s_bin, ↓s_div, ↓s_binL, ↓s_lcmp, ↓s_i2l, ↓s_i2d, ↓s_ddiv, ↓s_dcmpl, ↓s_goto, ↓s_ifeq, ↓s_iflt, ↓s_ifgt, ↓s_cmpeq, ↓s_cmplt, ↓s_cmpgt, ↓s_ifnull, ↓s_aeq, ↓s_pop, ↓s_dup, ↓s_dup2, ↓s_dupx1, ↓s_tab, ↓s_getI, ↓s_getR, ↓s_putI, ↓s_putZ, ↓s_putR, ↓s_ald, ↓s_ast, ↓s_zast, ↓s_lald, ↓s_last, ↓s_dald, ↓s_dast, ↓s_aald, ↓s_aast, ↓s_alen, ↓s_new, ↓s_newa, ↓s_multi, ↓s_cast, ↓s_getE, ↓s_obj, ↓s_mmin, ↓s_mmax, ↓s_hd, ↓s_call, ↓s_throw, ↓s_ret, ↓s_retL, ↓s_retD, ↓s_retA, ↓s_retV, mi_wI, mr_wI, mn_wI, mc_wI, sI_wI, u3_ap, mi_sI, mi_sR, mi_sL, mi_sD, mi_al, mi_bp, mr_sI, mr_sR, mr_sL, mr_sD, mr_al, mr_bp, ml_sI, ml_sR, ml_sL, ml_sD, ml_al, ml_bp, md_sI, md_sR, md_sL, md_sD, md_al, md_bp, mn_sI, mn_sR, mn_sL, mn_sD, mn_al, mn_bp, mc_sI, mc_sR, mc_sL, mc_sD, mc_al, mc_bp, mnc_sI, mnc_sR, mnc_sL, mnc_sD, mnc_al, mnc_bp, mns_sI, mns_sR, mns_sL, mns_sD, mns_al, mns_bp, SK_0, SK_1, SK_2, SK_3, SK_4, SK_5, SK_6, SK_7, SK_8, SK_9, SK_10, SK_11, SK_12, SK_13, SK_14, SK_15, SK_16, SK_17, SK_18, SK_19, SK_20, SK_21, SK_22, SK_23, SK_24, SK_25, SK_26, SK_27, SK_28, SK_29, SK_30, SK_31, SK_32, SK_33, SK_34, SK_35, SK_36, SK_37, SK_38, SK_39, SK_40, SK_41, SK_42, SK_43, SK_44, SK_45, SK_46, SK_47, SK_48, SK_49, SK_50, SK_51, SK_52, SK_53, SK_54, SK_55, SK_56, SK_57, SK_58, SK_59, SK_60, SK_61, SK_62, SK_63, SK_64, SK_65, st1_0, st1_1, st1_2, st1_3, st1_4, st1_5, st1_6, st1_7, st1_8, st2_0, st2_1, st2_2, st2_3, st2_4, st2_5, st2_6, st2_7, clr_I, clr_R, clr_X, clr_L, clr_D, clr_N]
  generalize al m 65 15 15 = M at *
  refine run_sound hK mt_J7_copyOf_6403c ((T_J7_copyOf_6403c c0).drop 7) (fun x hx => List.mem_of_mem_drop hx) _ _ _ _ ?_
  simp only [T_J7_copyOf_6403c, ↓s_xload, ↓s_xeq, ↓s_ldcM, ↓s_getC, ↓s_copy, List.drop_succ_cons, List.drop_zero, hL, h1, hme, hm5, hle, hneg, hk, h3, hKD, hcp, i10, Bool.false_eq_true, Bool.true_eq_false, Bool.not_true, Bool.not_false, ↓run_hit, ↓run_miss, ↓run_none, run_nil, ab_get0, ab_getS, if_true, if_false, if_pos, true_and, and_true, List.append_nil, List.nil_append, List.cons_append, List.length_cons, List.length_nil, List.take_succ_cons, List.take_zero, List.drop_succ_cons, List.drop_zero, List.reverse_cons, List.reverse_nil, List.map_nil, List.map_cons, List.sum_nil, List.sum_cons, rcv_some, rcv_999, wide_I, wide_L, wide_D, wide_R, wide_X, eq_self_iff_true, ite_true, ite_false, ↓reduceIte, Nat.reduceEqDiff, Nat.reduceLeDiff, Nat.reduceLT, Nat.reduceAdd, Nat.reduceMul, Nat.reduceBEq, decide_true, decide_false, and_self, or_self, or_true, true_or, false_or, or_false, and_false, false_and, not_false_eq_true, not_true_eq_false, Nat.zero_le, Nat.le_refl, Nat.add_eq_zero_iff, Nat.succ_ne_self, ↓s_const, ↓s_iload, ↓s_lload, ↓s_dload, ↓s_aload, ↓s_istore, ↓s_lstore, ↓s_dstore, ↓s_astore, ↓s_iinc, ↓s_bin, ↓s_div, ↓s_binL, ↓s_lcmp, ↓s_i2l, ↓s_i2d, ↓s_ddiv, ↓s_dcmpl, ↓s_goto, ↓s_ifeq, ↓s_iflt, ↓s_ifgt, ↓s_cmpeq, ↓s_cmplt, ↓s_cmpgt, ↓s_ifnull, ↓s_aeq, ↓s_pop, ↓s_dup, ↓s_dup2, ↓s_dupx1, ↓s_tab, ↓s_getI, ↓s_getR, ↓s_putI, ↓s_putZ, ↓s_putR, ↓s_ald, ↓s_ast, ↓s_zast, ↓s_lald, ↓s_last, ↓s_dald, ↓s_dast, ↓s_aald, ↓s_aast, ↓s_alen, ↓s_new, ↓s_newa, ↓s_multi, ↓s_cast, ↓s_getE, ↓s_obj, ↓s_mmin, ↓s_mmax, ↓s_hd, ↓s_call, ↓s_throw, ↓s_ret, ↓s_retL, ↓s_retD, ↓s_retA, ↓s_retV, mi_wI, mr_wI, mn_wI, mc_wI, sI_wI, u3_ap, mi_sI, mi_sR, mi_sL, mi_sD, mi_al, mi_bp, mr_sI, mr_sR, mr_sL, mr_sD, mr_al, mr_bp, ml_sI, ml_sR, ml_sL, ml_sD, ml_al, ml_bp, md_sI, md_sR, md_sL, md_sD, md_al, md_bp, mn_sI, mn_sR, mn_sL, mn_sD, mn_al, mn_bp, mc_sI, mc_sR, mc_sL, mc_sD, mc_al, mc_bp, mnc_sI, mnc_sR, mnc_sL, mnc_sD, mnc_al, mnc_bp, mns_sI, mns_sR, mns_sL, mns_sD, mns_al, mns_bp, SK_0, SK_1, SK_2, SK_3, SK_4, SK_5, SK_6, SK_7, SK_8, SK_9, SK_10, SK_11, SK_12, SK_13, SK_14, SK_15, SK_16, SK_17, SK_18, SK_19, SK_20, SK_21, SK_22, SK_23, SK_24, SK_25, SK_26, SK_27, SK_28, SK_29, SK_30, SK_31, SK_32, SK_33, SK_34, SK_35, SK_36, SK_37, SK_38, SK_39, SK_40, SK_41, SK_42, SK_43, SK_44, SK_45, SK_46, SK_47, SK_48, SK_49, SK_50, SK_51, SK_52, SK_53, SK_54, SK_55, SK_56, SK_57, SK_58, SK_59, SK_60, SK_61, SK_62, SK_63, SK_64, SK_65, st1_0, st1_1, st1_2, st1_3, st1_4, st1_5, st1_6, st1_7, st1_8, st2_0, st2_1, st2_2, st2_3, st2_4, st2_5, st2_6, st2_7, clr_I, clr_R, clr_X, clr_L, clr_D, clr_N]
theorem ctr_x {l : Launch} {D : va_G} {cA : Nat → ClassId} {d nL : Nat} {y : MethodName} {cc : ByteArray} {ret : Option FieldType} {T : ab_T} {as : List ab_V} {m : ab_M} {o : ab_O} (hpl : plainName y.cls = true)
    (hst : l.stackTraces = false) (hd : 1 ≤ d) (hS : Sound l D cA d nL y cc ret [] T) (h : ∀ r, o = some r → (eL as).length ≤ nL ∧ (mnc m ≤ mnc (resM r) ∧ mns m ≤ mns (resM r)) ∧ Comes_to T (entry nL as) m r) : Ctr l D cA d y (Cond.code y cc nL ret :: TB) as m o :=
  ctr_of hpl hst hd hS (fun r hr => (h r hr).1) (fun r hr => (h r hr).2.1) (fun r hr => (h r hr).2.2)
theorem C_J7_copyOf_6403c {l : Launch} {D : va_G} {cA : Nat → ClassId} {d : Nat} (hst : l.stackTraces = false) (hd : 2 ≤ d) : ∀ (as : List ab_V) (m : ab_M), Ctr l D cA d yJ7_copyOf_6403c (Cond.code yJ7_copyOf_6403c cJ7_copyOf_6403c 4 (some (.array (.object "java/lang/Object"))) :: TB) as m (SP_J7_copyOf_6403c (cA 200) as m) := by
  intro as m
  refine ctr_x (by decide +kernel) hst (by omega) snd_J7_copyOf_6403c ?_
  intro r hr
  unfold SP_J7_copyOf_6403c at hr
  split at hr
  · obtain ⟨⟨h0, h1, h2, h3, h4⟩, hr'⟩ := gd_some hr
    cases hr'
    subst h0
    subst h2
    exact ⟨by show 3 ≤ 4; decide, ⟨Nat.le_add_right _ _, Nat.le_add_right _ _⟩, q_J7_copyOf_6403c h1 h3 h4⟩
  · cases hr
noncomputable def SP_J7_copyOf_1904c : List ab_V → ab_M → ab_O := fun as m => match as with
  | [.inr (.inr (.inr (.inl (some e)))), .inl n] => gd (SK e.1 = 104 ∧ n = 15 ∧ mn m e.1 e.2 ≤ 15 ∧ KDs m e) (okV (vA 65 (mc m 65)) (sC m e 15))
  | _ => none
theorem e_J7_copyOf_1904c {m : ab_M} {e : Nat × Nat} {n : Int32} (h1 : SK e.1 = 104) (h2 : n = 15) (h3 : mn m e.1 e.2 ≤ 15) (h4 : KDs m e) : SP_J7_copyOf_1904c [vR (some e), vI n] m = okV (vA 65 (mc m 65)) (sC m e 15) := gd_pos ⟨h1, h2, h3, h4⟩
theorem C_J7_copyOf_1904c {l : Launch} {D : va_G} {cA : Nat → ClassId} {d : Nat} (hst : l.stackTraces = false) (hd : 5 ≤ d) : ∀ (as : List ab_V) (m : ab_M), Ctr l D cA d yJ7_copyOf_1904c (Cond.code yJ7_copyOf_1904c cJ7_copyOf_1904c 2 (some (.array (.object "java/lang/Object"))) :: TB) as m (SP_J7_copyOf_1904c as m) := by
  intro as m
  refine ctr_of2 (by decide +kernel) hst (by omega) (snd_J7_copyOf_1904c (d' := 2) (by omega) (C_J7_copyOf_6403c hst (by omega))) mt_J7_copyOf_1904c ?_
  intro r hr
  unfold SP_J7_copyOf_1904c at hr
  split at hr
  · next e n =>
    obtain ⟨⟨h1, h2, h3, h4⟩, hr'⟩ := gd_some hr
    cases hr'
    subst h2
    have e1 := e_J7_copyOf_6403c (c0 := cA 200) h1 rfl h3 h4
    refine ⟨by show 2 ≤ 2; decide, ⟨Nat.le_add_right _ _, Nat.le_add_right _ _⟩, fun K hK => ?_⟩
    show run K _ _ 0 [some (vR (some e)), some (vI 15)] [] m
    simp only [T_J7_copyOf_1904c, ↓s_xload, ↓s_xeq, ↓s_ldcM, ↓s_getC, ↓s_copy, h1, e1, i10, Bool.false_eq_true, Bool.true_eq_false, Bool.not_true, Bool.not_false, ↓run_hit, ↓run_miss, ↓run_none, run_nil, ab_get0, ab_getS, if_true, if_false, if_pos, true_and, and_true, List.append_nil, List.nil_append, List.cons_append, List.length_cons, List.length_nil, List.take_succ_cons, List.take_zero, List.drop_succ_cons, List.drop_zero, List.reverse_cons, List.reverse_nil, List.map_nil, List.map_cons, List.sum_nil, List.sum_cons, rcv_some, rcv_999, wide_I, wide_L, wide_D, wide_R, wide_X, eq_self_iff_true, ite_true, ite_false, ↓reduceIte, Nat.reduceEqDiff, Nat.reduceLeDiff, Nat.reduceLT, Nat.reduceAdd, Nat.reduceMul, Nat.reduceBEq, decide_true, decide_false, and_self, or_self, or_true, true_or, false_or, or_false, and_false, false_and, not_false_eq_true, not_true_eq_false, Nat.zero_le, Nat.le_refl, Nat.add_eq_zero_iff, Nat.succ_ne_self, ↓s_const, ↓s_iload, ↓s_lload, ↓s_dload, ↓s_aload, ↓s_istore, ↓s_lstore, ↓s_dstore, ↓s_astore, ↓s_iinc, ↓s_bin, ↓s_div, ↓s_binL, ↓s_lcmp, ↓s_i2l, ↓s_i2d, ↓s_ddiv, ↓s_dcmpl, ↓s_goto, ↓s_ifeq, ↓s_iflt, ↓s_ifgt, ↓s_cmpeq, ↓s_cmplt, ↓s_cmpgt, ↓s_ifnull, ↓s_aeq, ↓s_pop, ↓s_dup, ↓s_dup2, ↓s_dupx1, ↓s_tab, ↓s_getI, ↓s_getR, ↓s_putI, ↓s_putZ, ↓s_putR, ↓s_ald, ↓s_ast, ↓s_zast, ↓s_lald, ↓s_last, ↓s_dald, ↓s_dast, ↓s_aald, ↓s_aast, ↓s_alen, ↓s_new, ↓s_newa, ↓s_multi, ↓s_cast, ↓s_getE, ↓s_obj, ↓s_mmin, ↓s_mmax, ↓s_hd, ↓s_call, ↓s_throw, ↓s_ret, ↓s_retL, ↓s_retD, ↓s_retA, ↓s_retV, mi_wI, mr_wI, mn_wI, mc_wI, sI_wI, u3_ap, mi_sI, mi_sR, mi_sL, mi_sD, mi_al, mi_bp, mr_sI, mr_sR, mr_sL, mr_sD, mr_al, mr_bp, ml_sI, ml_sR, ml_sL, ml_sD, ml_al, ml_bp, md_sI, md_sR, md_sL, md_sD, md_al, md_bp, mn_sI, mn_sR, mn_sL, mn_sD, mn_al, mn_bp, mc_sI, mc_sR, mc_sL, mc_sD, mc_al, mc_bp, mnc_sI, mnc_sR, mnc_sL, mnc_sD, mnc_al, mnc_bp, mns_sI, mns_sR, mns_sL, mns_sD, mns_al, mns_bp, SK_0, SK_1, SK_2, SK_3, SK_4, SK_5, SK_6, SK_7, SK_8, SK_9, SK_10, SK_11, SK_12, SK_13, SK_14, SK_15, SK_16, SK_17, SK_18, SK_19, SK_20, SK_21, SK_22, SK_23, SK_24, SK_25, SK_26, SK_27, SK_28, SK_29, SK_30, SK_31, SK_32, SK_33, SK_34, SK_35, SK_36, SK_37, SK_38, SK_39, SK_40, SK_41, SK_42, SK_43, SK_44, SK_45, SK_46, SK_47, SK_48, SK_49, SK_50, SK_51, SK_52, SK_53, SK_54, SK_55, SK_56, SK_57, SK_58, SK_59, SK_60, SK_61, SK_62, SK_63, SK_64, SK_65, st1_0, st1_1, st1_2, st1_3, st1_4, st1_5, st1_6, st1_7, st1_8, st2_0, st2_1, st2_2, st2_3, st2_4, st2_5, st2_6, st2_7, clr_I, clr_R, clr_X, clr_L, clr_D, clr_N]
  · cases hr
theorem i11 : (11 : Int32) - 10 = 1 := by decide
theorem i10s : (10 : Int32) >>> (1 &&& 31) = 5 := by decide
theorem i15 : (10 : Int32) + cMax 1 5 = 15 := by decide
/-- a full list's new array, and the memory with it -/
noncomputable def grA (m : ab_M) (o : Nat × Nat) : Nat × Nat := @ite _ (mr m o.1 o.2 1 = some (1, 0)) (Classical.propDecidable _) (59, mc m 59) (65, mc m 65)
noncomputable def grM (m : ab_M) (o : Nat × Nat) : ab_M := @ite _ (mr m o.1 o.2 1 = some (1, 0)) (Classical.propDecidable _) (sR (al m 59 10 10) o.1 o.2 1 (some (59, mc m 59))) (sR (sC m (ela m o) 15) o.1 o.2 1 (some (65, mc m 65)))
theorem grA_1 {m : ab_M} {o : Nat × Nat} (h : mr m o.1 o.2 1 = some (1, 0)) : grA m o = (59, mc m 59) := if_pos h
theorem grA_2 {m : ab_M} {o : Nat × Nat} (h : ¬ mr m o.1 o.2 1 = some (1, 0)) : grA m o = (65, mc m 65) := if_neg h
theorem grM_1 {m : ab_M} {o : Nat × Nat} (h : mr m o.1 o.2 1 = some (1, 0)) : grM m o = sR (al m 59 10 10) o.1 o.2 1 (some (59, mc m 59)) := if_pos h
theorem grM_2 {m : ab_M} {o : Nat × Nat} (h : ¬ mr m o.1 o.2 1 = some (1, 0)) : grM m o = sR (sC m (ela m o) 15) o.1 o.2 1 (some (65, mc m 65)) := if_neg h
theorem grM_mono {m : ab_M} {o : Nat × Nat} : mnc m ≤ mnc (grM m o) ∧ mns m ≤ mns (grM m o) := by
  unfold grM
  split
  · exact ⟨Nat.le_add_right _ _, Nat.le_add_right _ _⟩
  · exact ⟨Nat.le_add_right _ _, Nat.le_add_right _ _⟩
/-- full: without an array of its own, or with ten entries -/
def GRc (m : ab_M) (o : Nat × Nat) (n : Int32) : Prop := SK o.1 = 1 ∧ ((mr m o.1 o.2 1 = some (1, 0) ∧ mn m 1 0 = 0 ∧ n = 0) ∨ (isL m o ∧ mn m (ela m o).1 (ela m o).2 = 10 ∧ n = 10 ∧ ¬ mr m o.1 o.2 1 = some (1, 0) ∧ KDs m (ela m o)))
noncomputable def SP_Jx4a65c_grow_92f84 : List ab_V → ab_M → ab_O := fun as m => match as with
  | [.inr (.inr (.inr (.inl (some o)))), .inl k] => gd ((GRc m o (k - 1))) ((okV (vR (some (grA m o))) (grM m o)))
  | _ => none
theorem e_Jx4a65c_grow_92f84 {m : ab_M} {o : Nat × Nat} {k : Int32} (h1 : GRc m o (k - 1)) : SP_Jx4a65c_grow_92f84 [vR (some o), vI k] m = (okV (vR (some (grA m o))) (grM m o)) := gd_pos h1
theorem q_Jx4a65c_grow_92f84 {m : ab_M} {o : Nat × Nat} {k : Int32} (h1 : GRc m o (k - 1)) : ∀ r : ab_R, (okV (vR (some (grA m o))) (grM m o)) = some r → (mnc m ≤ mnc (resM r) ∧ mns m ≤ mns (resM r)) ∧ ∀ K : ab_K, Closed (T_Jx4a65c_grow_92f84 SP_J8_newLength_cabcc SP_J7_copyOf_1904c) (fun r' => r' = r) K → run K (fun r' => r' = r) (T_Jx4a65c_grow_92f84 SP_J8_newLength_cabcc SP_J7_copyOf_1904c) 0 [some (vR (some o)), some (vI k), none, none] [] m := by
  obtain ⟨h1, ⟨a1, a2, a3⟩ | ⟨⟨a1, a2, a3⟩, a4, a5, a7, a8⟩⟩ := h1
  · rw [grA_1 a1, grM_1 a1]
    intro r hr; cases hr
    refine ⟨⟨Nat.le_add_right _ _, Nat.le_add_right _ _⟩, fun K hK => ?_⟩
    have a4 : k = 1 := by
      have := congrArg (· + 1) a3
      simpa using this
    subst a4
    simp only [T_Jx4a65c_grow_92f84, h1, a1, a2, show Int32.ofNat 0 = 0 from rfl, show ¬ (0 : Int32) < 0 from by decide, i10p, i10n, show ¬ (10 : Int32) < 1 from by decide, i10, Bool.false_eq_true, Bool.true_eq_false, Bool.not_true, Bool.not_false, ↓run_hit, ↓run_miss, ↓run_none, run_nil, ab_get0, ab_getS, if_true, if_false, if_pos, true_and, and_true, List.append_nil, List.nil_append, List.cons_append, List.length_cons, List.length_nil, List.take_succ_cons, List.take_zero, List.drop_succ_cons, List.drop_zero, List.reverse_cons, List.reverse_nil, List.map_nil, List.map_cons, List.sum_nil, List.sum_cons, rcv_some, rcv_999, wide_I, wide_L, wide_D, wide_R, wide_X, eq_self_iff_true, ite_true, ite_false, ↓reduceIte, Nat.reduceEqDiff, Nat.reduceLeDiff, Nat.reduceLT, Nat.reduceAdd, Nat.reduceMul, Nat.reduceBEq, decide_true, decide_false, and_self, or_self, or_true, true_or, false_or, or_false, and_false, false_and, not_false_eq_true, not_true_eq_false, Nat.zero_le, Nat.le_refl, Nat.add_eq_zero_iff, Nat.succ_ne_self, ↓s_const, ↓s_iload, ↓s_lload, ↓s_dload, ↓s_aload, ↓s_istore, ↓s_lstore, ↓s_dstore, ↓s_astore, ↓s_iinc, ↓s_bin, ↓s_div, ↓s_binL, ↓s_lcmp, ↓s_i2l, ↓s_i2d, ↓s_ddiv, ↓s_dcmpl, ↓s_goto, ↓s_ifeq, ↓s_iflt, ↓s_ifgt, ↓s_cmpeq, ↓s_cmplt, ↓s_cmpgt, ↓s_ifnull, ↓s_aeq, ↓s_pop, ↓s_dup, ↓s_dup2, ↓s_dupx1, ↓s_tab, ↓s_getI, ↓s_getR, ↓s_putI, ↓s_putZ, ↓s_putR, ↓s_ald, ↓s_ast, ↓s_zast, ↓s_lald, ↓s_last, ↓s_dald, ↓s_dast, ↓s_aald, ↓s_aast, ↓s_alen, ↓s_new, ↓s_newa, ↓s_multi, ↓s_cast, ↓s_getE, ↓s_obj, ↓s_mmin, ↓s_mmax, ↓s_hd, ↓s_call, ↓s_throw, ↓s_ret, ↓s_retL, ↓s_retD, ↓s_retA, ↓s_retV, mi_wI, mr_wI, mn_wI, mc_wI, sI_wI, u3_ap, mi_sI, mi_sR, mi_sL, mi_sD, mi_al, mi_bp, mr_sI, mr_sR, mr_sL, mr_sD, mr_al, mr_bp, ml_sI, ml_sR, ml_sL, ml_sD, ml_al, ml_bp, md_sI, md_sR, md_sL, md_sD, md_al, md_bp, mn_sI, mn_sR, mn_sL, mn_sD, mn_al, mn_bp, mc_sI, mc_sR, mc_sL, mc_sD, mc_al, mc_bp, mnc_sI, mnc_sR, mnc_sL, mnc_sD, mnc_al, mnc_bp, mns_sI, mns_sR, mns_sL, mns_sD, mns_al, mns_bp, SK_0, SK_1, SK_2, SK_3, SK_4, SK_5, SK_6, SK_7, SK_8, SK_9, SK_10, SK_11, SK_12, SK_13, SK_14, SK_15, SK_16, SK_17, SK_18, SK_19, SK_20, SK_21, SK_22, SK_23, SK_24, SK_25, SK_26, SK_27, SK_28, SK_29, SK_30, SK_31, SK_32, SK_33, SK_34, SK_35, SK_36, SK_37, SK_38, SK_39, SK_40, SK_41, SK_42, SK_43, SK_44, SK_45, SK_46, SK_47, SK_48, SK_49, SK_50, SK_51, SK_52, SK_53, SK_54, SK_55, SK_56, SK_57, SK_58, SK_59, SK_60, SK_61, SK_62, SK_63, SK_64, SK_65, st1_0, st1_1, st1_2, st1_3, st1_4, st1_5, st1_6, st1_7, st1_8, st2_0, st2_1, st2_2, st2_3, st2_4, st2_5, st2_6, st2_7, clr_I, clr_R, clr_X, clr_L, clr_D, clr_N]
  · rw [grA_2 a7, grM_2 a7]
    intro r hr; cases hr
    refine ⟨⟨Nat.le_add_right _ _, Nat.le_add_right _ _⟩, fun K hK => ?_⟩
    have a6 : k = 11 := by
      have := congrArg (· + 1) a5
      simpa using this
    subst a6
    have e1 := e_J8_newLength_cabcc (m := m) (a := 10) (b := 1) (c := 5) (by decide) (by decide)
    rw [i15] at e1
    have e2 := e_J7_copyOf_1904c (m := m) (e := ela m o) a3 rfl (by omega) a8
    simp only [T_Jx4a65c_grow_92f84, h1, a2, a3, a4, e1, e2, i11, i10s, show Int32.ofNat 10 = 10 from rfl, show (0 : Int32) < 10 from by decide, i10, Bool.false_eq_true, Bool.true_eq_false, Bool.not_true, Bool.not_false, ↓run_hit, ↓run_miss, ↓run_none, run_nil, ab_get0, ab_getS, if_true, if_false, if_pos, true_and, and_true, List.append_nil, List.nil_append, List.cons_append, List.length_cons, List.length_nil, List.take_succ_cons, List.take_zero, List.drop_succ_cons, List.drop_zero, List.reverse_cons, List.reverse_nil, List.map_nil, List.map_cons, List.sum_nil, List.sum_cons, rcv_some, rcv_999, wide_I, wide_L, wide_D, wide_R, wide_X, eq_self_iff_true, ite_true, ite_false, ↓reduceIte, Nat.reduceEqDiff, Nat.reduceLeDiff, Nat.reduceLT, Nat.reduceAdd, Nat.reduceMul, Nat.reduceBEq, decide_true, decide_false, and_self, or_self, or_true, true_or, false_or, or_false, and_false, false_and, not_false_eq_true, not_true_eq_false, Nat.zero_le, Nat.le_refl, Nat.add_eq_zero_iff, Nat.succ_ne_self, ↓s_const, ↓s_iload, ↓s_lload, ↓s_dload, ↓s_aload, ↓s_istore, ↓s_lstore, ↓s_dstore, ↓s_astore, ↓s_iinc, ↓s_bin, ↓s_div, ↓s_binL, ↓s_lcmp, ↓s_i2l, ↓s_i2d, ↓s_ddiv, ↓s_dcmpl, ↓s_goto, ↓s_ifeq, ↓s_iflt, ↓s_ifgt, ↓s_cmpeq, ↓s_cmplt, ↓s_cmpgt, ↓s_ifnull, ↓s_aeq, ↓s_pop, ↓s_dup, ↓s_dup2, ↓s_dupx1, ↓s_tab, ↓s_getI, ↓s_getR, ↓s_putI, ↓s_putZ, ↓s_putR, ↓s_ald, ↓s_ast, ↓s_zast, ↓s_lald, ↓s_last, ↓s_dald, ↓s_dast, ↓s_aald, ↓s_aast, ↓s_alen, ↓s_new, ↓s_newa, ↓s_multi, ↓s_cast, ↓s_getE, ↓s_obj, ↓s_mmin, ↓s_mmax, ↓s_hd, ↓s_call, ↓s_throw, ↓s_ret, ↓s_retL, ↓s_retD, ↓s_retA, ↓s_retV, mi_wI, mr_wI, mn_wI, mc_wI, sI_wI, u3_ap, mi_sI, mi_sR, mi_sL, mi_sD, mi_al, mi_bp, mr_sI, mr_sR, mr_sL, mr_sD, mr_al, mr_bp, ml_sI, ml_sR, ml_sL, ml_sD, ml_al, ml_bp, md_sI, md_sR, md_sL, md_sD, md_al, md_bp, mn_sI, mn_sR, mn_sL, mn_sD, mn_al, mn_bp, mc_sI, mc_sR, mc_sL, mc_sD, mc_al, mc_bp, mnc_sI, mnc_sR, mnc_sL, mnc_sD, mnc_al, mnc_bp, mns_sI, mns_sR, mns_sL, mns_sD, mns_al, mns_bp, SK_0, SK_1, SK_2, SK_3, SK_4, SK_5, SK_6, SK_7, SK_8, SK_9, SK_10, SK_11, SK_12, SK_13, SK_14, SK_15, SK_16, SK_17, SK_18, SK_19, SK_20, SK_21, SK_22, SK_23, SK_24, SK_25, SK_26, SK_27, SK_28, SK_29, SK_30, SK_31, SK_32, SK_33, SK_34, SK_35, SK_36, SK_37, SK_38, SK_39, SK_40, SK_41, SK_42, SK_43, SK_44, SK_45, SK_46, SK_47, SK_48, SK_49, SK_50, SK_51, SK_52, SK_53, SK_54, SK_55, SK_56, SK_57, SK_58, SK_59, SK_60, SK_61, SK_62, SK_63, SK_64, SK_65, st1_0, st1_1, st1_2, st1_3, st1_4, st1_5, st1_6, st1_7, st1_8, st2_0, st2_1, st2_2, st2_3, st2_4, st2_5, st2_6, st2_7, clr_I, clr_R, clr_X, clr_L, clr_D, clr_N]
theorem C_Jx4a65c_grow_92f84 {l : Launch} {D : va_G} {cA : Nat → ClassId} {d : Nat} (hst : l.stackTraces = false) (hd : 6 ≤ d) : ∀ (as : List ab_V) (m : ab_M), Ctr l D cA d yJx4a65c_grow_92f84 (Cond.code yJx4a65c_grow_92f84 cJx4a65c_grow_92f84 4 (some (.array (.object "java/lang/Object"))) :: TB) as m (SP_Jx4a65c_grow_92f84 as m) := by
  intro as m
  refine ctr_of2 (by decide +kernel) hst (by omega) (snd_Jx4a65c_grow_92f84 (d' := 5) (hd9 := by omega) (hC_J8_newLength_cabcc := C_J8_newLength_cabcc hst (by omega)) (hC_J7_copyOf_1904c := C_J7_copyOf_1904c hst (by omega))) mt_Jx4a65c_grow_92f84 ?_
  intro r hr
  unfold SP_Jx4a65c_grow_92f84 at hr
  split at hr
  · obtain ⟨hp, hr'⟩ := gd_some hr
    have h1 := hp
    have q := q_Jx4a65c_grow_92f84 h1 r hr'
    exact ⟨by show 2 ≤ 4; decide, q.1, q.2⟩
  · cases hr
noncomputable def SP_Jx4a65c_grow_d5877 : List ab_V → ab_M → ab_O := fun as m => match as with
  | [.inr (.inr (.inr (.inl (some o))))] => gd ((GRc m o (mi m o.1 o.2 2))) ((okV (vR (some (grA m o))) (grM m o)))
  | _ => none
theorem e_Jx4a65c_grow_d5877 {m : ab_M} {o : Nat × Nat} (h1 : GRc m o (mi m o.1 o.2 2)) : SP_Jx4a65c_grow_d5877 [vR (some o)] m = (okV (vR (some (grA m o))) (grM m o)) := gd_pos h1
theorem q_Jx4a65c_grow_d5877 {m : ab_M} {o : Nat × Nat} (h1 : GRc m o (mi m o.1 o.2 2)) : ∀ r : ab_R, (okV (vR (some (grA m o))) (grM m o)) = some r → (mnc m ≤ mnc (resM r) ∧ mns m ≤ mns (resM r)) ∧ ∀ K : ab_K, Closed (T_Jx4a65c_grow_d5877 SP_Jx4a65c_grow_92f84) (fun r' => r' = r) K → run K (fun r' => r' = r) (T_Jx4a65c_grow_d5877 SP_Jx4a65c_grow_92f84) 0 [some (vR (some o))] [] m := by
  intro r hr; cases hr
  refine ⟨grM_mono, fun K hK => ?_⟩
  have e1 := e_Jx4a65c_grow_92f84 (m := m) (o := o) (k := mi m o.1 o.2 2 + 1) (by rw [Int32.add_sub_cancel]; exact h1)
  have a1 := h1.1
  simp only [T_Jx4a65c_grow_d5877, a1, e1, i10, Bool.false_eq_true, Bool.true_eq_false, Bool.not_true, Bool.not_false, ↓run_hit, ↓run_miss, ↓run_none, run_nil, ab_get0, ab_getS, if_true, if_false, if_pos, true_and, and_true, List.append_nil, List.nil_append, List.cons_append, List.length_cons, List.length_nil, List.take_succ_cons, List.take_zero, List.drop_succ_cons, List.drop_zero, List.reverse_cons, List.reverse_nil, List.map_nil, List.map_cons, List.sum_nil, List.sum_cons, rcv_some, rcv_999, wide_I, wide_L, wide_D, wide_R, wide_X, eq_self_iff_true, ite_true, ite_false, ↓reduceIte, Nat.reduceEqDiff, Nat.reduceLeDiff, Nat.reduceLT, Nat.reduceAdd, Nat.reduceMul, Nat.reduceBEq, decide_true, decide_false, and_self, or_self, or_true, true_or, false_or, or_false, and_false, false_and, not_false_eq_true, not_true_eq_false, Nat.zero_le, Nat.le_refl, Nat.add_eq_zero_iff, Nat.succ_ne_self, ↓s_const, ↓s_iload, ↓s_lload, ↓s_dload, ↓s_aload, ↓s_istore, ↓s_lstore, ↓s_dstore, ↓s_astore, ↓s_iinc, ↓s_bin, ↓s_div, ↓s_binL, ↓s_lcmp, ↓s_i2l, ↓s_i2d, ↓s_ddiv, ↓s_dcmpl, ↓s_goto, ↓s_ifeq, ↓s_iflt, ↓s_ifgt, ↓s_cmpeq, ↓s_cmplt, ↓s_cmpgt, ↓s_ifnull, ↓s_aeq, ↓s_pop, ↓s_dup, ↓s_dup2, ↓s_dupx1, ↓s_tab, ↓s_getI, ↓s_getR, ↓s_putI, ↓s_putZ, ↓s_putR, ↓s_ald, ↓s_ast, ↓s_zast, ↓s_lald, ↓s_last, ↓s_dald, ↓s_dast, ↓s_aald, ↓s_aast, ↓s_alen, ↓s_new, ↓s_newa, ↓s_multi, ↓s_cast, ↓s_getE, ↓s_obj, ↓s_mmin, ↓s_mmax, ↓s_hd, ↓s_call, ↓s_throw, ↓s_ret, ↓s_retL, ↓s_retD, ↓s_retA, ↓s_retV, mi_wI, mr_wI, mn_wI, mc_wI, sI_wI, u3_ap, mi_sI, mi_sR, mi_sL, mi_sD, mi_al, mi_bp, mr_sI, mr_sR, mr_sL, mr_sD, mr_al, mr_bp, ml_sI, ml_sR, ml_sL, ml_sD, ml_al, ml_bp, md_sI, md_sR, md_sL, md_sD, md_al, md_bp, mn_sI, mn_sR, mn_sL, mn_sD, mn_al, mn_bp, mc_sI, mc_sR, mc_sL, mc_sD, mc_al, mc_bp, mnc_sI, mnc_sR, mnc_sL, mnc_sD, mnc_al, mnc_bp, mns_sI, mns_sR, mns_sL, mns_sD, mns_al, mns_bp, SK_0, SK_1, SK_2, SK_3, SK_4, SK_5, SK_6, SK_7, SK_8, SK_9, SK_10, SK_11, SK_12, SK_13, SK_14, SK_15, SK_16, SK_17, SK_18, SK_19, SK_20, SK_21, SK_22, SK_23, SK_24, SK_25, SK_26, SK_27, SK_28, SK_29, SK_30, SK_31, SK_32, SK_33, SK_34, SK_35, SK_36, SK_37, SK_38, SK_39, SK_40, SK_41, SK_42, SK_43, SK_44, SK_45, SK_46, SK_47, SK_48, SK_49, SK_50, SK_51, SK_52, SK_53, SK_54, SK_55, SK_56, SK_57, SK_58, SK_59, SK_60, SK_61, SK_62, SK_63, SK_64, SK_65, st1_0, st1_1, st1_2, st1_3, st1_4, st1_5, st1_6, st1_7, st1_8, st2_0, st2_1, st2_2, st2_3, st2_4, st2_5, st2_6, st2_7, clr_I, clr_R, clr_X, clr_L, clr_D, clr_N]
theorem C_Jx4a65c_grow_d5877 {l : Launch} {D : va_G} {cA : Nat → ClassId} {d : Nat} (hst : l.stackTraces = false) (hd : 7 ≤ d) : ∀ (as : List ab_V) (m : ab_M), Ctr l D cA d yJx4a65c_grow_d5877 (Cond.code yJx4a65c_grow_d5877 cJx4a65c_grow_d5877 1 (some (.array (.object "java/lang/Object"))) :: TB) as m (SP_Jx4a65c_grow_d5877 as m) := by
  intro as m
  refine ctr_of2 (by decide +kernel) hst (by omega) (snd_Jx4a65c_grow_d5877 (d' := 6) (hd9 := by omega) (hC_Jx4a65c_grow_92f84 := C_Jx4a65c_grow_92f84 hst (by omega))) mt_Jx4a65c_grow_d5877 ?_
  intro r hr
  unfold SP_Jx4a65c_grow_d5877 at hr
  split at hr
  · obtain ⟨hp, hr'⟩ := gd_some hr
    have h1 := hp
    have q := q_Jx4a65c_grow_d5877 h1 r hr'
    exact ⟨by show 1 ≤ 1; decide, q.1, q.2⟩
  · cases hr
/-- the list o with x at its place n -/
noncomputable def mPut (m : ab_M) (o x : Nat × Nat) (n : Nat) : ab_M := @ite _ (n = mn m (ela m o).1 (ela m o).2) (Classical.propDecidable _) (sI (sR (grM m o) (grA m o).1 (grA m o).2 n (some x)) o.1 o.2 2 (nN n + 1)) (sI (sR m (ela m o).1 (ela m o).2 n (some x)) o.1 o.2 2 (nN n + 1))
/-- what may be put there -/
def PUc (m : ab_M) (o x : Nat × Nat) (n : Nat) : Prop := (SK o.1 = 1 ∧ mr m o.1 o.2 1 = some (ela m o) ∧ SK (ela m o).1 = 104 ∧ mi m o.1 o.2 2 = nN n) ∧ ((SK x.1 = 9 ∨ SK x.1 = 10 ∨ SK x.1 = 100) ∧ 2 ≤ x.1) ∧ ((ela m o = (1, 0) ∧ mn m 1 0 = 0 ∧ n = 0) ∨ (mn m (ela m o).1 (ela m o).2 = 10 ∧ n = 10 ∧ ¬ ela m o = (1, 0) ∧ KDs m (ela m o)) ∨ (n < mn m (ela m o).1 (ela m o).2 ∧ mn m (ela m o).1 (ela m o).2 ≤ 1000 ∧ 2 ≤ (ela m o).1))
theorem mPut_mono {m : ab_M} {o x : Nat × Nat} {n : Nat} : mnc m ≤ mnc (mPut m o x n) ∧ mns m ≤ mns (mPut m o x n) := by
  unfold mPut
  split
  · exact grM_mono
  · exact ⟨Nat.le_refl _, Nat.le_refl _⟩
theorem inb_pos {n L : Nat} (h : n < L) (hL : L ≤ 1000) : inb (nN n) L := by rw [inb_nN (by omega)]; exact h
noncomputable def SP_Jx4a65c_add_72be8 : List ab_V → ab_M → ab_O := fun as m => match as with
  | [.inr (.inr (.inr (.inl (some o)))), .inr (.inr (.inr (.inl (some x)))), .inr (.inr (.inr (.inl (some e)))), .inl n] => gd ((e = ela m o) ∧ (PUc m o x n.toNatClampNeg) ∧ (n = nN n.toNatClampNeg)) ((ok0 (mPut m o x n.toNatClampNeg)))
  | _ => none
theorem e_Jx4a65c_add_72be8 {m : ab_M} {o : Nat × Nat} {x : Nat × Nat} {e : Nat × Nat} {n : Int32} (h1 : e = ela m o) (h2 : PUc m o x n.toNatClampNeg) (h3 : n = nN n.toNatClampNeg) : SP_Jx4a65c_add_72be8 [vR (some o), vR (some x), vR (some e), vI n] m = (ok0 (mPut m o x n.toNatClampNeg)) := gd_pos ⟨h1, h2, h3⟩
theorem q_Jx4a65c_add_72be8 {m : ab_M} {o : Nat × Nat} {x : Nat × Nat} {e : Nat × Nat} {n : Int32} (h1 : e = ela m o) (h2 : PUc m o x n.toNatClampNeg) (h3 : n = nN n.toNatClampNeg) : ∀ r : ab_R, (ok0 (mPut m o x n.toNatClampNeg)) = some r → (mnc m ≤ mnc (resM r) ∧ mns m ≤ mns (resM r)) ∧ ∀ K : ab_K, Closed (T_Jx4a65c_add_72be8 SP_Jx4a65c_grow_d5877) (fun r' => r' = r) K → run K (fun r' => r' = r) (T_Jx4a65c_add_72be8 SP_Jx4a65c_grow_d5877) 0 [some (vR (some o)), some (vR (some x)), some (vR (some e)), some (vI n)] [] m := by
  intro r hr; cases hr
  refine ⟨mPut_mono, fun K hK => ?_⟩
  subst h1
  generalize n.toNatClampNeg = j at *
  subst h3
  obtain ⟨⟨a1, a2, a3, a4⟩, a5, a6⟩ := h2
  have a7 : 100 ≤ SK (ela m o).1 := by rw [a3]; decide
  rcases a6 with ⟨b1, b2, b3⟩ | ⟨b1, b2, b3, b4⟩ | ⟨b1, b2, b3⟩
  · have c1 : mr m o.1 o.2 1 = some (1, 0) := by rw [a2, b1]
    have c2 : j = mn m (ela m o).1 (ela m o).2 := by rw [b1, b2, b3]
    have c3 : mPut m o x j = sI (sR (grM m o) (grA m o).1 (grA m o).2 j (some x)) o.1 o.2 2 (nN j + 1) := if_pos c2
    have c4 : mn (grM m o) 59 (mc m 59) = 10 := by rw [grM_1 c1, mn_sR, mn_al, u2_ap, if_pos ⟨rfl, rfl⟩]
    have e1 := e_Jx4a65c_grow_d5877 (m := m) (o := o) ⟨a1, Or.inl ⟨c1, b2, by rw [a4, b3]; rfl⟩⟩
    rw [c3] at hK ⊢
    rw [grA_1 c1] at e1 hK ⊢
    simp only at hK ⊢
    subst b3
    generalize grM m o = mg at *
    simp only [T_Jx4a65c_add_72be8, a1, a2, a3, a5, a7, b1, b2, e1, c4, show Int32.ofNat 0 = nN 0 from rfl, show (nN 0).toNatClampNeg = 0 from rfl, show inb (nN 0) 10 from inb_pos (by decide) (by decide), i10, Bool.false_eq_true, Bool.true_eq_false, Bool.not_true, Bool.not_false, ↓run_hit, ↓run_miss, ↓run_none, run_nil, ab_get0, ab_getS, if_true, if_false, if_pos, true_and, and_true, List.append_nil, List.nil_append, List.cons_append, List.length_cons, List.length_nil, List.take_succ_cons, List.take_zero, List.drop_succ_cons, List.drop_zero, List.reverse_cons, List.reverse_nil, List.map_nil, List.map_cons, List.sum_nil, List.sum_cons, rcv_some, rcv_999, wide_I, wide_L, wide_D, wide_R, wide_X, eq_self_iff_true, ite_true, ite_false, ↓reduceIte, Nat.reduceEqDiff, Nat.reduceLeDiff, Nat.reduceLT, Nat.reduceAdd, Nat.reduceMul, Nat.reduceBEq, decide_true, decide_false, and_self, or_self, or_true, true_or, false_or, or_false, and_false, false_and, not_false_eq_true, not_true_eq_false, Nat.zero_le, Nat.le_refl, Nat.add_eq_zero_iff, Nat.succ_ne_self, ↓s_const, ↓s_iload, ↓s_lload, ↓s_dload, ↓s_aload, ↓s_istore, ↓s_lstore, ↓s_dstore, ↓s_astore, ↓s_iinc, ↓s_bin, ↓s_div, ↓s_binL, ↓s_lcmp, ↓s_i2l, ↓s_i2d, ↓s_ddiv, ↓s_dcmpl, ↓s_goto, ↓s_ifeq, ↓s_iflt, ↓s_ifgt, ↓s_cmpeq, ↓s_cmplt, ↓s_cmpgt, ↓s_ifnull, ↓s_aeq, ↓s_pop, ↓s_dup, ↓s_dup2, ↓s_dupx1, ↓s_tab, ↓s_getI, ↓s_getR, ↓s_putI, ↓s_putZ, ↓s_putR, ↓s_ald, ↓s_ast, ↓s_zast, ↓s_lald, ↓s_last, ↓s_dald, ↓s_dast, ↓s_aald, ↓s_aast, ↓s_alen, ↓s_new, ↓s_newa, ↓s_multi, ↓s_cast, ↓s_getE, ↓s_obj, ↓s_mmin, ↓s_mmax, ↓s_hd, ↓s_call, ↓s_throw, ↓s_ret, ↓s_retL, ↓s_retD, ↓s_retA, ↓s_retV, mi_wI, mr_wI, mn_wI, mc_wI, sI_wI, u3_ap, mi_sI, mi_sR, mi_sL, mi_sD, mi_al, mi_bp, mr_sI, mr_sR, mr_sL, mr_sD, mr_al, mr_bp, ml_sI, ml_sR, ml_sL, ml_sD, ml_al, ml_bp, md_sI, md_sR, md_sL, md_sD, md_al, md_bp, mn_sI, mn_sR, mn_sL, mn_sD, mn_al, mn_bp, mc_sI, mc_sR, mc_sL, mc_sD, mc_al, mc_bp, mnc_sI, mnc_sR, mnc_sL, mnc_sD, mnc_al, mnc_bp, mns_sI, mns_sR, mns_sL, mns_sD, mns_al, mns_bp, SK_0, SK_1, SK_2, SK_3, SK_4, SK_5, SK_6, SK_7, SK_8, SK_9, SK_10, SK_11, SK_12, SK_13, SK_14, SK_15, SK_16, SK_17, SK_18, SK_19, SK_20, SK_21, SK_22, SK_23, SK_24, SK_25, SK_26, SK_27, SK_28, SK_29, SK_30, SK_31, SK_32, SK_33, SK_34, SK_35, SK_36, SK_37, SK_38, SK_39, SK_40, SK_41, SK_42, SK_43, SK_44, SK_45, SK_46, SK_47, SK_48, SK_49, SK_50, SK_51, SK_52, SK_53, SK_54, SK_55, SK_56, SK_57, SK_58, SK_59, SK_60, SK_61, SK_62, SK_63, SK_64, SK_65, st1_0, st1_1, st1_2, st1_3, st1_4, st1_5, st1_6, st1_7, st1_8, st2_0, st2_1, st2_2, st2_3, st2_4, st2_5, st2_6, st2_7, clr_I, clr_R, clr_X, clr_L, clr_D, clr_N]
    skip
  · have c1 : ¬ mr m o.1 o.2 1 = some (1, 0) := by rw [a2]; exact fun z => b3 (Option.some.inj z)
    have c2 : j = mn m (ela m o).1 (ela m o).2 := by rw [b1, b2]
    have c3 : mPut m o x j = sI (sR (grM m o) (grA m o).1 (grA m o).2 j (some x)) o.1 o.2 2 (nN j + 1) := if_pos c2
    have c4 : mn (grM m o) 65 (mc m 65) = 15 := by rw [grM_2 c1, mn_sR, mn_sC, mn_al, u2_ap, if_pos ⟨rfl, rfl⟩]
    have e1 := e_Jx4a65c_grow_d5877 (m := m) (o := o) ⟨a1, Or.inr ⟨⟨a1, a2, a3⟩, b1, by rw [a4, b2]; rfl, c1, b4⟩⟩
    rw [c3] at hK ⊢
    rw [grA_2 c1] at e1 hK ⊢
    simp only at hK ⊢
    subst b2
    generalize grM m o = mg at *
    simp only [T_Jx4a65c_add_72be8, a1, a2, a3, a5, a7, b1, e1, c4, show Int32.ofNat 10 = nN 10 from rfl, show (nN 10).toNatClampNeg = 10 from rfl, show inb (nN 10) 15 from inb_pos (by decide) (by decide), i10, Bool.false_eq_true, Bool.true_eq_false, Bool.not_true, Bool.not_false, ↓run_hit, ↓run_miss, ↓run_none, run_nil, ab_get0, ab_getS, if_true, if_false, if_pos, true_and, and_true, List.append_nil, List.nil_append, List.cons_append, List.length_cons, List.length_nil, List.take_succ_cons, List.take_zero, List.drop_succ_cons, List.drop_zero, List.reverse_cons, List.reverse_nil, List.map_nil, List.map_cons, List.sum_nil, List.sum_cons, rcv_some, rcv_999, wide_I, wide_L, wide_D, wide_R, wide_X, eq_self_iff_true, ite_true, ite_false, ↓reduceIte, Nat.reduceEqDiff, Nat.reduceLeDiff, Nat.reduceLT, Nat.reduceAdd, Nat.reduceMul, Nat.reduceBEq, decide_true, decide_false, and_self, or_self, or_true, true_or, false_or, or_false, and_false, false_and, not_false_eq_true, not_true_eq_false, Nat.zero_le, Nat.le_refl, Nat.add_eq_zero_iff, Nat.succ_ne_self, ↓s_const, ↓s_iload, ↓s_lload, ↓s_dload, ↓s_aload, ↓s_istore, ↓s_lstore, ↓s_dstore, ↓s_astore, ↓s_iinc, ↓s_bin, ↓s_div, ↓s_binL, ↓s_lcmp, ↓s_i2l, ↓s_i2d, ↓s_ddiv, ↓s_dcmpl, ↓s_goto, ↓s_ifeq, ↓s_iflt, ↓s_ifgt, ↓s_cmpeq, ↓s_cmplt, ↓s_cmpgt, ↓s_ifnull, ↓s_aeq, ↓s_pop, ↓s_dup, ↓s_dup2, ↓s_dupx1, ↓s_tab, ↓s_getI, ↓s_getR, ↓s_putI, ↓s_putZ, ↓s_putR, ↓s_ald, ↓s_ast, ↓s_zast, ↓s_lald, ↓s_last, ↓s_dald, ↓s_dast, ↓s_aald, ↓s_aast, ↓s_alen, ↓s_new, ↓s_newa, ↓s_multi, ↓s_cast, ↓s_getE, ↓s_obj, ↓s_mmin, ↓s_mmax, ↓s_hd, ↓s_call, ↓s_throw, ↓s_ret, ↓s_retL, ↓s_retD, ↓s_retA, ↓s_retV, mi_wI, mr_wI, mn_wI, mc_wI, sI_wI, u3_ap, mi_sI, mi_sR, mi_sL, mi_sD, mi_al, mi_bp, mr_sI, mr_sR, mr_sL, mr_sD, mr_al, mr_bp, ml_sI, ml_sR, ml_sL, ml_sD, ml_al, ml_bp, md_sI, md_sR, md_sL, md_sD, md_al, md_bp, mn_sI, mn_sR, mn_sL, mn_sD, mn_al, mn_bp, mc_sI, mc_sR, mc_sL, mc_sD, mc_al, mc_bp, mnc_sI, mnc_sR, mnc_sL, mnc_sD, mnc_al, mnc_bp, mns_sI, mns_sR, mns_sL, mns_sD, mns_al, mns_bp, SK_0, SK_1, SK_2, SK_3, SK_4, SK_5, SK_6, SK_7, SK_8, SK_9, SK_10, SK_11, SK_12, SK_13, SK_14, SK_15, SK_16, SK_17, SK_18, SK_19, SK_20, SK_21, SK_22, SK_23, SK_24, SK_25, SK_26, SK_27, SK_28, SK_29, SK_30, SK_31, SK_32, SK_33, SK_34, SK_35, SK_36, SK_37, SK_38, SK_39, SK_40, SK_41, SK_42, SK_43, SK_44, SK_45, SK_46, SK_47, SK_48, SK_49, SK_50, SK_51, SK_52, SK_53, SK_54, SK_55, SK_56, SK_57, SK_58, SK_59, SK_60, SK_61, SK_62, SK_63, SK_64, SK_65, st1_0, st1_1, st1_2, st1_3, st1_4, st1_5, st1_6, st1_7, st1_8, st2_0, st2_1, st2_2, st2_3, st2_4, st2_5, st2_6, st2_7, clr_I, clr_R, clr_X, clr_L, clr_D, clr_N]
    skip
  · have c2 : ¬ j = mn m (ela m o).1 (ela m o).2 := by omega
    have c3 : mPut m o x j = sI (sR m (ela m o).1 (ela m o).2 j (some x)) o.1 o.2 2 (nN j + 1) := if_neg c2
    have c5 : ¬ Int32.ofNat (mn m (ela m o).1 (ela m o).2) = nN j := by
      intro z
      exact c2 ((nN_inj (a := mn m (ela m o).1 (ela m o).2) (by omega) (by omega)).mp z).symm
    have c6 : ¬ nN j = Int32.ofNat (mn m (ela m o).1 (ela m o).2) := fun z => c5 z.symm
    rw [c3] at hK ⊢
    simp only [T_Jx4a65c_add_72be8, a1, a2, a3, a5, a7, b3, c5, c6, inb_pos b1 b2, nN_nat (show j < 2147483648 by omega), i10, Bool.false_eq_true, Bool.true_eq_false, Bool.not_true, Bool.not_false, ↓run_hit, ↓run_miss, ↓run_none, run_nil, ab_get0, ab_getS, if_true, if_false, if_pos, true_and, and_true, List.append_nil, List.nil_append, List.cons_append, List.length_cons, List.length_nil, List.take_succ_cons, List.take_zero, List.drop_succ_cons, List.drop_zero, List.reverse_cons, List.reverse_nil, List.map_nil, List.map_cons, List.sum_nil, List.sum_cons, rcv_some, rcv_999, wide_I, wide_L, wide_D, wide_R, wide_X, eq_self_iff_true, ite_true, ite_false, ↓reduceIte, Nat.reduceEqDiff, Nat.reduceLeDiff, Nat.reduceLT, Nat.reduceAdd, Nat.reduceMul, Nat.reduceBEq, decide_true, decide_false, and_self, or_self, or_true, true_or, false_or, or_false, and_false, false_and, not_false_eq_true, not_true_eq_false, Nat.zero_le, Nat.le_refl, Nat.add_eq_zero_iff, Nat.succ_ne_self, ↓s_const, ↓s_iload, ↓s_lload, ↓s_dload, ↓s_aload, ↓s_istore, ↓s_lstore, ↓s_dstore, ↓s_astore, ↓s_iinc, ↓s_bin, ↓s_div, ↓s_binL, ↓s_lcmp, ↓s_i2l, ↓s_i2d, ↓s_ddiv, ↓s_dcmpl, ↓s_goto, ↓s_ifeq, ↓s_iflt, ↓s_ifgt, ↓s_cmpeq, ↓s_cmplt, ↓s_cmpgt, ↓s_ifnull, ↓s_aeq, ↓s_pop, ↓s_dup, ↓s_dup2, ↓s_dupx1, ↓s_tab, ↓s_getI, ↓s_getR, ↓s_putI, ↓s_putZ, ↓s_putR, ↓s_ald, ↓s_ast, ↓s_zast, ↓s_lald, ↓s_last, ↓s_dald, ↓s_dast, ↓s_aald, ↓s_aast, ↓s_alen, ↓s_new, ↓s_newa, ↓s_multi, ↓s_cast, ↓s_getE, ↓s_obj, ↓s_mmin, ↓s_mmax, ↓s_hd, ↓s_call, ↓s_throw, ↓s_ret, ↓s_retL, ↓s_retD, ↓s_retA, ↓s_retV, mi_wI, mr_wI, mn_wI, mc_wI, sI_wI, u3_ap, mi_sI, mi_sR, mi_sL, mi_sD, mi_al, mi_bp, mr_sI, mr_sR, mr_sL, mr_sD, mr_al, mr_bp, ml_sI, ml_sR, ml_sL, ml_sD, ml_al, ml_bp, md_sI, md_sR, md_sL, md_sD, md_al, md_bp, mn_sI, mn_sR, mn_sL, mn_sD, mn_al, mn_bp, mc_sI, mc_sR, mc_sL, mc_sD, mc_al, mc_bp, mnc_sI, mnc_sR, mnc_sL, mnc_sD, mnc_al, mnc_bp, mns_sI, mns_sR, mns_sL, mns_sD, mns_al, mns_bp, SK_0, SK_1, SK_2, SK_3, SK_4, SK_5, SK_6, SK_7, SK_8, SK_9, SK_10, SK_11, SK_12, SK_13, SK_14, SK_15, SK_16, SK_17, SK_18, SK_19, SK_20, SK_21, SK_22, SK_23, SK_24, SK_25, SK_26, SK_27, SK_28, SK_29, SK_30, SK_31, SK_32, SK_33, SK_34, SK_35, SK_36, SK_37, SK_38, SK_39, SK_40, SK_41, SK_42, SK_43, SK_44, SK_45, SK_46, SK_47, SK_48, SK_49, SK_50, SK_51, SK_52, SK_53, SK_54, SK_55, SK_56, SK_57, SK_58, SK_59, SK_60, SK_61, SK_62, SK_63, SK_64, SK_65, st1_0, st1_1, st1_2, st1_3, st1_4, st1_5, st1_6, st1_7, st1_8, st2_0, st2_1, st2_2, st2_3, st2_4, st2_5, st2_6, st2_7, clr_I, clr_R, clr_X, clr_L, clr_D, clr_N]
    skip
theorem C_Jx4a65c_add_72be8 {l : Launch} {D : va_G} {cA : Nat → ClassId} {d : Nat} (hst : l.stackTraces = false) (hd : 8 ≤ d) : ∀ (as : List ab_V) (m : ab_M), Ctr l D cA d yJx4a65c_add_72be8 (Cond.code yJx4a65c_add_72be8 cJx4a65c_add_72be8 4 none :: TB) as m (SP_Jx4a65c_add_72be8 as m) := by
  intro as m
  refine ctr_of2 (by decide +kernel) hst (by omega) (snd_Jx4a65c_add_72be8 (d' := 7) (hd9 := by omega) (hC_Jx4a65c_grow_d5877 := C_Jx4a65c_grow_d5877 hst (by omega))) mt_Jx4a65c_add_72be8 ?_
  intro r hr
  unfold SP_Jx4a65c_add_72be8 at hr
  split at hr
  · obtain ⟨hp, hr'⟩ := gd_some hr
    obtain ⟨h1, h2, h3⟩ := hp
    have q := q_Jx4a65c_add_72be8 h1 h2 h3 r hr'
    exact ⟨by show 4 ≤ 4; decide, q.1, q.2⟩
  · cases hr
noncomputable def SP_Jx4a65c_add_9ea2d : List ab_V → ab_M → ab_O := fun as m => match as with
  | [.inr (.inr (.inr (.inl (some o)))), .inr (.inr (.inr (.inl (some x))))] => gd ((PUc m o x (mi m o.1 o.2 2).toNatClampNeg)) ((okV (vI 1) (mPut (sI m o.1 o.2 0 (mi m o.1 o.2 0 + 1)) o x (mi m o.1 o.2 2).toNatClampNeg)))
  | _ => none
theorem e_Jx4a65c_add_9ea2d {m : ab_M} {o : Nat × Nat} {x : Nat × Nat} (h1 : PUc m o x (mi m o.1 o.2 2).toNatClampNeg) : SP_Jx4a65c_add_9ea2d [vR (some o), vR (some x)] m = (okV (vI 1) (mPut (sI m o.1 o.2 0 (mi m o.1 o.2 0 + 1)) o x (mi m o.1 o.2 2).toNatClampNeg)) := gd_pos h1
theorem q_Jx4a65c_add_9ea2d {m : ab_M} {o : Nat × Nat} {x : Nat × Nat} (h1 : PUc m o x (mi m o.1 o.2 2).toNatClampNeg) : ∀ r : ab_R, (okV (vI 1) (mPut (sI m o.1 o.2 0 (mi m o.1 o.2 0 + 1)) o x (mi m o.1 o.2 2).toNatClampNeg)) = some r → (mnc m ≤ mnc (resM r) ∧ mns m ≤ mns (resM r)) ∧ ∀ K : ab_K, Closed (T_Jx4a65c_add_9ea2d SP_Jx4a65c_add_72be8) (fun r' => r' = r) K → run K (fun r' => r' = r) (T_Jx4a65c_add_9ea2d SP_Jx4a65c_add_72be8) 0 [some (vR (some o)), some (vR (some x))] [] m := by
  intro r hr; cases hr
  refine ⟨mPut_mono (m := sI m o.1 o.2 0 (mi m o.1 o.2 0 + 1)), fun K hK => ?_⟩
  obtain ⟨⟨a1, a2, a3, a4⟩, a5, a6⟩ := id h1
  have ee : ela (sI m o.1 o.2 0 (mi m o.1 o.2 0 + 1)) o = ela m o := rfl
  have h20 : mi (sI m o.1 o.2 0 (mi m o.1 o.2 0 + 1)) o.1 o.2 2 = mi m o.1 o.2 2 := if_neg (fun z => by have := z.2.2; omega)
  have hB : (mi m o.1 o.2 2).toNatClampNeg < 2147483648 := by
    have := (inb_eq (x := mi m o.1 o.2 2) (L := 2147483648) (by
      rcases a6 with b | b | b
      · rw [a4, inb_nN (by omega)]; omega
      · rw [a4, inb_nN (by omega)]; omega
      · rw [a4, inb_nN (by omega)]; omega)).2
    exact this
  have e1 := e_Jx4a65c_add_72be8 (m := sI m o.1 o.2 0 (mi m o.1 o.2 0 + 1)) (o := o) (x := x) (e := ela m o) (n := mi m o.1 o.2 2) rfl ⟨⟨a1, a2, a3, by rw [h20]; exact a4⟩, a5, a6⟩ a4
  generalize mPut (sI m o.1 o.2 0 (mi m o.1 o.2 0 + 1)) o x (mi m o.1 o.2 2).toNatClampNeg = mf at *
  simp only [T_Jx4a65c_add_9ea2d, a1, a2, e1, h20, i10, Bool.false_eq_true, Bool.true_eq_false, Bool.not_true, Bool.not_false, ↓run_hit, ↓run_miss, ↓run_none, run_nil, ab_get0, ab_getS, if_true, if_false, if_pos, true_and, and_true, List.append_nil, List.nil_append, List.cons_append, List.length_cons, List.length_nil, List.take_succ_cons, List.take_zero, List.drop_succ_cons, List.drop_zero, List.reverse_cons, List.reverse_nil, List.map_nil, List.map_cons, List.sum_nil, List.sum_cons, rcv_some, rcv_999, wide_I, wide_L, wide_D, wide_R, wide_X, eq_self_iff_true, ite_true, ite_false, ↓reduceIte, Nat.reduceEqDiff, Nat.reduceLeDiff, Nat.reduceLT, Nat.reduceAdd, Nat.reduceMul, Nat.reduceBEq, decide_true, decide_false, and_self, or_self, or_true, true_or, false_or, or_false, and_false, false_and, not_false_eq_true, not_true_eq_false, Nat.zero_le, Nat.le_refl, Nat.add_eq_zero_iff, Nat.succ_ne_self, ↓s_const, ↓s_iload, ↓s_lload, ↓s_dload, ↓s_aload, ↓s_istore, ↓s_lstore, ↓s_dstore, ↓s_astore, ↓s_iinc, ↓s_bin, ↓s_div, ↓s_binL, ↓s_lcmp, ↓s_i2l, ↓s_i2d, ↓s_ddiv, ↓s_dcmpl, ↓s_goto, ↓s_ifeq, ↓s_iflt, ↓s_ifgt, ↓s_cmpeq, ↓s_cmplt, ↓s_cmpgt, ↓s_ifnull, ↓s_aeq, ↓s_pop, ↓s_dup, ↓s_dup2, ↓s_dupx1, ↓s_tab, ↓s_getI, ↓s_getR, ↓s_putI, ↓s_putZ, ↓s_putR, ↓s_ald, ↓s_ast, ↓s_zast, ↓s_lald, ↓s_last, ↓s_dald, ↓s_dast, ↓s_aald, ↓s_aast, ↓s_alen, ↓s_new, ↓s_newa, ↓s_multi, ↓s_cast, ↓s_getE, ↓s_obj, ↓s_mmin, ↓s_mmax, ↓s_hd, ↓s_call, ↓s_throw, ↓s_ret, ↓s_retL, ↓s_retD, ↓s_retA, ↓s_retV, mi_wI, mr_wI, mn_wI, mc_wI, sI_wI, u3_ap, mi_sI, mi_sR, mi_sL, mi_sD, mi_al, mi_bp, mr_sI, mr_sR, mr_sL, mr_sD, mr_al, mr_bp, ml_sI, ml_sR, ml_sL, ml_sD, ml_al, ml_bp, md_sI, md_sR, md_sL, md_sD, md_al, md_bp, mn_sI, mn_sR, mn_sL, mn_sD, mn_al, mn_bp, mc_sI, mc_sR, mc_sL, mc_sD, mc_al, mc_bp, mnc_sI, mnc_sR, mnc_sL, mnc_sD, mnc_al, mnc_bp, mns_sI, mns_sR, mns_sL, mns_sD, mns_al, mns_bp, SK_0, SK_1, SK_2, SK_3, SK_4, SK_5, SK_6, SK_7, SK_8, SK_9, SK_10, SK_11, SK_12, SK_13, SK_14, SK_15, SK_16, SK_17, SK_18, SK_19, SK_20, SK_21, SK_22, SK_23, SK_24, SK_25, SK_26, SK_27, SK_28, SK_29, SK_30, SK_31, SK_32, SK_33, SK_34, SK_35, SK_36, SK_37, SK_38, SK_39, SK_40, SK_41, SK_42, SK_43, SK_44, SK_45, SK_46, SK_47, SK_48, SK_49, SK_50, SK_51, SK_52, SK_53, SK_54, SK_55, SK_56, SK_57, SK_58, SK_59, SK_60, SK_61, SK_62, SK_63, SK_64, SK_65, st1_0, st1_1, st1_2, st1_3, st1_4, st1_5, st1_6, st1_7, st1_8, st2_0, st2_1, st2_2, st2_3, st2_4, st2_5, st2_6, st2_7, clr_I, clr_R, clr_X, clr_L, clr_D, clr_N]
theorem C_Jx4a65c_add_9ea2d {l : Launch} {D : va_G} {cA : Nat → ClassId} {d : Nat} (hst : l.stackTraces = false) (hd : 9 ≤ d) : ∀ (as : List ab_V) (m : ab_M), Ctr l D cA d yJx4a65c_add_9ea2d (Cond.code yJx4a65c_add_9ea2d cJx4a65c_add_9ea2d 2 (some .boolean) :: TB) as m (SP_Jx4a65c_add_9ea2d as m) := by
  intro as m
  refine ctr_of2 (by decide +kernel) hst (by omega) (snd_Jx4a65c_add_9ea2d (d' := 8) (hd9 := by omega) (hC_Jx4a65c_add_72be8 := C_Jx4a65c_add_72be8 hst (by omega))) mt_Jx4a65c_add_9ea2d ?_
  intro r hr
  unfold SP_Jx4a65c_add_9ea2d at hr
  split at hr
  · obtain ⟨hp, hr'⟩ := gd_some hr
    have h1 := hp
    have q := q_Jx4a65c_add_9ea2d h1 r hr'
    exact ⟨by show 2 ≤ 2; decide, q.1, q.2⟩
  · cases hr
