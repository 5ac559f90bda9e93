/-! the reference's constructors -/
def mPerson (m : ab_M) (o : Nat) (t k h : Int32) : ab_M := sI (sI (sI (sR (al (sR (al (sI (sI m 48 o 3 60) 48 o 4 1) 41 10 10) 48 o 9 (some (41, mc m 41))) 42 10 10) 48 o 10 (some (42, mc m 42))) 48 o 0 t) 48 o 1 k) 48 o 5 h
noncomputable def SP_X7_init : List ab_V → ab_M → ab_O := fun as m => match as with
  | [.inr (.inr (.inr (.inl (some o)))), .inl t, .inl k, .inl h] => gd ((o.1 = 48)) ((ok0 (mPerson m o.2 t k h)))
  | _ => none
theorem e_X7_init {m : ab_M} {o : Nat × Nat} {t : Int32} {k : Int32} {h : Int32} (h1 : o.1 = 48) : SP_X7_init [vR (some o), vI t, vI k, vI h] m = (ok0 (mPerson m o.2 t k h)) := gd_pos h1
theorem q_X7_init {m : ab_M} {o : Nat × Nat} {t : Int32} {k : Int32} {h : Int32} (h1 : o.1 = 48) : ∀ r : ab_R, (ok0 (mPerson m o.2 t k h)) = some r → (mnc m ≤ mnc (resM r) ∧ mns m ≤ mns (resM r)) ∧ ∀ K : ab_K, Closed T_X7_init (fun r' => r' = r) K → run K (fun r' => r' = r) T_X7_init 0 [some (vR (some o)), some (vI t), some (vI k), some (vI h)] [] m := by
  obtain ⟨s, o⟩ := o
  simp only at h1
  subst h1
  intro r hr; cases hr
  refine ⟨by simp only [resM, mPerson, mnc_sI, mns_sI, mnc_sR, mns_sR, mnc_al, mns_al]; omega, fun K hK => ?_⟩
  simp only [T_X7_init, i10n, i10p, i10, Bool.false_eq_true, Bool.true_eq_false, Bool.not_true, Bool.not_false, ↓run_hit, ↓run_miss, ↓run_none, run_nil, ab_get0, ab_getS, if_true, if_false, if_pos, true_and, and_true, List.append_nil, List.nil_append, List.cons_append, List.length_cons, List.length_nil, List.take_succ_cons, List.take_zero, List.drop_succ_cons, List.drop_zero, List.reverse_cons, List.reverse_nil, List.map_nil, List.map_cons, List.sum_nil, List.sum_cons, rcv_some, rcv_999, wide_I, wide_L, wide_D, wide_R, wide_X, eq_self_iff_true, ite_true, ite_false, ↓reduceIte, Nat.reduceEqDiff, Nat.reduceLeDiff, Nat.reduceLT, Nat.reduceAdd, Nat.reduceMul, Nat.reduceBEq, decide_true, decide_false, and_self, or_self, or_true, true_or, false_or, or_false, and_false, false_and, not_false_eq_true, not_true_eq_false, Nat.zero_le, Nat.le_refl, Nat.add_eq_zero_iff, Nat.succ_ne_self, ↓s_const, ↓s_iload, ↓s_lload, ↓s_dload, ↓s_aload, ↓s_istore, ↓s_lstore, ↓s_dstore, ↓s_astore, ↓s_iinc, ↓s_bin, ↓s_div, ↓s_binL, ↓s_lcmp, ↓s_i2l, ↓s_i2d, ↓s_ddiv, ↓s_dcmpl, ↓s_goto, ↓s_ifeq, ↓s_iflt, ↓s_ifgt, ↓s_cmpeq, ↓s_cmplt, ↓s_cmpgt, ↓s_ifnull, ↓s_aeq, ↓s_pop, ↓s_dup, ↓s_dup2, ↓s_dupx1, ↓s_tab, ↓s_getI, ↓s_getR, ↓s_putI, ↓s_putZ, ↓s_putR, ↓s_ald, ↓s_ast, ↓s_zast, ↓s_lald, ↓s_last, ↓s_dald, ↓s_dast, ↓s_aald, ↓s_aast, ↓s_alen, ↓s_new, ↓s_newa, ↓s_multi, ↓s_cast, ↓s_getE, ↓s_obj, ↓s_mmin, ↓s_mmax, ↓s_hd, ↓s_call, ↓s_throw, ↓s_ret, ↓s_retL, ↓s_retD, ↓s_retA, ↓s_retV, mi_wI, mr_wI, mn_wI, mc_wI, sI_wI, u3_ap, mi_sI, mi_sR, mi_sL, mi_sD, mi_al, mi_bp, mr_sI, mr_sR, mr_sL, mr_sD, mr_al, mr_bp, ml_sI, ml_sR, ml_sL, ml_sD, ml_al, ml_bp, md_sI, md_sR, md_sL, md_sD, md_al, md_bp, mn_sI, mn_sR, mn_sL, mn_sD, mn_al, mn_bp, mc_sI, mc_sR, mc_sL, mc_sD, mc_al, mc_bp, mnc_sI, mnc_sR, mnc_sL, mnc_sD, mnc_al, mnc_bp, mns_sI, mns_sR, mns_sL, mns_sD, mns_al, mns_bp, SK_0, SK_1, SK_2, SK_3, SK_4, SK_5, SK_6, SK_7, SK_8, SK_9, SK_10, SK_11, SK_12, SK_13, SK_14, SK_15, SK_16, SK_17, SK_18, SK_19, SK_20, SK_21, SK_22, SK_23, SK_24, SK_25, SK_26, SK_27, SK_28, SK_29, SK_30, SK_31, SK_32, SK_33, SK_34, SK_35, SK_36, SK_37, SK_38, SK_39, SK_40, SK_41, SK_42, SK_43, SK_44, SK_45, SK_46, SK_47, SK_48, SK_49, SK_50, SK_51, SK_52, SK_53, SK_54, SK_55, SK_56, SK_57, SK_58, SK_59, SK_60, SK_61, SK_62, SK_63, SK_64, SK_65, st1_0, st1_1, st1_2, st1_3, st1_4, st1_5, st1_6, st1_7, st1_8, st2_0, st2_1, st2_2, st2_3, st2_4, st2_5, st2_6, st2_7, clr_I, clr_R, clr_X, clr_L, clr_D, clr_N]
  rfl
theorem C_X7_init {l : Launch} {D : va_G} {cA : Nat → ClassId} {d : Nat} (hst : l.stackTraces = false) (hd : 1 ≤ d) : ∀ (as : List ab_V) (m : ab_M), Ctr l D cA d yX7_init (Cond.code yX7_init cX7_init 4 none :: TB) as m (SP_X7_init as m) := by
  intro as m
  refine ctr_of2 (by decide +kernel) hst (by omega) (snd_X7_init) mt_X7_init ?_
  intro r hr
  unfold SP_X7_init at hr
  split at hr
  · obtain ⟨hp, hr'⟩ := gd_some hr
    have h1 := hp
    have q := q_X7_init h1 r hr'
    exact ⟨by show 4 ≤ 4; decide, q.1, q.2⟩
  · cases hr
