/-! for-each over a list -/
theorem gto_fo {T : ab_T} {σ : Type} {f : Nat → σ → σ} {s : σ} {pc : Nat} {L : Nat → σ → ab_L} {I : Nat → ab_M → Prop} {n : Nat} (hs : ∀ i M, i < n → I i M → ∃ M', I (i + 1) M' ∧ gto T pc (L i (fo f s i)) [] M pc (L (i + 1) (f i (fo f s i))) [] M') (M : ab_M) (h0 : I 0 M) : ∃ M', I n M' ∧ gto T pc (L 0 s) [] M pc (L n (fo f s n)) [] M' := by
  have h : ∀ k, k ≤ n → ∃ M', I k M' ∧ gto T pc (L 0 s) [] M pc (L k (fo f s k)) [] M' := by
    intro k
    induction k with
    | zero => intro _; exact ⟨M, h0, gto.refl⟩
    | succ k ih =>
      intro hk
      obtain ⟨M1, i1, g1⟩ := ih (by omega)
      obtain ⟨M2, i2, g2⟩ := hs k M1 (by omega) i1
      exact ⟨M2, i2, g1.trans g2⟩
  exact h n (Nat.le_refl _)
/-- the iterator (60, j) of the list s, at its place i; since m only such cells are new -/
def IT (m M : ab_M) (s j i : Nat) : Prop := GB m M 1 4 ∧ mc m 60 ≤ j ∧ mr M 60 j 3 = some (s, 0) ∧ mi M 60 j 0 = nN i ∧ mi M 60 j 2 = mi m s 0 0
theorem it_start {m : ab_M} {s : Nat} (hs : SK s = 1) : ∃ M, SP_Jx4a65c_iterator_32c93 [vA s 0] m = okV (vA 60 (mc m 60)) M ∧ IT m M s (mc m 60) 0 := by
  have hne : s ≠ 60 := by rintro rfl; cases hs
  refine ⟨_, e_Jx4a65c_iterator_32c93 (m := m) (o := (s, 0)) hs, ?_⟩
  refine ⟨((((GB.oal (s := 60) (L := 0) (w := NF 0) rfl).oR rfl (Nat.le_refl _)).oI rfl (Nat.le_refl _)).oI rfl (Nat.le_refl _)), Nat.le_refl _, ?_, ?_, ?_⟩
  · exact if_pos ⟨rfl, rfl, rfl⟩
  · show mi _ 60 (mc m 60) 0 = nN 0
    rw [mi_sI, u3_ap, if_neg (fun z => absurd z.2.2 (by decide)), mi_sI, u3_ap, if_neg (fun z => absurd z.2.2 (by decide)), mi_sR, mi_al, u2_ap, if_pos ⟨rfl, rfl⟩]
    rfl
  · rw [mi_sI, u3_ap, if_pos ⟨rfl, rfl, rfl⟩]
    show mi (al m 60 0 (NF 0)) s 0 0 = _
    rw [mi_al, u2_ap, if_neg (fun z => hne z.1)]
theorem isS_SK {s : Nat} (h : isS s) : SK s = 1 ∧ gbS s = false ∧ s ≠ 60 := by
  rcases h with rfl | rfl | rfl | rfl <;> exact ⟨rfl, rfl, by decide⟩
theorem IT.iI {m M : ab_M} {s j i : Nat} (h : IT m M s j i) : isI M (60, j) ∧ itl M (60, j) = (s, 0) := by
  have e : itl M (60, j) = (s, 0) := by unfold itl; rw [show mr M (60, j).1 (60, j).2 3 = some (s, 0) from h.2.2.1]; rfl
  exact ⟨⟨rfl, by rw [e]; exact h.2.2.1⟩, e⟩
theorem it_has {m M : ab_M} {s j i n : Nat} {f : Nat → Nat × Nat} (h : IT m M s j i) (hs : isS s) (hL : Rls m s n f) (hn : n ≤ 12) (hi : i < n) : SP_Jx35411_hasNext_aae02 [vA 60 j] M = okV (vI 1) M := by
  obtain ⟨k1, k2, k3⟩ := isS_SK hs
  have e := e_Jx35411_hasNext_aae02 (m := M) (o := (60, j)) h.iI.1 (by rw [h.iI.2]; exact k1)
  rw [h.iI.2] at e
  simp only at e
  rw [h.2.2.2.1, h.1.gmi k2, hL.2.1, if_neg (by rw [nN_inj (by omega) (by omega)]; omega)] at e
  exact e
theorem it_end {m M : ab_M} {s j n : Nat} {f : Nat → Nat × Nat} (h : IT m M s j n) (hs : isS s) (hL : Rls m s n f) : SP_Jx35411_hasNext_aae02 [vA 60 j] M = okV (vI 0) M := by
  obtain ⟨k1, k2, k3⟩ := isS_SK hs
  have e := e_Jx35411_hasNext_aae02 (m := M) (o := (60, j)) h.iI.1 (by rw [h.iI.2]; exact k1)
  rw [h.iI.2] at e
  simp only at e
  rw [h.2.2.2.1, h.1.gmi k2, hL.2.1, if_pos rfl] at e
  exact e
theorem it_next {m M : ab_M} {s j i n : Nat} {f : Nat → Nat × Nat} (h : IT m M s j i) (hs : isS s) (hL : Rls m s n f) (hn : n ≤ 12) (hi : i < n) : ∃ M', SP_Jx35411_next_0502b [vA 60 j] M = okV (vR (some (f i))) M' ∧ IT m M' s j (i + 1) := by
  obtain ⟨k1, k2, k3⟩ := isS_SK hs
  obtain ⟨⟨l1, l2, l3⟩, l4, l5, l6, l7⟩ := id hL
  have k4 := SK104 l3
  have ee : ela M (s, 0) = ela m (s, 0) := by unfold ela; rw [h.1.gmr k2]
  have iL : isL M (s, 0) := ⟨l1, by rw [ee, h.1.gmr k2]; exact l2, by rw [ee]; exact l3⟩
  have hB : i < 2147483648 := by omega
  have c1 : mn M (ela M (s, 0)).1 (ela M (s, 0)).2 = mn m (ela m (s, 0)).1 (ela m (s, 0)).2 := by rw [ee, h.1.gmn k4]
  have e := e_Jx35411_next_0502b (m := M) (o := (60, j)) h.iI.1 (by rw [h.iI.2]; exact iL) (by rw [h.iI.2]; exact (h.1.gmi k2).trans h.2.2.2.2.symm)
    (by rw [h.iI.2]; show mi M 60 j 0 < mi M s 0 2; rw [h.2.2.2.1, h.1.gmi k2, l4, nN_lt hB (by omega)]; exact hi)
    (by rw [h.iI.2]; show inb (mi M 60 j 0) _; rw [h.2.2.2.1, c1, inb_nN hB]; omega)
    (by rw [h.iI.2]; show mi M 60 j 0 < nN _; rw [h.2.2.2.1, c1, nN_lt hB (by omega)]; omega)
  rw [h.iI.2] at e
  simp only at e
  rw [h.2.2.2.1, nN_nat hB, ee, h.1.gmr k4, l7 i hi] at e
  refine ⟨_, e, ⟨(h.1.oI rfl h.2.1).oI rfl h.2.1, h.2.1, h.2.2.1, ?_, ?_⟩⟩
  · rw [mi_sI, u3_ap, if_neg (fun z => absurd z.2.2 (by decide)), mi_sI, u3_ap, if_pos ⟨rfl, rfl, rfl⟩, nN_succ]
  · rw [mi_sI, u3_ap, if_neg (fun z => absurd z.2.2 (by decide)), mi_sI, u3_ap, if_neg (fun z => absurd z.2.2 (by decide))]
    exact h.2.2.2.2
def fRp (c : ab_C) (p : Int32) : Nat → Int32 → Int32 := fun i a => if c 13 0 i = 0 then a + z01 0 else if c 5 0 i = p then a + z01 1 else a + z01 0
def rPupils (c : ab_C) (p : Int32) : Int32 := fo (fRp c p) 0 (np c)
noncomputable def SP_X9_pupils : List ab_V → ab_M → ab_O := fun as m => chs (T_X9_pupils SP_Jx4a65c_iterator_32c93 SP_Jx35411_hasNext_aae02 SP_Jx35411_next_0502b SP_X9_one) 5 as m (fun r => match as with
  | [_, .inl p] => ∃ (m' : ab_M), (okV (vI (rPupils (rc m) p)) m' : ab_O) = some r ∧ (GB m m' 1 4)
  | _ => False)
theorem w_X9_pupils {m : ab_M} {p : Int32} (r : ab_R) (hmono : mnc m ≤ mnc (resM r) ∧ mns m ≤ mns (resM r)) (hp : ∃ (m' : ab_M), (okV (vI (rPupils (rc m) p)) m' : ab_O) = some r ∧ (GB m m' 1 4)) (hK : ∀ K : ab_K, Closed (T_X9_pupils SP_Jx4a65c_iterator_32c93 SP_Jx35411_hasNext_aae02 SP_Jx35411_next_0502b SP_X9_one) (fun r' => r' = r) K → K 0 [some (vA 62 0), some (vI p), none, none, none] [] m) : ∃ r, ((eL [vA 62 0, vI p]).length ≤ 5 ∧ (mnc m ≤ mnc (resM r) ∧ mns m ≤ mns (resM r)) ∧ Comes_to (T_X9_pupils SP_Jx4a65c_iterator_32c93 SP_Jx35411_hasNext_aae02 SP_Jx35411_next_0502b SP_X9_one) (entry 5 [vA 62 0, vI p]) m r) ∧ ∃ (m' : ab_M), (okV (vI (rPupils (rc m) p)) m' : ab_O) = some r ∧ (GB m m' 1 4) := ⟨r, ⟨by show 2 ≤ 5; decide, hmono, hK⟩, hp⟩
theorem q_X9_pupils {m : ab_M} {p : Int32} (h1 : RM m) : ∃ r, ((eL [vA 62 0, vI p]).length ≤ 5 ∧ (mnc m ≤ mnc (resM r) ∧ mns m ≤ mns (resM r)) ∧ Comes_to (T_X9_pupils SP_Jx4a65c_iterator_32c93 SP_Jx35411_hasNext_aae02 SP_Jx35411_next_0502b SP_X9_one) (entry 5 [vA 62 0, vI p]) m r) ∧ ∃ (m' : ab_M), (okV (vI (rPupils (rc m) p)) m' : ab_O) = some r ∧ (GB m m' 1 4) := by
  have a1 := h1.1.1
  have h12 := h1.2.1.2
  have hL := h1.2.1.1
  have h44 : isS 44 := Or.inl rfl
  obtain ⟨M0, e0, i0⟩ := it_start (m := m) (s := 44) rfl
  generalize mc m 60 = j at *
  obtain ⟨M', i', g⟩ := gto_fo (T := T_X9_pupils SP_Jx4a65c_iterator_32c93 SP_Jx35411_hasNext_aae02 SP_Jx35411_next_0502b SP_X9_one) (f := fRp (rc m) p) (s := 0) (pc := 10) (n := np (rc m)) (I := fun i M => IT m M 44 j i) (L := fun _ a => [some (vA 62 0), some (vI p), some (vI a), some (vA 60 j), none]) (by
    intro i M hi hM
    obtain ⟨M1, e1, i1⟩ := it_next hM h44 hL h12 hi
    refine ⟨M1, i1, fun R K hK hk => ?_⟩
    have e2 := it_has hM h44 hL h12 hi
    have cut : ∀ v, K 10 [some (vA 62 0), some (vI p), some (vI (fRp (rc m) p i (fo (fRp (rc m) p) 0 i))), some (vA 60 j), v] [] M1 := fun v => by
      refine hK.2 10 _ _ _ _ ?_ hk
      repeat (first | exact le_nil | apply le_c | apply le_n)
    clear hk
    generalize fo (fRp (rc m) p) 0 i = a at cut ⊢
    simp only [fRp] at cut
    have q4 : mi M1 48 i 4 = rc m 13 0 i := i1.1.gmi rfl
    have q0 : mi M1 48 i 0 = rc m 5 0 i := i1.1.gmi rfl
    refine run_sound hK mt_X9_pupils (T_X9_pupils_10 SP_Jx4a65c_iterator_32c93 SP_Jx35411_hasNext_aae02 SP_Jx35411_next_0502b SP_X9_one) (fun x hx => List.mem_append_right _ hx) _ _ _ _ ?_
    simp only [T_X9_pupils_10, e1, e2, q4, q0, e_X9_one trivial, i10, Bool.false_eq_true, Bool.true_eq_false, Bool.not_true, Bool.not_false, ↓run_hit, ↓run_miss, ↓run_none, run_nil, ab_get0, ab_getS, if_true, if_false, if_pos, true_and, and_true, List.append_nil, List.nil_append, List.cons_append, List.length_cons, List.length_nil, List.take_succ_cons, List.take_zero, List.drop_succ_cons, List.drop_zero, List.reverse_cons, List.reverse_nil, List.map_nil, List.map_cons, List.sum_nil, List.sum_cons, rcv_some, rcv_999, wide_I, wide_L, wide_D, wide_R, wide_X, eq_self_iff_true, ite_true, ite_false, ↓reduceIte, Nat.reduceEqDiff, Nat.reduceLeDiff, Nat.reduceLT, Nat.reduceAdd, Nat.reduceMul, Nat.reduceBEq, decide_true, decide_false, and_self, or_self, or_true, true_or, false_or, or_false, and_false, false_and, not_false_eq_true, not_true_eq_false, Nat.zero_le, Nat.le_refl, Nat.add_eq_zero_iff, Nat.succ_ne_self, ↓s_const, ↓s_iload, ↓s_lload, ↓s_dload, ↓s_aload, ↓s_istore, ↓s_lstore, ↓s_dstore, ↓s_astore, ↓s_iinc, ↓s_bin, ↓s_div, ↓s_binL, ↓s_lcmp, ↓s_i2l, ↓s_i2d, ↓s_ddiv, ↓s_dcmpl, ↓s_goto, ↓s_ifeq, ↓s_iflt, ↓s_ifgt, ↓s_cmpeq, ↓s_cmplt, ↓s_cmpgt, ↓s_ifnull, ↓s_aeq, ↓s_pop, ↓s_dup, ↓s_dup2, ↓s_dupx1, ↓s_tab, ↓s_getI, ↓s_getR, ↓s_putI, ↓s_putZ, ↓s_putR, ↓s_ald, ↓s_ast, ↓s_zast, ↓s_lald, ↓s_last, ↓s_dald, ↓s_dast, ↓s_aald, ↓s_aast, ↓s_alen, ↓s_new, ↓s_newa, ↓s_multi, ↓s_cast, ↓s_getE, ↓s_obj, ↓s_mmin, ↓s_mmax, ↓s_hd, ↓s_call, ↓s_throw, ↓s_ret, ↓s_retL, ↓s_retD, ↓s_retA, ↓s_retV, mi_wI, mr_wI, mn_wI, mc_wI, sI_wI, u3_ap, mi_sI, mi_sR, mi_sL, mi_sD, mi_al, mi_bp, mr_sI, mr_sR, mr_sL, mr_sD, mr_al, mr_bp, ml_sI, ml_sR, ml_sL, ml_sD, ml_al, ml_bp, md_sI, md_sR, md_sL, md_sD, md_al, md_bp, mn_sI, mn_sR, mn_sL, mn_sD, mn_al, mn_bp, mc_sI, mc_sR, mc_sL, mc_sD, mc_al, mc_bp, mnc_sI, mnc_sR, mnc_sL, mnc_sD, mnc_al, mnc_bp, mns_sI, mns_sR, mns_sL, mns_sD, mns_al, mns_bp, SK_0, SK_1, SK_2, SK_3, SK_4, SK_5, SK_6, SK_7, SK_8, SK_9, SK_10, SK_11, SK_12, SK_13, SK_14, SK_15, SK_16, SK_17, SK_18, SK_19, SK_20, SK_21, SK_22, SK_23, SK_24, SK_25, SK_26, SK_27, SK_28, SK_29, SK_30, SK_31, SK_32, SK_33, SK_34, SK_35, SK_36, SK_37, SK_38, SK_39, SK_40, SK_41, SK_42, SK_43, SK_44, SK_45, SK_46, SK_47, SK_48, SK_49, SK_50, SK_51, SK_52, SK_53, SK_54, SK_55, SK_56, SK_57, SK_58, SK_59, SK_60, SK_61, SK_62, SK_63, SK_64, SK_65, st1_0, st1_1, st1_2, st1_3, st1_4, st1_5, st1_6, st1_7, st1_8, st2_0, st2_1, st2_2, st2_3, st2_4, st2_5, st2_6, st2_7, clr_I, clr_R, clr_X, clr_L, clr_D, clr_N]
    repeat' split
    all_goals (simp_all only [if_true, if_false])) M0 i0
  refine w_X9_pupils (.inl ([vI (rPupils (rc m) p)], M')) i'.1.2.2.1 ⟨M', rfl, i'.1⟩ (fun K hK => ?_)
  have e3 := it_end i' h44 hL
  have fin : K 10 [some (vA 62 0), some (vI p), some (vI (rPupils (rc m) p)), some (vA 60 j), none] [] M' := by
    refine run_sound hK mt_X9_pupils (T_X9_pupils_10 SP_Jx4a65c_iterator_32c93 SP_Jx35411_hasNext_aae02 SP_Jx35411_next_0502b SP_X9_one) (fun x hx => List.mem_append_right _ hx) _ _ _ _ ?_
    simp only [T_X9_pupils_10, e3, i10, Bool.false_eq_true, Bool.true_eq_false, Bool.not_true, Bool.not_false, ↓run_hit, ↓run_miss, ↓run_none, run_nil, ab_get0, ab_getS, if_true, if_false, if_pos, true_and, and_true, List.append_nil, List.nil_append, List.cons_append, List.length_cons, List.length_nil, List.take_succ_cons, List.take_zero, List.drop_succ_cons, List.drop_zero, List.reverse_cons, List.reverse_nil, List.map_nil, List.map_cons, List.sum_nil, List.sum_cons, rcv_some, rcv_999, wide_I, wide_L, wide_D, wide_R, wide_X, eq_self_iff_true, ite_true, ite_false, ↓reduceIte, Nat.reduceEqDiff, Nat.reduceLeDiff, Nat.reduceLT, Nat.reduceAdd, Nat.reduceMul, Nat.reduceBEq, decide_true, decide_false, and_self, or_self, or_true, true_or, false_or, or_false, and_false, false_and, not_false_eq_true, not_true_eq_false, Nat.zero_le, Nat.le_refl, Nat.add_eq_zero_iff, Nat.succ_ne_self, ↓s_const, ↓s_iload, ↓s_lload, ↓s_dload, ↓s_aload, ↓s_istore, ↓s_lstore, ↓s_dstore, ↓s_astore, ↓s_iinc, ↓s_bin, ↓s_div, ↓s_binL, ↓s_lcmp, ↓s_i2l, ↓s_i2d, ↓s_ddiv, ↓s_dcmpl, ↓s_goto, ↓s_ifeq, ↓s_iflt, ↓s_ifgt, ↓s_cmpeq, ↓s_cmplt, ↓s_cmpgt, ↓s_ifnull, ↓s_aeq, ↓s_pop, ↓s_dup, ↓s_dup2, ↓s_dupx1, ↓s_tab, ↓s_getI, ↓s_getR, ↓s_putI, ↓s_putZ, ↓s_putR, ↓s_ald, ↓s_ast, ↓s_zast, ↓s_lald, ↓s_last, ↓s_dald, ↓s_dast, ↓s_aald, ↓s_aast, ↓s_alen, ↓s_new, ↓s_newa, ↓s_multi, ↓s_cast, ↓s_getE, ↓s_obj, ↓s_mmin, ↓s_mmax, ↓s_hd, ↓s_call, ↓s_throw, ↓s_ret, ↓s_retL, ↓s_retD, ↓s_retA, ↓s_retV, mi_wI, mr_wI, mn_wI, mc_wI, sI_wI, u3_ap, mi_sI, mi_sR, mi_sL, mi_sD, mi_al, mi_bp, mr_sI, mr_sR, mr_sL, mr_sD, mr_al, mr_bp, ml_sI, ml_sR, ml_sL, ml_sD, ml_al, ml_bp, md_sI, md_sR, md_sL, md_sD, md_al, md_bp, mn_sI, mn_sR, mn_sL, mn_sD, mn_al, mn_bp, mc_sI, mc_sR, mc_sL, mc_sD, mc_al, mc_bp, mnc_sI, mnc_sR, mnc_sL, mnc_sD, mnc_al, mnc_bp, mns_sI, mns_sR, mns_sL, mns_sD, mns_al, mns_bp, SK_0, SK_1, SK_2, SK_3, SK_4, SK_5, SK_6, SK_7, SK_8, SK_9, SK_10, SK_11, SK_12, SK_13, SK_14, SK_15, SK_16, SK_17, SK_18, SK_19, SK_20, SK_21, SK_22, SK_23, SK_24, SK_25, SK_26, SK_27, SK_28, SK_29, SK_30, SK_31, SK_32, SK_33, SK_34, SK_35, SK_36, SK_37, SK_38, SK_39, SK_40, SK_41, SK_42, SK_43, SK_44, SK_45, SK_46, SK_47, SK_48, SK_49, SK_50, SK_51, SK_52, SK_53, SK_54, SK_55, SK_56, SK_57, SK_58, SK_59, SK_60, SK_61, SK_62, SK_63, SK_64, SK_65, st1_0, st1_1, st1_2, st1_3, st1_4, st1_5, st1_6, st1_7, st1_8, st2_0, st2_1, st2_2, st2_3, st2_4, st2_5, st2_6, st2_7, clr_I, clr_R, clr_X, clr_L, clr_D, clr_N]
  have k0 := g _ K hK fin
  refine run_sound hK mt_X9_pupils (T_X9_pupils SP_Jx4a65c_iterator_32c93 SP_Jx35411_hasNext_aae02 SP_Jx35411_next_0502b SP_X9_one) (fun x hx => hx) _ _ _ _ ?_
  simp only [T_X9_pupils, a1, e0, i10, Bool.false_eq_true, Bool.true_eq_false, Bool.not_true, Bool.not_false, ↓run_hit, ↓run_miss, ↓run_none, run_nil, ab_get0, ab_getS, if_true, if_false, if_pos, true_and, and_true, List.append_nil, List.nil_append, List.cons_append, List.length_cons, List.length_nil, List.take_succ_cons, List.take_zero, List.drop_succ_cons, List.drop_zero, List.reverse_cons, List.reverse_nil, List.map_nil, List.map_cons, List.sum_nil, List.sum_cons, rcv_some, rcv_999, wide_I, wide_L, wide_D, wide_R, wide_X, eq_self_iff_true, ite_true, ite_false, ↓reduceIte, Nat.reduceEqDiff, Nat.reduceLeDiff, Nat.reduceLT, Nat.reduceAdd, Nat.reduceMul, Nat.reduceBEq, decide_true, decide_false, and_self, or_self, or_true, true_or, false_or, or_false, and_false, false_and, not_false_eq_true, not_true_eq_false, Nat.zero_le, Nat.le_refl, Nat.add_eq_zero_iff, Nat.succ_ne_self, ↓s_const, ↓s_iload, ↓s_lload, ↓s_dload, ↓s_aload, ↓s_istore, ↓s_lstore, ↓s_dstore, ↓s_astore, ↓s_iinc, ↓s_bin, ↓s_div, ↓s_binL, ↓s_lcmp, ↓s_i2l, ↓s_i2d, ↓s_ddiv, ↓s_dcmpl, ↓s_goto, ↓s_ifeq, ↓s_iflt, ↓s_ifgt, ↓s_cmpeq, ↓s_cmplt, ↓s_cmpgt, ↓s_ifnull, ↓s_aeq, ↓s_pop, ↓s_dup, ↓s_dup2, ↓s_dupx1, ↓s_tab, ↓s_getI, ↓s_getR, ↓s_putI, ↓s_putZ, ↓s_putR, ↓s_ald, ↓s_ast, ↓s_zast, ↓s_lald, ↓s_last, ↓s_dald, ↓s_dast, ↓s_aald, ↓s_aast, ↓s_alen, ↓s_new, ↓s_newa, ↓s_multi, ↓s_cast, ↓s_getE, ↓s_obj, ↓s_mmin, ↓s_mmax, ↓s_hd, ↓s_call, ↓s_throw, ↓s_ret, ↓s_retL, ↓s_retD, ↓s_retA, ↓s_retV, mi_wI, mr_wI, mn_wI, mc_wI, sI_wI, u3_ap, mi_sI, mi_sR, mi_sL, mi_sD, mi_al, mi_bp, mr_sI, mr_sR, mr_sL, mr_sD, mr_al, mr_bp, ml_sI, ml_sR, ml_sL, ml_sD, ml_al, ml_bp, md_sI, md_sR, md_sL, md_sD, md_al, md_bp, mn_sI, mn_sR, mn_sL, mn_sD, mn_al, mn_bp, mc_sI, mc_sR, mc_sL, mc_sD, mc_al, mc_bp, mnc_sI, mnc_sR, mnc_sL, mnc_sD, mnc_al, mnc_bp, mns_sI, mns_sR, mns_sL, mns_sD, mns_al, mns_bp, SK_0, SK_1, SK_2, SK_3, SK_4, SK_5, SK_6, SK_7, SK_8, SK_9, SK_10, SK_11, SK_12, SK_13, SK_14, SK_15, SK_16, SK_17, SK_18, SK_19, SK_20, SK_21, SK_22, SK_23, SK_24, SK_25, SK_26, SK_27, SK_28, SK_29, SK_30, SK_31, SK_32, SK_33, SK_34, SK_35, SK_36, SK_37, SK_38, SK_39, SK_40, SK_41, SK_42, SK_43, SK_44, SK_45, SK_46, SK_47, SK_48, SK_49, SK_50, SK_51, SK_52, SK_53, SK_54, SK_55, SK_56, SK_57, SK_58, SK_59, SK_60, SK_61, SK_62, SK_63, SK_64, SK_65, st1_0, st1_1, st1_2, st1_3, st1_4, st1_5, st1_6, st1_7, st1_8, st2_0, st2_1, st2_2, st2_3, st2_4, st2_5, st2_6, st2_7, clr_I, clr_R, clr_X, clr_L, clr_D, clr_N]
  exact k0
theorem e_X9_pupils {m : ab_M} {p : Int32} (h1 : RM m) : ∃ (m' : ab_M), SP_X9_pupils [vA 62 0, vI p] m = (okV (vI (rPupils (rc m) p)) m' : ab_O) ∧ (GB m m' 1 4) := by
  obtain ⟨r, h8, m', h7, h9⟩ := chs_ok (q_X9_pupils (m := m) (p := p) h1)
  exact ⟨m', h8.trans h7.symm, h9⟩
theorem C_X9_pupils {l : Launch} {D : va_G} {cA : Nat → ClassId} {d : Nat} (hst : l.stackTraces = false) (hd : 3 ≤ d) : ∀ (as : List ab_V) (m : ab_M), Ctr l D cA d yX9_pupils (Cond.code yX9_pupils cX9_pupils 5 (some .int) :: TB) as m (SP_X9_pupils as m) := fun as m => ctr_chs (by decide +kernel) hst (by omega) (snd_X9_pupils (d' := 2) (hd9 := by omega) (hC_Jx4a65c_iterator_32c93 := C_Jx4a65c_iterator_32c93 hst (by omega)) (hC_Jx35411_hasNext_aae02 := C_Jx35411_hasNext_aae02 hst (by omega)) (hC_Jx35411_next_0502b := C_Jx35411_next_0502b hst (by omega)) (hC_X9_one := C_X9_one hst (by omega)))
