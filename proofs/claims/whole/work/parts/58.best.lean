theorem gto_ex {T : ab_T} {pc n : Nat} (I : Nat → ab_L → ab_M → Prop) (hs : ∀ i ls M, i < n → I i ls M → ∃ ls' M', I (i + 1) ls' M' ∧ gto T pc ls [] M pc ls' [] M') (ls : ab_L) (M : ab_M) (h0 : I 0 ls M) : ∃ ls' M', I n ls' M' ∧ gto T pc ls [] M pc ls' [] M' := by
  have h : ∀ k, k ≤ n → ∃ ls' M', I k ls' M' ∧ gto T pc ls [] M pc ls' [] M' := by
    intro k
    induction k with
    | zero => intro _; exact ⟨ls, M, h0, gto.refl⟩
    | succ k ih =>
      intro hk
      obtain ⟨l1, M1, i1, g1⟩ := ih (by omega)
      obtain ⟨l2, M2, i2, g2⟩ := hs k l1 M1 (by omega) i1
      exact ⟨l2, M2, i2, g1.trans g2⟩
  exact h n (Nat.le_refl _)
theorem rBest_pre {c : ab_C} {h g : Int32} : ∀ k, k ≤ 4 → ∀ ch q, q < 4 - k → (rBest c h g k ch).1 q = ch q
  | 0, _, _, _, _ => rfl
  | k + 1, hk, ch, q, hq => by
    have ih := rBest_pre (c := c) (h := h) (g := g) k (by omega)
    have hx : ∀ x (a : (Nat → Int32) × Option (Nat → Int32)), a.1 q = ch q → (fRb1 (rBest c h g k) (3 - k) x a).1 q = ch q := by
      intro x a ha
      show (rBest c h g k (updI a.1 (3 - k) x)).1 q = ch q
      rw [ih _ q (by omega)]
      exact (if_neg (by omega)).trans ha
    have hi := fo_inv (f := fRb (rBest c h g k) c (3 - k) h) (s := (ch, none)) (n := nu c + 1) (fun _ a => a.1 q = ch q) rfl (by
      intro i a _ ha
      unfold fRb
      split
      · split
        · exact hx _ _ ha
        · exact ha
      · exact hx _ _ ha) (nu c + 1) (Nat.le_refl _)
    exact hi
/-- the best so far, as the run holds it -/
def BB (m M : ab_M) (b : Option Nat) (f : Option (Nat → Int32)) : Prop := (b = none ∧ f = none) ∨ ∃ j F, b = some j ∧ f = some F ∧ mc m 54 ≤ j ∧ j < mc M 54 ∧ mn M 54 j = 5 ∧ ∀ q, q < 5 → mi M 54 j q = F q
def BI (m M : ab_M) (o k : Nat) (h g : Int32) (i : Nat) (ls : ab_L) : Prop := ∃ b : Option Nat, ls = [some (vA 62 0), some (vI (nN (3 - k))), some (vI h), some (vI g), some (vA 55 o), some (vR (b.map (fun j => (54, j)))), some (vI (nN i)), none] ∧
  GX o m M (fo (fNk (rc m) (3 - k) h) 0 i * lvs (rc m) h k) (5 * (fo (fNk (rc m) (3 - k) h) 0 i * lvs (rc m) h k)) ∧ (∀ q, mi M 55 o q = (fo (fRb (rBest (rc m) h g k) (rc m) (3 - k) h) (mi m 55 o, none) i).1 q) ∧ BB m M b (fo (fRb (rBest (rc m) h g k) (rc m) (3 - k) h) (mi m 55 o, none) i).2
/-- one try: x goes into the plan -/
theorem core_X9_bestFrom {m M : ab_M} {o k i : Nat} {h g x : Int32} {b : Option Nat} {n : Nat} {S : (Nat → Int32) × Option (Nat → Int32)} {sp : List ab_V → ab_M → ab_O} (h1 : RM m) (h4 : mn m 55 o = 4) (ho : o < mc m 55) (hk : k + 1 ≤ 4) (hi : i < 13)
    (hx : x = -1 ∨ inb x (nu (rc m))) (hS1 : ∀ q, q < 3 - k → S.1 q = -1 ∨ inb (S.1 q) (nu (rc m)))
    (hG : GX o m M (n * lvs (rc m) h k) (5 * (n * lvs (rc m) h k))) (hM : ∀ q, mi M 55 o q = S.1 q) (hB : BB m M b S.2)
    (hrec : ∀ M, RM M → rc M = rc m → mn M 55 o = 4 → o < mc M 55 → (∀ q, q < 4 - k → mi M 55 o q = -1 ∨ inb (mi M 55 o q) (nu (rc m))) → ∃ M' j, sp [vA 62 0, vI (nN (4 - k)), vI h, vI g, vA 55 o] M = okV (vA 54 j) M' ∧ BF M M' o j k h g) :
    ∃ b' M', (GX o m M' ((n + 1) * lvs (rc m) h k) (5 * ((n + 1) * lvs (rc m) h k)) ∧ (∀ q, mi M' 55 o q = (fRb1 (rBest (rc m) h g k) (3 - k) x S).1 q) ∧ BB m M' b' (fRb1 (rBest (rc m) h g k) (3 - k) x S).2) ∧
      gto (T_X9_bestFrom SP_X9_worthOf_ SP_Jx4a65c_size_8abf5 SP_Jx4a65c_get_915e3 SP_X9_canBe sp) 122 [some (vA 62 0), some (vI (nN (3 - k))), some (vI h), some (vI g), some (vA 55 o), some (vR (b.map (fun j => (54, j)))), some (vI (nN i)), none] [vI x, vI (nN (3 - k)), vA 55 o] M
        53 [some (vA 62 0), some (vI (nN (3 - k))), some (vI h), some (vI g), some (vA 55 o), some (vR (b'.map (fun j => (54, j)))), some (vI (nN (i + 1))), none] [] M' := by
  have e1 : ∀ q, mi (sI M 55 o (3 - k) x) 55 o q = updI S.1 (3 - k) x q := by
    intro q
    rw [mi_sI, u3_ap]
    unfold updI
    by_cases z : q = 3 - k
    · rw [if_pos ⟨rfl, rfl, z⟩, if_pos z]
    · rw [if_neg (fun y => z y.2.2), if_neg z]; exact hM q
  have g1 : GX o m (sI M 55 o (3 - k) x) (n * lvs (rc m) h k) (5 * (n * lvs (rc m) h k)) := hG.trans GX.oX
  have e2 : (mi (sI M 55 o (3 - k) x) 55 o) = updI S.1 (3 - k) x := funext e1
  have hc0 : mc (sI M 55 o (3 - k) x) = mc M := rfl
  have hn0 : mn (sI M 55 o (3 - k) x) = mn M := rfl
  have hold : ∀ j q, mi (sI M 55 o (3 - k) x) 54 j q = mi M 54 j q := fun j q => by rw [mi_sI, u3_ap, if_neg (fun z => absurd z.1 (by decide))]
  have hmM : mn M 55 o = 4 := (hG.gmno ho).trans h4
  generalize hM1 : sI M 55 o (3 - k) x = M1 at *
  have rc1 := g1.grc
  obtain ⟨M2, j2, ec, G2, b1, b2, b3, b4, b5⟩ := hrec M1 (g1.gRM h1) rc1 ((g1.gmno ho).trans h4) (Nat.lt_of_lt_of_le ho (g1.2.1 55).1) (by
    intro q hq
    rw [e1 q]
    unfold updI
    split
    · exact hx
    · exact hS1 q (by omega))
  rw [rc1, e2] at b4 b5
  rw [rc1] at G2
  have G3 : GX o m M2 ((n + 1) * lvs (rc m) h k) (5 * ((n + 1) * lvs (rc m) h k)) := by
    have es : (n + 1) * lvs (rc m) h k = n * lvs (rc m) h k + lvs (rc m) h k := Nat.succ_mul n (lvs (rc m) h k)
    refine (g1.trans G2).le ?_ ?_
    · rw [es]; exact Nat.le_refl _
    · rw [es]; generalize n * lvs (rc m) h k = z; omega
  have hkd : nN (3 - k) + 1 = nN (4 - k) := by rw [nN_succ]; congr 1; omega
  have hk4 : 3 - k < 2147483648 := by omega
  have hm54 : mc m 54 ≤ j2 := Nat.le_trans (g1.2.1 54).1 b1
  rcases hB with ⟨rfl, hB⟩ | ⟨jb, F, rfl, hB, c1, c2, c3, c4⟩
  · refine ⟨some j2, M2, ⟨G3, b4, Or.inr ⟨j2, (rBest (rc m) h g k (updI S.1 (3 - k) x)).2, rfl, ?_, hm54, b2, b3, b5⟩⟩, fun R K hK kk => ?_⟩
    · unfold fRb1; rw [hB]
    · have cut : ∀ v, K 53 [some (vA 62 0), some (vI (nN (3 - k))), some (vI h), some (vI g), some (vA 55 o), some (vA 54 j2), some (vI (nN (i + 1))), v] [] M2 := fun v => by
        refine hK.2 53 _ _ _ _ ?_ kk
        repeat (first | exact le_nil | apply le_c | apply le_n)
      refine run_sound hK mt_X9_bestFrom (T_X9_bestFrom_53 SP_X9_worthOf_ SP_Jx4a65c_size_8abf5 SP_Jx4a65c_get_915e3 SP_X9_canBe sp) (fun x hx => List.mem_append_right _ hx) _ _ _ _ ?_
      have cut2 := cut (some (vA 54 j2))
      simp only [T_X9_bestFrom_53, Option.map_none, hmM, inb_nN hk4, nN_nat hk4, show 3 - k < 4 by omega, hM1, hkd, ec, nN_succ, i10, Bool.false_eq_true, Bool.true_eq_false, Bool.not_true, Bool.not_false, ↓run_hit, ↓run_miss, ↓run_none, run_nil, ab_get0, ab_getS, if_true, if_false, if_pos, true_and, and_true, List.append_nil, List.nil_append, List.cons_append, List.length_cons, List.length_nil, List.take_succ_cons, List.take_zero, List.drop_succ_cons, List.drop_zero, List.reverse_cons, List.reverse_nil, List.map_nil, List.map_cons, List.sum_nil, List.sum_cons, rcv_some, rcv_999, wide_I, wide_L, wide_D, wide_R, wide_X, eq_self_iff_true, ite_true, ite_false, ↓reduceIte, Nat.reduceEqDiff, Nat.reduceLeDiff, Nat.reduceLT, Nat.reduceAdd, Nat.reduceMul, Nat.reduceBEq, decide_true, decide_false, and_self, or_self, or_true, true_or, false_or, or_false, and_false, false_and, not_false_eq_true, not_true_eq_false, Nat.zero_le, Nat.le_refl, Nat.add_eq_zero_iff, Nat.succ_ne_self, ↓s_const, ↓s_iload, ↓s_lload, ↓s_dload, ↓s_aload, ↓s_istore, ↓s_lstore, ↓s_dstore, ↓s_astore, ↓s_iinc, ↓s_bin, ↓s_div, ↓s_binL, ↓s_lcmp, ↓s_i2l, ↓s_i2d, ↓s_ddiv, ↓s_dcmpl, ↓s_goto, ↓s_ifeq, ↓s_iflt, ↓s_ifgt, ↓s_cmpeq, ↓s_cmplt, ↓s_cmpgt, ↓s_ifnull, ↓s_aeq, ↓s_pop, ↓s_dup, ↓s_dup2, ↓s_dupx1, ↓s_tab, ↓s_getI, ↓s_getR, ↓s_putI, ↓s_putZ, ↓s_putR, ↓s_ald, ↓s_ast, ↓s_zast, ↓s_lald, ↓s_last, ↓s_dald, ↓s_dast, ↓s_aald, ↓s_aast, ↓s_alen, ↓s_new, ↓s_newa, ↓s_multi, ↓s_cast, ↓s_getE, ↓s_obj, ↓s_mmin, ↓s_mmax, ↓s_hd, ↓s_call, ↓s_throw, ↓s_ret, ↓s_retL, ↓s_retD, ↓s_retA, ↓s_retV, mi_wI, mr_wI, mn_wI, mc_wI, sI_wI, u3_ap, mi_sI, mi_sR, mi_sL, mi_sD, mi_al, mi_bp, mr_sI, mr_sR, mr_sL, mr_sD, mr_al, mr_bp, ml_sI, ml_sR, ml_sL, ml_sD, ml_al, ml_bp, md_sI, md_sR, md_sL, md_sD, md_al, md_bp, mn_sI, mn_sR, mn_sL, mn_sD, mn_al, mn_bp, mc_sI, mc_sR, mc_sL, mc_sD, mc_al, mc_bp, mnc_sI, mnc_sR, mnc_sL, mnc_sD, mnc_al, mnc_bp, mns_sI, mns_sR, mns_sL, mns_sD, mns_al, mns_bp, SK_0, SK_1, SK_2, SK_3, SK_4, SK_5, SK_6, SK_7, SK_8, SK_9, SK_10, SK_11, SK_12, SK_13, SK_14, SK_15, SK_16, SK_17, SK_18, SK_19, SK_20, SK_21, SK_22, SK_23, SK_24, SK_25, SK_26, SK_27, SK_28, SK_29, SK_30, SK_31, SK_32, SK_33, SK_34, SK_35, SK_36, SK_37, SK_38, SK_39, SK_40, SK_41, SK_42, SK_43, SK_44, SK_45, SK_46, SK_47, SK_48, SK_49, SK_50, SK_51, SK_52, SK_53, SK_54, SK_55, SK_56, SK_57, SK_58, SK_59, SK_60, SK_61, SK_62, SK_63, SK_64, SK_65, st1_0, st1_1, st1_2, st1_3, st1_4, st1_5, st1_6, st1_7, st1_8, st2_0, st2_1, st2_2, st2_3, st2_4, st2_5, st2_6, st2_7, clr_I, clr_R, clr_X, clr_L, clr_D, clr_N]
      exact cut2
  · have d1 : mi M2 54 jb 4 = F 4 := by rw [G2.gmio (by rw [hc0]; exact c2), hold]; exact c4 4 (by decide)
    have d2 : mi M2 54 j2 4 = (rBest (rc m) h g k (updI S.1 (3 - k) x)).2 4 := b5 4 (by decide)
    have d3 : mn M2 54 jb = 5 := by rw [G2.gmno (by rw [hc0]; exact c2), hn0]; exact c3
    by_cases z : F 4 < (rBest (rc m) h g k (updI S.1 (3 - k) x)).2 4
    · refine ⟨some j2, M2, ⟨G3, b4, Or.inr ⟨j2, (rBest (rc m) h g k (updI S.1 (3 - k) x)).2, rfl, ?_, hm54, b2, b3, b5⟩⟩, fun R K hK kk => ?_⟩
      · unfold fRb1; rw [hB]; exact congrArg some (if_pos z)
      · have cut : ∀ v, K 53 [some (vA 62 0), some (vI (nN (3 - k))), some (vI h), some (vI g), some (vA 55 o), some (vA 54 j2), some (vI (nN (i + 1))), v] [] M2 := fun v => by
          refine hK.2 53 _ _ _ _ ?_ kk
          repeat (first | exact le_nil | apply le_c | apply le_n)
        refine run_sound hK mt_X9_bestFrom (T_X9_bestFrom_53 SP_X9_worthOf_ SP_Jx4a65c_size_8abf5 SP_Jx4a65c_get_915e3 SP_X9_canBe sp) (fun x hx => List.mem_append_right _ hx) _ _ _ _ ?_
        have cut2 := cut (some (vA 54 j2))
        simp only [T_X9_bestFrom_53, Option.map_some, hmM, inb_nN hk4, nN_nat hk4, show 3 - k < 4 by omega, hM1, hkd, ec, b3, d1, d2, d3, z, show inb 4 5 from by unfold inb; decide, show (4 : Int32).toNatClampNeg = 4 from rfl, nN_succ, i10, Bool.false_eq_true, Bool.true_eq_false, Bool.not_true, Bool.not_false, ↓run_hit, ↓run_miss, ↓run_none, run_nil, ab_get0, ab_getS, if_true, if_false, if_pos, true_and, and_true, List.append_nil, List.nil_append, List.cons_append, List.length_cons, List.length_nil, List.take_succ_cons, List.take_zero, List.drop_succ_cons, List.drop_zero, List.reverse_cons, List.reverse_nil, List.map_nil, List.map_cons, List.sum_nil, List.sum_cons, rcv_some, rcv_999, wide_I, wide_L, wide_D, wide_R, wide_X, eq_self_iff_true, ite_true, ite_false, ↓reduceIte, Nat.reduceEqDiff, Nat.reduceLeDiff, Nat.reduceLT, Nat.reduceAdd, Nat.reduceMul, Nat.reduceBEq, decide_true, decide_false, and_self, or_self, or_true, true_or, false_or, or_false, and_false, false_and, not_false_eq_true, not_true_eq_false, Nat.zero_le, Nat.le_refl, Nat.add_eq_zero_iff, Nat.succ_ne_self, ↓s_const, ↓s_iload, ↓s_lload, ↓s_dload, ↓s_aload, ↓s_istore, ↓s_lstore, ↓s_dstore, ↓s_astore, ↓s_iinc, ↓s_bin, ↓s_div, ↓s_binL, ↓s_lcmp, ↓s_i2l, ↓s_i2d, ↓s_ddiv, ↓s_dcmpl, ↓s_goto, ↓s_ifeq, ↓s_iflt, ↓s_ifgt, ↓s_cmpeq, ↓s_cmplt, ↓s_cmpgt, ↓s_ifnull, ↓s_aeq, ↓s_pop, ↓s_dup, ↓s_dup2, ↓s_dupx1, ↓s_tab, ↓s_getI, ↓s_getR, ↓s_putI, ↓s_putZ, ↓s_putR, ↓s_ald, ↓s_ast, ↓s_zast, ↓s_lald, ↓s_last, ↓s_dald, ↓s_dast, ↓s_aald, ↓s_aast, ↓s_alen, ↓s_new, ↓s_newa, ↓s_multi, ↓s_cast, ↓s_getE, ↓s_obj, ↓s_mmin, ↓s_mmax, ↓s_hd, ↓s_call, ↓s_throw, ↓s_ret, ↓s_retL, ↓s_retD, ↓s_retA, ↓s_retV, mi_wI, mr_wI, mn_wI, mc_wI, sI_wI, u3_ap, mi_sI, mi_sR, mi_sL, mi_sD, mi_al, mi_bp, mr_sI, mr_sR, mr_sL, mr_sD, mr_al, mr_bp, ml_sI, ml_sR, ml_sL, ml_sD, ml_al, ml_bp, md_sI, md_sR, md_sL, md_sD, md_al, md_bp, mn_sI, mn_sR, mn_sL, mn_sD, mn_al, mn_bp, mc_sI, mc_sR, mc_sL, mc_sD, mc_al, mc_bp, mnc_sI, mnc_sR, mnc_sL, mnc_sD, mnc_al, mnc_bp, mns_sI, mns_sR, mns_sL, mns_sD, mns_al, mns_bp, SK_0, SK_1, SK_2, SK_3, SK_4, SK_5, SK_6, SK_7, SK_8, SK_9, SK_10, SK_11, SK_12, SK_13, SK_14, SK_15, SK_16, SK_17, SK_18, SK_19, SK_20, SK_21, SK_22, SK_23, SK_24, SK_25, SK_26, SK_27, SK_28, SK_29, SK_30, SK_31, SK_32, SK_33, SK_34, SK_35, SK_36, SK_37, SK_38, SK_39, SK_40, SK_41, SK_42, SK_43, SK_44, SK_45, SK_46, SK_47, SK_48, SK_49, SK_50, SK_51, SK_52, SK_53, SK_54, SK_55, SK_56, SK_57, SK_58, SK_59, SK_60, SK_61, SK_62, SK_63, SK_64, SK_65, st1_0, st1_1, st1_2, st1_3, st1_4, st1_5, st1_6, st1_7, st1_8, st2_0, st2_1, st2_2, st2_3, st2_4, st2_5, st2_6, st2_7, clr_I, clr_R, clr_X, clr_L, clr_D, clr_N]
        exact cut2
    · refine ⟨some jb, M2, ⟨G3, b4, Or.inr ⟨jb, F, rfl, ?_, c1, ?_, d3, fun q hq => ?_⟩⟩, fun R K hK kk => ?_⟩
      · unfold fRb1; rw [hB]; exact congrArg some (if_neg z)
      · refine Nat.lt_of_lt_of_le c2 ?_
        rw [← hc0]; exact (G2.2.1 54).1
      · rw [G2.gmio (by rw [hc0]; exact c2), hold]; exact c4 q hq
      · have cut : ∀ v, K 53 [some (vA 62 0), some (vI (nN (3 - k))), some (vI h), some (vI g), some (vA 55 o), some (vA 54 jb), some (vI (nN (i + 1))), v] [] M2 := fun v => by
          refine hK.2 53 _ _ _ _ ?_ kk
          repeat (first | exact le_nil | apply le_c | apply le_n)
        refine run_sound hK mt_X9_bestFrom (T_X9_bestFrom_53 SP_X9_worthOf_ SP_Jx4a65c_size_8abf5 SP_Jx4a65c_get_915e3 SP_X9_canBe sp) (fun x hx => List.mem_append_right _ hx) _ _ _ _ ?_
        have cut2 := cut (some (vA 54 j2))
        simp only [T_X9_bestFrom_53, Option.map_some, hmM, inb_nN hk4, nN_nat hk4, show 3 - k < 4 by omega, hM1, hkd, ec, b3, d1, d2, d3, z, show inb 4 5 from by unfold inb; decide, show (4 : Int32).toNatClampNeg = 4 from rfl, nN_succ, i10, Bool.false_eq_true, Bool.true_eq_false, Bool.not_true, Bool.not_false, ↓run_hit, ↓run_miss, ↓run_none, run_nil, ab_get0, ab_getS, if_true, if_false, if_pos, true_and, and_true, List.append_nil, List.nil_append, List.cons_append, List.length_cons, List.length_nil, List.take_succ_cons, List.take_zero, List.drop_succ_cons, List.drop_zero, List.reverse_cons, List.reverse_nil, List.map_nil, List.map_cons, List.sum_nil, List.sum_cons, rcv_some, rcv_999, wide_I, wide_L, wide_D, wide_R, wide_X, eq_self_iff_true, ite_true, ite_false, ↓reduceIte, Nat.reduceEqDiff, Nat.reduceLeDiff, Nat.reduceLT, Nat.reduceAdd, Nat.reduceMul, Nat.reduceBEq, decide_true, decide_false, and_self, or_self, or_true, true_or, false_or, or_false, and_false, false_and, not_false_eq_true, not_true_eq_false, Nat.zero_le, Nat.le_refl, Nat.add_eq_zero_iff, Nat.succ_ne_self, ↓s_const, ↓s_iload, ↓s_lload, ↓s_dload, ↓s_aload, ↓s_istore, ↓s_lstore, ↓s_dstore, ↓s_astore, ↓s_iinc, ↓s_bin, ↓s_div, ↓s_binL, ↓s_lcmp, ↓s_i2l, ↓s_i2d, ↓s_ddiv, ↓s_dcmpl, ↓s_goto, ↓s_ifeq, ↓s_iflt, ↓s_ifgt, ↓s_cmpeq, ↓s_cmplt, ↓s_cmpgt, ↓s_ifnull, ↓s_aeq, ↓s_pop, ↓s_dup, ↓s_dup2, ↓s_dupx1, ↓s_tab, ↓s_getI, ↓s_getR, ↓s_putI, ↓s_putZ, ↓s_putR, ↓s_ald, ↓s_ast, ↓s_zast, ↓s_lald, ↓s_last, ↓s_dald, ↓s_dast, ↓s_aald, ↓s_aast, ↓s_alen, ↓s_new, ↓s_newa, ↓s_multi, ↓s_cast, ↓s_getE, ↓s_obj, ↓s_mmin, ↓s_mmax, ↓s_hd, ↓s_call, ↓s_throw, ↓s_ret, ↓s_retL, ↓s_retD, ↓s_retA, ↓s_retV, mi_wI, mr_wI, mn_wI, mc_wI, sI_wI, u3_ap, mi_sI, mi_sR, mi_sL, mi_sD, mi_al, mi_bp, mr_sI, mr_sR, mr_sL, mr_sD, mr_al, mr_bp, ml_sI, ml_sR, ml_sL, ml_sD, ml_al, ml_bp, md_sI, md_sR, md_sL, md_sD, md_al, md_bp, mn_sI, mn_sR, mn_sL, mn_sD, mn_al, mn_bp, mc_sI, mc_sR, mc_sL, mc_sD, mc_al, mc_bp, mnc_sI, mnc_sR, mnc_sL, mnc_sD, mnc_al, mnc_bp, mns_sI, mns_sR, mns_sL, mns_sD, mns_al, mns_bp, SK_0, SK_1, SK_2, SK_3, SK_4, SK_5, SK_6, SK_7, SK_8, SK_9, SK_10, SK_11, SK_12, SK_13, SK_14, SK_15, SK_16, SK_17, SK_18, SK_19, SK_20, SK_21, SK_22, SK_23, SK_24, SK_25, SK_26, SK_27, SK_28, SK_29, SK_30, SK_31, SK_32, SK_33, SK_34, SK_35, SK_36, SK_37, SK_38, SK_39, SK_40, SK_41, SK_42, SK_43, SK_44, SK_45, SK_46, SK_47, SK_48, SK_49, SK_50, SK_51, SK_52, SK_53, SK_54, SK_55, SK_56, SK_57, SK_58, SK_59, SK_60, SK_61, SK_62, SK_63, SK_64, SK_65, st1_0, st1_1, st1_2, st1_3, st1_4, st1_5, st1_6, st1_7, st1_8, st2_0, st2_1, st2_2, st2_3, st2_4, st2_5, st2_6, st2_7, clr_I, clr_R, clr_X, clr_L, clr_D, clr_N]
        exact cut2
theorem step_X9_bestFrom {m : ab_M} {o k : Nat} {h g : Int32} {sp : List ab_V → ab_M → ab_O} (h1 : RM m) (h4 : mn m 55 o = 4) (ho : o < mc m 55) (hk : k + 1 ≤ 4) (hch : ∀ q, q < 3 - k → mi m 55 o q = -1 ∨ inb (mi m 55 o q) (nu (rc m)))
    (hrec : ∀ M, RM M → rc M = rc m → mn M 55 o = 4 → o < mc M 55 → (∀ q, q < 4 - k → mi M 55 o q = -1 ∨ inb (mi M 55 o q) (nu (rc m))) → ∃ M' j, sp [vA 62 0, vI (nN (4 - k)), vI h, vI g, vA 55 o] M = okV (vA 54 j) M' ∧ BF M M' o j k h g) :
    ∃ r, ((eL [vA 62 0, vI (nN (3 - k)), vI h, vI g, vA 55 o]).length ≤ 8 ∧ (mnc m ≤ mnc (resM r) ∧ mns m ≤ mns (resM r)) ∧ Comes_to (T_X9_bestFrom SP_X9_worthOf_ SP_Jx4a65c_size_8abf5 SP_Jx4a65c_get_915e3 SP_X9_canBe sp) (entry 8 [vA 62 0, vI (nN (3 - k)), vI h, vI g, vA 55 o]) m r) ∧ ∃ (m' : ab_M) (j : Nat), (okV (vA 54 j) m' : ab_O) = some r ∧ BF m m' o j (k + 1) h g := by
  have hu12 := h1.2.2.2.2.1.2
  have huB : nu (rc m) < 2147483648 := by omega
  have a4 := h1.1.2.2.2
  have hpre := fo_inv (f := fRb (rBest (rc m) h g k) (rc m) (3 - k) h) (s := (mi m 55 o, none)) (n := nu (rc m) + 1) (fun _ a => ∀ q, q < 3 - k → a.1 q = mi m 55 o q) (fun _ _ => rfl) (by
    have hx : ∀ x (a : (Nat → Int32) × Option (Nat → Int32)), (∀ q, q < 3 - k → a.1 q = mi m 55 o q) → ∀ q, q < 3 - k → (fRb1 (rBest (rc m) h g k) (3 - k) x a).1 q = mi m 55 o q := by
      intro x a ha q hq
      show (rBest (rc m) h g k (updI a.1 (3 - k) x)).1 q = _
      rw [rBest_pre k (by omega) _ q (by omega)]
      exact (if_neg (by omega)).trans (ha q hq)
    intro i a _ ha
    unfold fRb
    split
    · split
      · exact hx _ _ ha
      · exact ha
    · exact hx _ _ ha)
  obtain ⟨ls', M', ⟨b, e0, G, hq, hB⟩, gg⟩ := gto_ex (T := T_X9_bestFrom SP_X9_worthOf_ SP_Jx4a65c_size_8abf5 SP_Jx4a65c_get_915e3 SP_X9_canBe sp) (pc := 53) (n := nu (rc m) + 1) (fun i ls M => BI m M o k h g i ls) (by
    rintro i ls M hi ⟨b, rfl, hG, hM, hB⟩
    have hiB : i < 2147483648 := by omega
    have hS1 := hpre i (by omega)
    have sz : SP_Jx4a65c_size_8abf5 [vA 47 0] M = okV (vI (nN (nu (rc m)))) M := by
      have := e_Jx4a65c_size_8abf5 (m := M) (o := (47, 0)) rfl
      rw [show mi M (47, 0).1 (47, 0).2 2 = nN (nu (rc m)) from (hG.gmi rfl).trans h1.2.2.2.2.1.1.2.1] at this
      exact this
    have a4' : mr M 62 0 4 = some (47, 0) := (hG.gmr rfl).trans a4
    have hS2 : ∀ q, q < 3 - k → (fo (fRb (rBest (rc m) h g k) (rc m) (3 - k) h) (mi m 55 o, none) i).1 q = -1 ∨ inb ((fo (fRb (rBest (rc m) h g k) (rc m) (3 - k) h) (mi m 55 o, none) i).1 q) (nu (rc m)) := fun q hq => by rw [hS1 q hq]; exact hch q hq
    unfold BI
    rw [show ∀ (A : Nat → ((Nat → Int32) × Option (Nat → Int32)) → ((Nat → Int32) × Option (Nat → Int32))) (s0 : (Nat → Int32) × Option (Nat → Int32)), fo A s0 (i + 1) = A i (fo A s0 i) from fun _ _ => rfl, show ∀ (A : Nat → Nat → Nat) (s0 : Nat), fo A s0 (i + 1) = A i (fo A s0 i) from fun _ _ => rfl]
    generalize fo (fRb (rBest (rc m) h g k) (rc m) (3 - k) h) (mi m 55 o, none) i = S at *
    generalize fo (fNk (rc m) (3 - k) h) 0 i = n at *
    by_cases hin : i < nu (rc m)
    · by_cases hcan : rCan (rc m) i (nN (3 - k)) h = true
      · have e1 : fRb (rBest (rc m) h g k) (rc m) (3 - k) h i S = fRb1 (rBest (rc m) h g k) (3 - k) (nN i) S := by unfold fRb; rw [if_pos hin, if_pos hcan]
        have e2 : fNk (rc m) (3 - k) h i n = n + 1 := by unfold fNk; rw [if_pos hin, if_pos hcan]
        obtain ⟨b', M', ⟨i1, i2, i3⟩, gt⟩ := core_X9_bestFrom (x := nN i) (i := i) (b := b) (n := n) (S := S) (g := g) h1 h4 ho hk (by omega) (Or.inr (by rw [inb_nN hiB]; exact hin)) hS2 hG hM hB hrec
        refine ⟨_, M', ⟨b', rfl, by rw [e2]; exact i1, by rw [e1]; exact i2, by rw [e1]; exact i3⟩, fun R K hK kk => ?_⟩
        have k1 := gt R K hK kk
        have gu := get_U (m := M) (hG.gRM h1) (p := nN i) (by rw [hG.grc, inb_nN hiB]; exact hin)
        rw [nN_nat hiB] at gu
        have cb := e_X9_canBe (m := M) (u := (53, i)) (k := nN (3 - k)) (h := h) rfl
        rw [hG.grc] at cb
        simp only at cb
        rw [hcan] at cb
        refine run_sound hK mt_X9_bestFrom ((T_X9_bestFrom_53 SP_X9_worthOf_ SP_Jx4a65c_size_8abf5 SP_Jx4a65c_get_915e3 SP_X9_canBe sp).take 31) (fun x hx => List.mem_append_right _ (List.mem_of_mem_take hx)) _ _ _ _ ?_
        simp only [T_X9_bestFrom_53, List.take_succ_cons, List.take_zero, a4', sz, nN_lt huB hiB, nN_lt hiB huB, show ¬ nu (rc m) < i by omega, hin, gu, cb, bI0, i10, Bool.false_eq_true, Bool.true_eq_false, Bool.not_true, Bool.not_false, ↓run_hit, ↓run_miss, ↓run_none, run_nil, ab_get0, ab_getS, if_true, if_false, if_pos, true_and, and_true, List.append_nil, List.nil_append, List.cons_append, List.length_cons, List.length_nil, List.take_succ_cons, List.take_zero, List.drop_succ_cons, List.drop_zero, List.reverse_cons, List.reverse_nil, List.map_nil, List.map_cons, List.sum_nil, List.sum_cons, rcv_some, rcv_999, wide_I, wide_L, wide_D, wide_R, wide_X, eq_self_iff_true, ite_true, ite_false, ↓reduceIte, Nat.reduceEqDiff, Nat.reduceLeDiff, Nat.reduceLT, Nat.reduceAdd, Nat.reduceMul, Nat.reduceBEq, decide_true, decide_false, and_self, or_self, or_true, true_or, false_or, or_false, and_false, false_and, not_false_eq_true, not_true_eq_false, Nat.zero_le, Nat.le_refl, Nat.add_eq_zero_iff, Nat.succ_ne_self, ↓s_const, ↓s_iload, ↓s_lload, ↓s_dload, ↓s_aload, ↓s_istore, ↓s_lstore, ↓s_dstore, ↓s_astore, ↓s_iinc, ↓s_bin, ↓s_div, ↓s_binL, ↓s_lcmp, ↓s_i2l, ↓s_i2d, ↓s_ddiv, ↓s_dcmpl, ↓s_goto, ↓s_ifeq, ↓s_iflt, ↓s_ifgt, ↓s_cmpeq, ↓s_cmplt, ↓s_cmpgt, ↓s_ifnull, ↓s_aeq, ↓s_pop, ↓s_dup, ↓s_dup2, ↓s_dupx1, ↓s_tab, ↓s_getI, ↓s_getR, ↓s_putI, ↓s_putZ, ↓s_putR, ↓s_ald, ↓s_ast, ↓s_zast, ↓s_lald, ↓s_last, ↓s_dald, ↓s_dast, ↓s_aald, ↓s_aast, ↓s_alen, ↓s_new, ↓s_newa, ↓s_multi, ↓s_cast, ↓s_getE, ↓s_obj, ↓s_mmin, ↓s_mmax, ↓s_hd, ↓s_call, ↓s_throw, ↓s_ret, ↓s_retL, ↓s_retD, ↓s_retA, ↓s_retV, mi_wI, mr_wI, mn_wI, mc_wI, sI_wI, u3_ap, mi_sI, mi_sR, mi_sL, mi_sD, mi_al, mi_bp, mr_sI, mr_sR, mr_sL, mr_sD, mr_al, mr_bp, ml_sI, ml_sR, ml_sL, ml_sD, ml_al, ml_bp, md_sI, md_sR, md_sL, md_sD, md_al, md_bp, mn_sI, mn_sR, mn_sL, mn_sD, mn_al, mn_bp, mc_sI, mc_sR, mc_sL, mc_sD, mc_al, mc_bp, mnc_sI, mnc_sR, mnc_sL, mnc_sD, mnc_al, mnc_bp, mns_sI, mns_sR, mns_sL, mns_sD, mns_al, mns_bp, SK_0, SK_1, SK_2, SK_3, SK_4, SK_5, SK_6, SK_7, SK_8, SK_9, SK_10, SK_11, SK_12, SK_13, SK_14, SK_15, SK_16, SK_17, SK_18, SK_19, SK_20, SK_21, SK_22, SK_23, SK_24, SK_25, SK_26, SK_27, SK_28, SK_29, SK_30, SK_31, SK_32, SK_33, SK_34, SK_35, SK_36, SK_37, SK_38, SK_39, SK_40, SK_41, SK_42, SK_43, SK_44, SK_45, SK_46, SK_47, SK_48, SK_49, SK_50, SK_51, SK_52, SK_53, SK_54, SK_55, SK_56, SK_57, SK_58, SK_59, SK_60, SK_61, SK_62, SK_63, SK_64, SK_65, st1_0, st1_1, st1_2, st1_3, st1_4, st1_5, st1_6, st1_7, st1_8, st2_0, st2_1, st2_2, st2_3, st2_4, st2_5, st2_6, st2_7, clr_I, clr_R, clr_X, clr_L, clr_D, clr_N]
        exact k1
      · have e1 : fRb (rBest (rc m) h g k) (rc m) (3 - k) h i S = S := by unfold fRb; rw [if_pos hin, if_neg hcan]
        have e2 : fNk (rc m) (3 - k) h i n = n := by unfold fNk; rw [if_pos hin, if_neg hcan]
        refine ⟨_, M, ⟨b, rfl, by rw [e2]; exact hG, by rw [e1]; exact hM, by rw [e1]; exact hB⟩, fun R K hK kk => ?_⟩
        have gu := get_U (m := M) (hG.gRM h1) (p := nN i) (by rw [hG.grc, inb_nN hiB]; exact hin)
        rw [nN_nat hiB] at gu
        have cb := e_X9_canBe (m := M) (u := (53, i)) (k := nN (3 - k)) (h := h) rfl
        rw [hG.grc] at cb
        simp only at cb
        rw [show rCan (rc m) i (nN (3 - k)) h = false by simpa using hcan] at cb
        refine run_sound hK mt_X9_bestFrom (T_X9_bestFrom_53 SP_X9_worthOf_ SP_Jx4a65c_size_8abf5 SP_Jx4a65c_get_915e3 SP_X9_canBe sp) (fun x hx => List.mem_append_right _ hx) _ _ _ _ ?_
        simp only [T_X9_bestFrom_53, a4', sz, nN_lt huB hiB, nN_lt hiB huB, show ¬ nu (rc m) < i by omega, hin, gu, cb, bI0, nN_succ, i10, Bool.false_eq_true, Bool.true_eq_false, Bool.not_true, Bool.not_false, ↓run_hit, ↓run_miss, ↓run_none, run_nil, ab_get0, ab_getS, if_true, if_false, if_pos, true_and, and_true, List.append_nil, List.nil_append, List.cons_append, List.length_cons, List.length_nil, List.take_succ_cons, List.take_zero, List.drop_succ_cons, List.drop_zero, List.reverse_cons, List.reverse_nil, List.map_nil, List.map_cons, List.sum_nil, List.sum_cons, rcv_some, rcv_999, wide_I, wide_L, wide_D, wide_R, wide_X, eq_self_iff_true, ite_true, ite_false, ↓reduceIte, Nat.reduceEqDiff, Nat.reduceLeDiff, Nat.reduceLT, Nat.reduceAdd, Nat.reduceMul, Nat.reduceBEq, decide_true, decide_false, and_self, or_self, or_true, true_or, false_or, or_false, and_false, false_and, not_false_eq_true, not_true_eq_false, Nat.zero_le, Nat.le_refl, Nat.add_eq_zero_iff, Nat.succ_ne_self, ↓s_const, ↓s_iload, ↓s_lload, ↓s_dload, ↓s_aload, ↓s_istore, ↓s_lstore, ↓s_dstore, ↓s_astore, ↓s_iinc, ↓s_bin, ↓s_div, ↓s_binL, ↓s_lcmp, ↓s_i2l, ↓s_i2d, ↓s_ddiv, ↓s_dcmpl, ↓s_goto, ↓s_ifeq, ↓s_iflt, ↓s_ifgt, ↓s_cmpeq, ↓s_cmplt, ↓s_cmpgt, ↓s_ifnull, ↓s_aeq, ↓s_pop, ↓s_dup, ↓s_dup2, ↓s_dupx1, ↓s_tab, ↓s_getI, ↓s_getR, ↓s_putI, ↓s_putZ, ↓s_putR, ↓s_ald, ↓s_ast, ↓s_zast, ↓s_lald, ↓s_last, ↓s_dald, ↓s_dast, ↓s_aald, ↓s_aast, ↓s_alen, ↓s_new, ↓s_newa, ↓s_multi, ↓s_cast, ↓s_getE, ↓s_obj, ↓s_mmin, ↓s_mmax, ↓s_hd, ↓s_call, ↓s_throw, ↓s_ret, ↓s_retL, ↓s_retD, ↓s_retA, ↓s_retV, mi_wI, mr_wI, mn_wI, mc_wI, sI_wI, u3_ap, mi_sI, mi_sR, mi_sL, mi_sD, mi_al, mi_bp, mr_sI, mr_sR, mr_sL, mr_sD, mr_al, mr_bp, ml_sI, ml_sR, ml_sL, ml_sD, ml_al, ml_bp, md_sI, md_sR, md_sL, md_sD, md_al, md_bp, mn_sI, mn_sR, mn_sL, mn_sD, mn_al, mn_bp, mc_sI, mc_sR, mc_sL, mc_sD, mc_al, mc_bp, mnc_sI, mnc_sR, mnc_sL, mnc_sD, mnc_al, mnc_bp, mns_sI, mns_sR, mns_sL, mns_sD, mns_al, mns_bp, SK_0, SK_1, SK_2, SK_3, SK_4, SK_5, SK_6, SK_7, SK_8, SK_9, SK_10, SK_11, SK_12, SK_13, SK_14, SK_15, SK_16, SK_17, SK_18, SK_19, SK_20, SK_21, SK_22, SK_23, SK_24, SK_25, SK_26, SK_27, SK_28, SK_29, SK_30, SK_31, SK_32, SK_33, SK_34, SK_35, SK_36, SK_37, SK_38, SK_39, SK_40, SK_41, SK_42, SK_43, SK_44, SK_45, SK_46, SK_47, SK_48, SK_49, SK_50, SK_51, SK_52, SK_53, SK_54, SK_55, SK_56, SK_57, SK_58, SK_59, SK_60, SK_61, SK_62, SK_63, SK_64, SK_65, st1_0, st1_1, st1_2, st1_3, st1_4, st1_5, st1_6, st1_7, st1_8, st2_0, st2_1, st2_2, st2_3, st2_4, st2_5, st2_6, st2_7, clr_I, clr_R, clr_X, clr_L, clr_D, clr_N]
        exact kk
    · have e1 : fRb (rBest (rc m) h g k) (rc m) (3 - k) h i S = fRb1 (rBest (rc m) h g k) (3 - k) (-1) S := by unfold fRb; rw [if_neg hin]
      have e2 : fNk (rc m) (3 - k) h i n = n + 1 := by unfold fNk; rw [if_neg hin]
      obtain ⟨b', M', ⟨i1, i2, i3⟩, gt⟩ := core_X9_bestFrom (x := -1) (i := i) (b := b) (n := n) (S := S) (g := g) h1 h4 ho hk (by omega) (Or.inl rfl) hS2 hG hM hB hrec
      refine ⟨_, M', ⟨b', rfl, by rw [e2]; exact i1, by rw [e1]; exact i2, by rw [e1]; exact i3⟩, fun R K hK kk => ?_⟩
      have k1 := gt R K hK kk
      refine run_sound hK mt_X9_bestFrom ((T_X9_bestFrom_53 SP_X9_worthOf_ SP_Jx4a65c_size_8abf5 SP_Jx4a65c_get_915e3 SP_X9_canBe sp).take 31) (fun x hx => List.mem_append_right _ (List.mem_of_mem_take hx)) _ _ _ _ ?_
      simp only [T_X9_bestFrom_53, List.take_succ_cons, List.take_zero, a4', sz, nN_lt huB hiB, nN_lt hiB huB, show ¬ nu (rc m) < i by omega, hin, i10, Bool.false_eq_true, Bool.true_eq_false, Bool.not_true, Bool.not_false, ↓run_hit, ↓run_miss, ↓run_none, run_nil, ab_get0, ab_getS, if_true, if_false, if_pos, true_and, and_true, List.append_nil, List.nil_append, List.cons_append, List.length_cons, List.length_nil, List.take_succ_cons, List.take_zero, List.drop_succ_cons, List.drop_zero, List.reverse_cons, List.reverse_nil, List.map_nil, List.map_cons, List.sum_nil, List.sum_cons, rcv_some, rcv_999, wide_I, wide_L, wide_D, wide_R, wide_X, eq_self_iff_true, ite_true, ite_false, ↓reduceIte, Nat.reduceEqDiff, Nat.reduceLeDiff, Nat.reduceLT, Nat.reduceAdd, Nat.reduceMul, Nat.reduceBEq, decide_true, decide_false, and_self, or_self, or_true, true_or, false_or, or_false, and_false, false_and, not_false_eq_true, not_true_eq_false, Nat.zero_le, Nat.le_refl, Nat.add_eq_zero_iff, Nat.succ_ne_self, ↓s_const, ↓s_iload, ↓s_lload, ↓s_dload, ↓s_aload, ↓s_istore, ↓s_lstore, ↓s_dstore, ↓s_astore, ↓s_iinc, ↓s_bin, ↓s_div, ↓s_binL, ↓s_lcmp, ↓s_i2l, ↓s_i2d, ↓s_ddiv, ↓s_dcmpl, ↓s_goto, ↓s_ifeq, ↓s_iflt, ↓s_ifgt, ↓s_cmpeq, ↓s_cmplt, ↓s_cmpgt, ↓s_ifnull, ↓s_aeq, ↓s_pop, ↓s_dup, ↓s_dup2, ↓s_dupx1, ↓s_tab, ↓s_getI, ↓s_getR, ↓s_putI, ↓s_putZ, ↓s_putR, ↓s_ald, ↓s_ast, ↓s_zast, ↓s_lald, ↓s_last, ↓s_dald, ↓s_dast, ↓s_aald, ↓s_aast, ↓s_alen, ↓s_new, ↓s_newa, ↓s_multi, ↓s_cast, ↓s_getE, ↓s_obj, ↓s_mmin, ↓s_mmax, ↓s_hd, ↓s_call, ↓s_throw, ↓s_ret, ↓s_retL, ↓s_retD, ↓s_retA, ↓s_retV, mi_wI, mr_wI, mn_wI, mc_wI, sI_wI, u3_ap, mi_sI, mi_sR, mi_sL, mi_sD, mi_al, mi_bp, mr_sI, mr_sR, mr_sL, mr_sD, mr_al, mr_bp, ml_sI, ml_sR, ml_sL, ml_sD, ml_al, ml_bp, md_sI, md_sR, md_sL, md_sD, md_al, md_bp, mn_sI, mn_sR, mn_sL, mn_sD, mn_al, mn_bp, mc_sI, mc_sR, mc_sL, mc_sD, mc_al, mc_bp, mnc_sI, mnc_sR, mnc_sL, mnc_sD, mnc_al, mnc_bp, mns_sI, mns_sR, mns_sL, mns_sD, mns_al, mns_bp, SK_0, SK_1, SK_2, SK_3, SK_4, SK_5, SK_6, SK_7, SK_8, SK_9, SK_10, SK_11, SK_12, SK_13, SK_14, SK_15, SK_16, SK_17, SK_18, SK_19, SK_20, SK_21, SK_22, SK_23, SK_24, SK_25, SK_26, SK_27, SK_28, SK_29, SK_30, SK_31, SK_32, SK_33, SK_34, SK_35, SK_36, SK_37, SK_38, SK_39, SK_40, SK_41, SK_42, SK_43, SK_44, SK_45, SK_46, SK_47, SK_48, SK_49, SK_50, SK_51, SK_52, SK_53, SK_54, SK_55, SK_56, SK_57, SK_58, SK_59, SK_60, SK_61, SK_62, SK_63, SK_64, SK_65, st1_0, st1_1, st1_2, st1_3, st1_4, st1_5, st1_6, st1_7, st1_8, st2_0, st2_1, st2_2, st2_3, st2_4, st2_5, st2_6, st2_7, clr_I, clr_R, clr_X, clr_L, clr_D, clr_N]
      exact k1) [some (vA 62 0), some (vI (nN (3 - k))), some (vI h), some (vI g), some (vA 55 o), some (vR none), some (vI (nN 0)), none] m ⟨none, rfl, by rw [show fo (fNk (rc m) (3 - k) h) 0 0 = 0 from rfl, Nat.zero_mul]; exact GX.refl, fun _ => rfl, Or.inl ⟨rfl, rfl⟩⟩
  have hlast : (fo (fRb (rBest (rc m) h g k) (rc m) (3 - k) h) (mi m 55 o, none) (nu (rc m) + 1)).2 ≠ none := by
    show (fRb (rBest (rc m) h g k) (rc m) (3 - k) h (nu (rc m)) _).2 ≠ none
    unfold fRb
    rw [if_neg (Nat.lt_irrefl _)]
    unfold fRb1
    exact fun z => by cases z
  rcases hB with ⟨-, hB⟩ | ⟨j, F, rfl, hB, c1, c2, c3, c4⟩
  · exact absurd hB hlast
  refine ⟨.inl ([vA 54 j], M'), ⟨by show 5 ≤ 8; decide, G.2.2.1, fun K hK => ?_⟩, M', j, rfl, G, c1, c2, c3, hq, fun q hq9 => ?_⟩
  · subst e0
    have fin : K 53 [some (vA 62 0), some (vI (nN (3 - k))), some (vI h), some (vI g), some (vA 55 o), some (vA 54 j), some (vI (nN (nu (rc m) + 1))), none] [] M' := by
      have sz : SP_Jx4a65c_size_8abf5 [vA 47 0] M' = okV (vI (nN (nu (rc m)))) M' := by
        have := e_Jx4a65c_size_8abf5 (m := M') (o := (47, 0)) rfl
        rw [show mi M' (47, 0).1 (47, 0).2 2 = nN (nu (rc m)) from (G.gmi rfl).trans h1.2.2.2.2.1.1.2.1] at this
        exact this
      have a4' : mr M' 62 0 4 = some (47, 0) := (G.gmr rfl).trans a4
      refine run_sound hK mt_X9_bestFrom (T_X9_bestFrom_53 SP_X9_worthOf_ SP_Jx4a65c_size_8abf5 SP_Jx4a65c_get_915e3 SP_X9_canBe sp) (fun x hx => List.mem_append_right _ hx) _ _ _ _ ?_
      simp only [T_X9_bestFrom_53, a4', sz, nN_lt huB (show nu (rc m) + 1 < 2147483648 by omega), Nat.lt_succ_self, i10, Bool.false_eq_true, Bool.true_eq_false, Bool.not_true, Bool.not_false, ↓run_hit, ↓run_miss, ↓run_none, run_nil, ab_get0, ab_getS, if_true, if_false, if_pos, true_and, and_true, List.append_nil, List.nil_append, List.cons_append, List.length_cons, List.length_nil, List.take_succ_cons, List.take_zero, List.drop_succ_cons, List.drop_zero, List.reverse_cons, List.reverse_nil, List.map_nil, List.map_cons, List.sum_nil, List.sum_cons, rcv_some, rcv_999, wide_I, wide_L, wide_D, wide_R, wide_X, eq_self_iff_true, ite_true, ite_false, ↓reduceIte, Nat.reduceEqDiff, Nat.reduceLeDiff, Nat.reduceLT, Nat.reduceAdd, Nat.reduceMul, Nat.reduceBEq, decide_true, decide_false, and_self, or_self, or_true, true_or, false_or, or_false, and_false, false_and, not_false_eq_true, not_true_eq_false, Nat.zero_le, Nat.le_refl, Nat.add_eq_zero_iff, Nat.succ_ne_self, ↓s_const, ↓s_iload, ↓s_lload, ↓s_dload, ↓s_aload, ↓s_istore, ↓s_lstore, ↓s_dstore, ↓s_astore, ↓s_iinc, ↓s_bin, ↓s_div, ↓s_binL, ↓s_lcmp, ↓s_i2l, ↓s_i2d, ↓s_ddiv, ↓s_dcmpl, ↓s_goto, ↓s_ifeq, ↓s_iflt, ↓s_ifgt, ↓s_cmpeq, ↓s_cmplt, ↓s_cmpgt, ↓s_ifnull, ↓s_aeq, ↓s_pop, ↓s_dup, ↓s_dup2, ↓s_dupx1, ↓s_tab, ↓s_getI, ↓s_getR, ↓s_putI, ↓s_putZ, ↓s_putR, ↓s_ald, ↓s_ast, ↓s_zast, ↓s_lald, ↓s_last, ↓s_dald, ↓s_dast, ↓s_aald, ↓s_aast, ↓s_alen, ↓s_new, ↓s_newa, ↓s_multi, ↓s_cast, ↓s_getE, ↓s_obj, ↓s_mmin, ↓s_mmax, ↓s_hd, ↓s_call, ↓s_throw, ↓s_ret, ↓s_retL, ↓s_retD, ↓s_retA, ↓s_retV, mi_wI, mr_wI, mn_wI, mc_wI, sI_wI, u3_ap, mi_sI, mi_sR, mi_sL, mi_sD, mi_al, mi_bp, mr_sI, mr_sR, mr_sL, mr_sD, mr_al, mr_bp, ml_sI, ml_sR, ml_sL, ml_sD, ml_al, ml_bp, md_sI, md_sR, md_sL, md_sD, md_al, md_bp, mn_sI, mn_sR, mn_sL, mn_sD, mn_al, mn_bp, mc_sI, mc_sR, mc_sL, mc_sD, mc_al, mc_bp, mnc_sI, mnc_sR, mnc_sL, mnc_sD, mnc_al, mnc_bp, mns_sI, mns_sR, mns_sL, mns_sD, mns_al, mns_bp, SK_0, SK_1, SK_2, SK_3, SK_4, SK_5, SK_6, SK_7, SK_8, SK_9, SK_10, SK_11, SK_12, SK_13, SK_14, SK_15, SK_16, SK_17, SK_18, SK_19, SK_20, SK_21, SK_22, SK_23, SK_24, SK_25, SK_26, SK_27, SK_28, SK_29, SK_30, SK_31, SK_32, SK_33, SK_34, SK_35, SK_36, SK_37, SK_38, SK_39, SK_40, SK_41, SK_42, SK_43, SK_44, SK_45, SK_46, SK_47, SK_48, SK_49, SK_50, SK_51, SK_52, SK_53, SK_54, SK_55, SK_56, SK_57, SK_58, SK_59, SK_60, SK_61, SK_62, SK_63, SK_64, SK_65, st1_0, st1_1, st1_2, st1_3, st1_4, st1_5, st1_6, st1_7, st1_8, st2_0, st2_1, st2_2, st2_3, st2_4, st2_5, st2_6, st2_7, clr_I, clr_R, clr_X, clr_L, clr_D, clr_N]
    have k0 := gg _ K hK fin
    show K 0 [some (vA 62 0), some (vI (nN (3 - k))), some (vI h), some (vI g), some (vA 55 o), none, none, none] [] m
    refine run_sound hK mt_X9_bestFrom (T_X9_bestFrom SP_X9_worthOf_ SP_Jx4a65c_size_8abf5 SP_Jx4a65c_get_915e3 SP_X9_canBe sp) (fun x hx => hx) _ _ _ _ ?_
    simp only [T_X9_bestFrom, show ¬ nN (3 - k) = 4 from fun z => by have := (nN_inj (a := 3 - k) (b := 4) (by omega) (by decide)).mp z; omega, i10, Bool.false_eq_true, Bool.true_eq_false, Bool.not_true, Bool.not_false, ↓run_hit, ↓run_miss, ↓run_none, run_nil, ab_get0, ab_getS, if_true, if_false, if_pos, true_and, and_true, List.append_nil, List.nil_append, List.cons_append, List.length_cons, List.length_nil, List.take_succ_cons, List.take_zero, List.drop_succ_cons, List.drop_zero, List.reverse_cons, List.reverse_nil, List.map_nil, List.map_cons, List.sum_nil, List.sum_cons, rcv_some, rcv_999, wide_I, wide_L, wide_D, wide_R, wide_X, eq_self_iff_true, ite_true, ite_false, ↓reduceIte, Nat.reduceEqDiff, Nat.reduceLeDiff, Nat.reduceLT, Nat.reduceAdd, Nat.reduceMul, Nat.reduceBEq, decide_true, decide_false, and_self, or_self, or_true, true_or, false_or, or_false, and_false, false_and, not_false_eq_true, not_true_eq_false, Nat.zero_le, Nat.le_refl, Nat.add_eq_zero_iff, Nat.succ_ne_self, ↓s_const, ↓s_iload, ↓s_lload, ↓s_dload, ↓s_aload, ↓s_istore, ↓s_lstore, ↓s_dstore, ↓s_astore, ↓s_iinc, ↓s_bin, ↓s_div, ↓s_binL, ↓s_lcmp, ↓s_i2l, ↓s_i2d, ↓s_ddiv, ↓s_dcmpl, ↓s_goto, ↓s_ifeq, ↓s_iflt, ↓s_ifgt, ↓s_cmpeq, ↓s_cmplt, ↓s_cmpgt, ↓s_ifnull, ↓s_aeq, ↓s_pop, ↓s_dup, ↓s_dup2, ↓s_dupx1, ↓s_tab, ↓s_getI, ↓s_getR, ↓s_putI, ↓s_putZ, ↓s_putR, ↓s_ald, ↓s_ast, ↓s_zast, ↓s_lald, ↓s_last, ↓s_dald, ↓s_dast, ↓s_aald, ↓s_aast, ↓s_alen, ↓s_new, ↓s_newa, ↓s_multi, ↓s_cast, ↓s_getE, ↓s_obj, ↓s_mmin, ↓s_mmax, ↓s_hd, ↓s_call, ↓s_throw, ↓s_ret, ↓s_retL, ↓s_retD, ↓s_retA, ↓s_retV, mi_wI, mr_wI, mn_wI, mc_wI, sI_wI, u3_ap, mi_sI, mi_sR, mi_sL, mi_sD, mi_al, mi_bp, mr_sI, mr_sR, mr_sL, mr_sD, mr_al, mr_bp, ml_sI, ml_sR, ml_sL, ml_sD, ml_al, ml_bp, md_sI, md_sR, md_sL, md_sD, md_al, md_bp, mn_sI, mn_sR, mn_sL, mn_sD, mn_al, mn_bp, mc_sI, mc_sR, mc_sL, mc_sD, mc_al, mc_bp, mnc_sI, mnc_sR, mnc_sL, mnc_sD, mnc_al, mnc_bp, mns_sI, mns_sR, mns_sL, mns_sD, mns_al, mns_bp, SK_0, SK_1, SK_2, SK_3, SK_4, SK_5, SK_6, SK_7, SK_8, SK_9, SK_10, SK_11, SK_12, SK_13, SK_14, SK_15, SK_16, SK_17, SK_18, SK_19, SK_20, SK_21, SK_22, SK_23, SK_24, SK_25, SK_26, SK_27, SK_28, SK_29, SK_30, SK_31, SK_32, SK_33, SK_34, SK_35, SK_36, SK_37, SK_38, SK_39, SK_40, SK_41, SK_42, SK_43, SK_44, SK_45, SK_46, SK_47, SK_48, SK_49, SK_50, SK_51, SK_52, SK_53, SK_54, SK_55, SK_56, SK_57, SK_58, SK_59, SK_60, SK_61, SK_62, SK_63, SK_64, SK_65, st1_0, st1_1, st1_2, st1_3, st1_4, st1_5, st1_6, st1_7, st1_8, st2_0, st2_1, st2_2, st2_3, st2_4, st2_5, st2_6, st2_7, clr_I, clr_R, clr_X, clr_L, clr_D, clr_N]
    exact k0
  · rw [c4 q hq9]
    show F q = (fo (fRb (rBest (rc m) h g k) (rc m) (3 - k) h) (mi m 55 o, none) (nu (rc m) + 1)).2.getD (fun _ => 0) q
    rw [hB]; rfl
/-- what the search needs -/
def PB (m : ab_M) (o k : Nat) : Prop := RM m ∧ mn m 55 o = 4 ∧ o < mc m 55 ∧ k ≤ 4 ∧ ∀ q, q < 4 - k → mi m 55 o q = -1 ∨ inb (mi m 55 o q) (nu (rc m))
theorem e_X9_bestFrom : ∀ (k : Nat) {m : ab_M} {o : Nat} {h g : Int32}, PB m o k → ∃ m' j, SP_X9_bestFrom (k + 1) [vA 62 0, vI (nN (4 - k)), vI h, vI g, vA 55 o] m = okV (vA 54 j) m' ∧ BF m m' o j k h g
  | 0, m, o, h, g, hp => by
    obtain ⟨h1, h2, h3, h4, h5⟩ := hp
    obtain ⟨r, h8, m', j, h7, h9⟩ := chs_ok (leaf_X9_bestFrom (g := g) (h := h) (sp := SP_X9_bestFrom 0) h1 h2 h3 (fun q hq => h5 q hq))
    refine ⟨m', j, ?_, h9⟩
    have e : SP_X9_bestFrom (0 + 1) [vA 62 0, vI (nN (4 - 0)), vI h, vI g, vA 55 o] m = chs (T_X9_bestFrom SP_X9_worthOf_ SP_Jx4a65c_size_8abf5 SP_Jx4a65c_get_915e3 SP_X9_canBe (SP_X9_bestFrom 0)) 8 [vA 62 0, vI 4, vI h, vI g, vA 55 o] m (fun r => ∃ (m' : ab_M) (j : Nat), (okV (vA 54 j) m' : ab_O) = some r ∧ BF m m' o j 0 h g) := rfl
    rw [e]
    exact h8.trans h7.symm
  | k + 1, m, o, h, g, hp => by
    obtain ⟨h1, h2, h3, h4, h5⟩ := hp
    obtain ⟨r, h8, m', j, h7, h9⟩ := chs_ok (step_X9_bestFrom (g := g) (h := h) (k := k) (sp := SP_X9_bestFrom (k + 1)) h1 h2 h3 h4 (fun q hq => h5 q (by omega)) (fun M g1 g2 g3 g4 g5 => e_X9_bestFrom k ⟨g1, g3, g4, by omega, fun q hq => by rw [g2]; exact g5 q hq⟩))
    refine ⟨m', j, ?_, h9⟩
    have e : SP_X9_bestFrom (k + 1 + 1) [vA 62 0, vI (nN (4 - (k + 1))), vI h, vI g, vA 55 o] m = chs (T_X9_bestFrom SP_X9_worthOf_ SP_Jx4a65c_size_8abf5 SP_Jx4a65c_get_915e3 SP_X9_canBe (SP_X9_bestFrom (k + 1))) 8 [vA 62 0, vI (nN (4 - (k + 1))), vI h, vI g, vA 55 o] m (fun r => ∃ (m' : ab_M) (j : Nat), (okV (vA 54 j) m' : ab_O) = some r ∧ BF m m' o j (k + 1) h g) := rfl
    rw [e, show 4 - (k + 1) = 3 - k by omega]
    exact h8.trans h7.symm
theorem C_X9_bestFrom {l : Launch} {D : va_G} {cA : Nat → ClassId} (hst : l.stackTraces = false) : ∀ (k d : Nat), k + 20 ≤ d → ∀ (as : List ab_V) (m : ab_M), Ctr l D cA d yX9_bestFrom (Cond.code yX9_bestFrom cX9_bestFrom 8 (some (.array .int)) :: TB) as m (SP_X9_bestFrom k as m)
  | 0, d, _, as, m => fun r hr => by cases hr
  | k + 1, d, hd, as, m => ctr_chs (by decide +kernel) hst (by omega) (snd_X9_bestFrom (sp_X9_bestFrom := SP_X9_bestFrom k) (d' := d - 1) (hd9 := by omega) (hC_X9_worthOf_ := C_X9_worthOf_ hst (by omega)) (hC_Jx4a65c_size_8abf5 := C_Jx4a65c_size_8abf5 hst (by omega)) (hC_Jx4a65c_get_915e3 := C_Jx4a65c_get_915e3 hst (by omega)) (hC_X9_canBe := C_X9_canBe hst (by omega)) (hC_X9_bestFrom := C_X9_bestFrom hst k (d - 1) (by omega)))
