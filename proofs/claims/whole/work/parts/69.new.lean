/-! the reference's part, person -/
def rPart1 (c : ab_C) (p : Int32) : ab_C := u3 (u3 (u3 (zr c 51 (nh c - 1)) 3 0 (nh c) p) 4 0 (nh c) (-1)) 36 0 0 (nN (nh c + 1))
def fRpart (p : Int32) (n : Nat) : Nat → ab_C → ab_C := fun i a => if nN i = p then u3 a 9 0 i (nN (n + 1) - 1) else if cDown a p 12 (a 5 0 i) = true then u3 a 9 0 i (nN (n + 1) - 1) else a
def rPartX (c : ab_C) (p : Int32) : ab_C := u3 (fo (fRpart p (nh c)) (rPart1 c p) (np c)) 5 0 p.toNatClampNeg (-1)
def rPart (c : ab_C) (p : Int32) : Int32 × Int32 × ab_C :=
  if rHas c p = false then (1, 0, c) else if c 13 0 p.toNatClampNeg = 0 then (2, 0, c) else if c 7 0 p.toNatClampNeg < 8 then (2, 0, c) else if c 3 0 (c 9 0 p.toNatClampNeg).toNatClampNeg = p then (2, 0, c) else if nh c = 4 then (2, 0, c) else
  (0, nN (nh c + 1) - 1, rPartX c p)
theorem rPart1_at {c : ab_C} {p : Int32} {s i k : Nat} (hl : ∃ x, lc s i k = some x ∧ x.1 ≠ 51) (h3 : s ≠ 3) (h4 : s ≠ 4) (h36 : s ≠ 36) : rPart1 c p s i k = c s i k := by
  obtain ⟨x, hl, hx⟩ := hl
  unfold rPart1
  rw [u3_ap, if_neg (fun z => h36 z.1), u3_ap, if_neg (fun z => h4 z.1), u3_ap, if_neg (fun z => h3 z.1), zr_at hl (fun z => hx z.1)]
theorem nN_sub1 {n : Nat} : nN (n + 1) - 1 = nN n := by rw [← nN_succ, Int32.add_sub_cancel]
theorem inb_up {x : Int32} {a b : Nat} (h : inb x a) (hab : a ≤ b) : inb x b := by
  obtain ⟨e, hl⟩ := inb_eq h
  unfold inb at h ⊢
  rintro (z | z)
  · exact h (Or.inl z)
  · omega
theorem RG_u9 {c : ab_C} {i : Nat} {v : Int32} (h : RG c) (hv : inb v (nh c)) : RG (u3 c 9 0 i v) := by
  obtain ⟨⟨r1, r2, r3, r4, r5, r6⟩, hA, hQ⟩ := h
  have e : ∀ s a k, s ≠ 9 → u3 c 9 0 i v s a k = c s a k := fun s a k hs => by rw [u3_ap, if_neg (fun z => hs z.1)]
  have n1 : np (u3 c 9 0 i v) = np c := congrArg Int32.toNatClampNeg (e 35 0 0 (by decide))
  have n2 : nh (u3 c 9 0 i v) = nh c := congrArg Int32.toNatClampNeg (e 36 0 0 (by decide))
  have n3 : nsc (u3 c 9 0 i v) = nsc c := congrArg Int32.toNatClampNeg (e 37 0 0 (by decide))
  have n4 : nu (u3 c 9 0 i v) = nu c := congrArg Int32.toNatClampNeg (e 38 0 0 (by decide))
  have e5 := fun k => e 5 0 k (by decide)
  have e23 := fun k => e 23 0 k (by decide)
  have e3 := fun k => e 3 0 k (by decide)
  have e4 := fun k => e 4 0 k (by decide)
  have e30 := fun k => e 30 0 k (by decide)
  have e7 := fun k => e 7 0 k (by decide)
  unfold RG RV AC QC
  simp only [n1, n2, n3, n4, e5, e23, e3, e4, e30, e7]
  refine ⟨⟨r1, fun j hj => ?_, r3, r4, r5, r6⟩, hA, hQ⟩
  rw [u3_ap]
  split
  · exact hv
  · exact r2 j hj
theorem RG_part1 {c : ab_C} {p : Int32} (h : RG c) (hp : inb p (np c)) (hh : nh c < 4) (hh0 : 0 < nh c) : RG (rPart1 c p) := by
  obtain ⟨⟨r1, r2, r3, r4, r5, r6⟩, hA, hQ⟩ := h
  have n1 : np (rPart1 c p) = np c := congrArg Int32.toNatClampNeg (rPart1_at ⟨_, rfl, by decide⟩ (by decide) (by decide) (by decide))
  have n2 : nh (rPart1 c p) = nh c + 1 := by
    show (rPart1 c p 36 0 0).toNatClampNeg = _
    unfold rPart1
    rw [u3_ap, if_pos ⟨rfl, rfl, rfl⟩]
    exact nN_nat (by omega)
  have n3 : nsc (rPart1 c p) = nsc c := congrArg Int32.toNatClampNeg (rPart1_at ⟨_, rfl, by decide⟩ (by decide) (by decide) (by decide))
  have n4 : nu (rPart1 c p) = nu c := congrArg Int32.toNatClampNeg (rPart1_at ⟨_, rfl, by decide⟩ (by decide) (by decide) (by decide))
  have e5 : ∀ k, rPart1 c p 5 0 k = c 5 0 k := fun k => rPart1_at ⟨_, rfl, by simp⟩ (by decide) (by decide) (by decide)
  have e9 : ∀ k, rPart1 c p 9 0 k = c 9 0 k := fun k => rPart1_at ⟨_, rfl, by simp⟩ (by decide) (by decide) (by decide)
  have e23 : ∀ k, rPart1 c p 23 0 k = c 23 0 k := fun k => rPart1_at ⟨_, rfl, by simp⟩ (by decide) (by decide) (by decide)
  have e30 : ∀ k, rPart1 c p 30 0 k = c 30 0 k := fun k => rPart1_at ⟨_, rfl, by simp⟩ (by decide) (by decide) (by decide)
  have e7 : ∀ k, rPart1 c p 7 0 k = c 7 0 k := fun k => rPart1_at ⟨_, rfl, by simp⟩ (by decide) (by decide) (by decide)
  have hl3 : ∀ k, k < nh c → lc 3 0 k = some ((hrow k).1, (hrow k).2, 0) ∧ ¬ ((hrow k).1 = 51 ∧ (hrow k).2 = nh c - 1) := by
    intro k hk
    refine ⟨rfl, ?_⟩
    unfold hrow
    split
    · rintro ⟨z, -⟩; cases z
    · rintro ⟨-, z⟩
      simp only at z; omega
  have hl4 : ∀ k, k < nh c → lc 4 0 k = some ((hrow k).1, (hrow k).2, 1) ∧ ¬ ((hrow k).1 = 51 ∧ (hrow k).2 = nh c - 1) := fun k hk => ⟨rfl, (hl3 k hk).2⟩
  unfold RG RV AC QC
  simp only [n1, n2, n3, n4, e5, e9, e23, e30, e7]
  refine ⟨⟨r1, fun i hi => inb_up (r2 i hi) (Nat.le_succ _), r3, fun i hi => ?_, r5, r6⟩, hA, hQ⟩
  unfold rPart1
  by_cases q : i = nh c
  · subst q
    refine ⟨Or.inr ?_, Or.inl ?_⟩
    · rw [u3_ap, if_neg (fun z => absurd z.1 (by decide)), u3_ap, if_neg (fun z => absurd z.1 (by decide)), u3_ap, if_pos ⟨rfl, rfl, rfl⟩]; exact hp
    · rw [u3_ap, if_neg (fun z => absurd z.1 (by decide)), u3_ap, if_pos ⟨rfl, rfl, rfl⟩]
  · have hi2 : i < nh c := by omega
    refine ⟨?_, ?_⟩
    · rw [u3_ap, if_neg (fun z => absurd z.1 (by decide)), u3_ap, if_neg (fun z => absurd z.1 (by decide)), u3_ap, if_neg (fun z => q z.2.2), zr_at (hl3 i hi2).1 (hl3 i hi2).2]; exact (r4 i hi2).1
    · rw [u3_ap, if_neg (fun z => absurd z.1 (by decide)), u3_ap, if_neg (fun z => q z.2.2), u3_ap, if_neg (fun z => absurd z.1 (by decide)), zr_at (hl4 i hi2).1 (hl4 i hi2).2]; exact (r4 i hi2).2
noncomputable def SP_X9_part : List ab_V → ab_M → ab_O := fun as m => chs (T_X9_part SP_X9_isNoPerson SP_X9_start SP_X9_isDead SP_Jx4a65c_get_915e3 SP_X9_isHead SP_Jx4a65c_size_8abf5 SP_X9_refuse SP_Jx4a65c_add_9ea2d SP_X9_comesDown) 3 as m (fun r => match as with
  | [_, .inl p] => ∃ (v : Int32) (m' : ab_M), (okV (vI v) m' : ab_O) = some r ∧ (PP m m' 2 17 v (rPart (rc m) p))
  | _ => False)
theorem w_X9_part {m : ab_M} {p : Int32} (r : ab_R) (hmono : mnc m ≤ mnc (resM r) ∧ mns m ≤ mns (resM r)) (hp : ∃ (v : Int32) (m' : ab_M), (okV (vI v) m' : ab_O) = some r ∧ (PP m m' 2 17 v (rPart (rc m) p))) (hK : ∀ K : ab_K, Closed (T_X9_part SP_X9_isNoPerson SP_X9_start SP_X9_isDead SP_Jx4a65c_get_915e3 SP_X9_isHead SP_Jx4a65c_size_8abf5 SP_X9_refuse SP_Jx4a65c_add_9ea2d SP_X9_comesDown) (fun r' => r' = r) K → K 0 [some (vA 62 0), some (vI p), none] [] m) : ∃ r, ((eL [vA 62 0, vI p]).length ≤ 3 ∧ (mnc m ≤ mnc (resM r) ∧ mns m ≤ mns (resM r)) ∧ Comes_to (T_X9_part SP_X9_isNoPerson SP_X9_start SP_X9_isDead SP_Jx4a65c_get_915e3 SP_X9_isHead SP_Jx4a65c_size_8abf5 SP_X9_refuse SP_Jx4a65c_add_9ea2d SP_X9_comesDown) (entry 3 [vA 62 0, vI p]) m r) ∧ ∃ (v : Int32) (m' : ab_M), (okV (vI v) m' : ab_O) = some r ∧ (PP m m' 2 17 v (rPart (rc m) p)) := ⟨r, ⟨by show 2 ≤ 3; decide, hmono, hK⟩, hp⟩
theorem q_X9_part {m : ab_M} {p : Int32} (h1 : RW m) (h2 : RG (rc m)) : ∃ r, ((eL [vA 62 0, vI p]).length ≤ 3 ∧ (mnc m ≤ mnc (resM r) ∧ mns m ≤ mns (resM r)) ∧ Comes_to (T_X9_part SP_X9_isNoPerson SP_X9_start SP_X9_isDead SP_Jx4a65c_get_915e3 SP_X9_isHead SP_Jx4a65c_size_8abf5 SP_X9_refuse SP_Jx4a65c_add_9ea2d SP_X9_comesDown) (entry 3 [vA 62 0, vI p]) m r) ∧ ∃ (v : Int32) (m' : ab_M), (okV (vI v) m' : ab_O) = some r ∧ (PP m m' 2 17 v (rPart (rc m) p)) := by
  unfold rPart
  by_cases z1 : rHas (rc m) p = false
  · rw [if_pos z1]
    refine PPfin _ _ (((PP_1 h1).le (by decide) (by decide))) (by show 2 ≤ 3; decide) (fun K hK => ?_)
    show K 0 [some (vA 62 0), some (vI p), none] [] m
    refine run_sound hK mt_X9_part (T_X9_part SP_X9_isNoPerson SP_X9_start SP_X9_isDead SP_Jx4a65c_get_915e3 SP_X9_isHead SP_Jx4a65c_size_8abf5 SP_X9_refuse SP_Jx4a65c_add_9ea2d SP_X9_comesDown) (fun x hx => hx) _ _ _ _ ?_
    simp only [T_X9_part, nP h1.1 z1, bnf, bI_t, i10, st_1 p12.1, i10, Bool.false_eq_true, Bool.true_eq_false, Bool.not_true, Bool.not_false, ↓run_hit, ↓run_miss, ↓run_none, run_nil, ab_get0, ab_getS, if_true, if_false, if_pos, true_and, and_true, List.append_nil, List.nil_append, List.cons_append, List.length_cons, List.length_nil, List.take_succ_cons, List.take_zero, List.drop_succ_cons, List.drop_zero, List.reverse_cons, List.reverse_nil, List.map_nil, List.map_cons, List.sum_nil, List.sum_cons, rcv_some, rcv_999, wide_I, wide_L, wide_D, wide_R, wide_X, eq_self_iff_true, ite_true, ite_false, ↓reduceIte, Nat.reduceEqDiff, Nat.reduceLeDiff, Nat.reduceLT, Nat.reduceAdd, Nat.reduceMul, Nat.reduceBEq, decide_true, decide_false, and_self, or_self, or_true, true_or, false_or, or_false, and_false, false_and, not_false_eq_true, not_true_eq_false, Nat.zero_le, Nat.le_refl, Nat.add_eq_zero_iff, Nat.succ_ne_self, ↓s_const, ↓s_iload, ↓s_lload, ↓s_dload, ↓s_aload, ↓s_istore, ↓s_lstore, ↓s_dstore, ↓s_astore, ↓s_iinc, ↓s_bin, ↓s_div, ↓s_binL, ↓s_lcmp, ↓s_i2l, ↓s_i2d, ↓s_ddiv, ↓s_dcmpl, ↓s_goto, ↓s_ifeq, ↓s_iflt, ↓s_ifgt, ↓s_cmpeq, ↓s_cmplt, ↓s_cmpgt, ↓s_ifnull, ↓s_aeq, ↓s_pop, ↓s_dup, ↓s_dup2, ↓s_dupx1, ↓s_tab, ↓s_getI, ↓s_getR, ↓s_putI, ↓s_putZ, ↓s_putR, ↓s_ald, ↓s_ast, ↓s_zast, ↓s_lald, ↓s_last, ↓s_dald, ↓s_dast, ↓s_aald, ↓s_aast, ↓s_alen, ↓s_new, ↓s_newa, ↓s_multi, ↓s_cast, ↓s_getE, ↓s_obj, ↓s_mmin, ↓s_mmax, ↓s_hd, ↓s_call, ↓s_throw, ↓s_ret, ↓s_retL, ↓s_retD, ↓s_retA, ↓s_retV, mi_wI, mr_wI, mn_wI, mc_wI, sI_wI, u3_ap, mi_sI, mi_sR, mi_sL, mi_sD, mi_al, mi_bp, mr_sI, mr_sR, mr_sL, mr_sD, mr_al, mr_bp, ml_sI, ml_sR, ml_sL, ml_sD, ml_al, ml_bp, md_sI, md_sR, md_sL, md_sD, md_al, md_bp, mn_sI, mn_sR, mn_sL, mn_sD, mn_al, mn_bp, mc_sI, mc_sR, mc_sL, mc_sD, mc_al, mc_bp, mnc_sI, mnc_sR, mnc_sL, mnc_sD, mnc_al, mnc_bp, mns_sI, mns_sR, mns_sL, mns_sD, mns_al, mns_bp, SK_0, SK_1, SK_2, SK_3, SK_4, SK_5, SK_6, SK_7, SK_8, SK_9, SK_10, SK_11, SK_12, SK_13, SK_14, SK_15, SK_16, SK_17, SK_18, SK_19, SK_20, SK_21, SK_22, SK_23, SK_24, SK_25, SK_26, SK_27, SK_28, SK_29, SK_30, SK_31, SK_32, SK_33, SK_34, SK_35, SK_36, SK_37, SK_38, SK_39, SK_40, SK_41, SK_42, SK_43, SK_44, SK_45, SK_46, SK_47, SK_48, SK_49, SK_50, SK_51, SK_52, SK_53, SK_54, SK_55, SK_56, SK_57, SK_58, SK_59, SK_60, SK_61, SK_62, SK_63, SK_64, SK_65, st1_0, st1_1, st1_2, st1_3, st1_4, st1_5, st1_6, st1_7, st1_8, st2_0, st2_1, st2_2, st2_3, st2_4, st2_5, st2_6, st2_7, clr_I, clr_R, clr_X, clr_L, clr_D, clr_N]
  rw [if_neg z1]
  have y1 : rHas (rc m) p = true := by simpa using z1
  have hin := (rh_P h1.1).mp y1
  have hi := (inb_eq hin).2
  have h12 := h1.1.2.1.2
  have h4 := h1.1.2.2.1.2
  have hnB : np (rc m) < 2147483648 := by omega
  obtain ⟨M, eM, hM⟩ := st_0 h1
  obtain ⟨hW, hF, hR, hT⟩ := id hM
  have b1 := hW.1.1.1
  have b2 := hW.1.1.2.1
  have b3 := hW.1.1.2.2.1
  have b4 := hW.1.1.2.2.2
  have q5 : ∀ i, mi M 48 i 0 = rc m 5 0 i := fun i => by rw [← hR]; rfl
  have q6 : ∀ i, mi M 48 i 1 = rc m 6 0 i := fun i => by rw [← hR]; rfl
  have q7 : ∀ i, mi M 48 i 2 = rc m 7 0 i := fun i => by rw [← hR]; rfl
  have q8 : ∀ i, mi M 48 i 3 = rc m 8 0 i := fun i => by rw [← hR]; rfl
  have q13 : ∀ i, mi M 48 i 4 = rc m 13 0 i := fun i => by rw [← hR]; rfl
  have q9 : ∀ i, mi M 48 i 5 = rc m 9 0 i := fun i => by rw [← hR]; rfl
  have q11 : ∀ i, mi M 48 i 6 = rc m 11 0 i := fun i => by rw [← hR]; rfl
  have q10 : ∀ i, mi M 48 i 7 = rc m 10 0 i := fun i => by rw [← hR]; rfl
  have q12 : ∀ i, mi M 48 i 8 = rc m 12 0 i := fun i => by rw [← hR]; rfl
  have q22 : ∀ i, mi M 52 i 0 = rc m 22 0 i := fun i => by rw [← hR]; rfl
  have q23 : ∀ i, mi M 52 i 1 = rc m 23 0 i := fun i => by rw [← hR]; rfl
  have q24 : ∀ i, mi M 52 i 2 = rc m 24 0 i := fun i => by rw [← hR]; rfl
  have q25 : ∀ i, mi M 52 i 3 = rc m 25 0 i := fun i => by rw [← hR]; rfl
  have q26 : ∀ i, mi M 53 i 0 = rc m 26 0 i := fun i => by rw [← hR]; rfl
  have q27 : ∀ i, mi M 53 i 1 = rc m 27 0 i := fun i => by rw [← hR]; rfl
  have q28 : ∀ i, mi M 53 i 2 = rc m 28 0 i := fun i => by rw [← hR]; rfl
  have q29 : ∀ i, mi M 53 i 3 = rc m 29 0 i := fun i => by rw [← hR]; rfl
  have q30 : ∀ i, mi M 53 i 4 = rc m 30 0 i := fun i => by rw [← hR]; rfl
  have q32 : ∀ i, mi M 53 i 5 = rc m 32 0 i := fun i => by rw [← hR]; rfl
  have q31 : ∀ i, mi M 53 i 6 = rc m 31 0 i := fun i => by rw [← hR]; rfl
  have q61 : mi M 62 0 5 = rc m 61 0 6 := by rw [← hR]; rfl
  have gp := get_P hW.1 (p := p) (by rw [hR]; exact hin)
  have sz := size_H hW.1
  rw [hR] at sz
  by_cases z2 : rc m 13 0 p.toNatClampNeg = 0
  · rw [if_pos z2]
    refine PPfin _ _ (((PP_r hM).le (by decide) (by decide))) (by show 2 ≤ 3; decide) (fun K hK => ?_)
    show K 0 [some (vA 62 0), some (vI p), none] [] m
    refine run_sound hK mt_X9_part (T_X9_part SP_X9_isNoPerson SP_X9_start SP_X9_isDead SP_Jx4a65c_get_915e3 SP_X9_isHead SP_Jx4a65c_size_8abf5 SP_X9_refuse SP_Jx4a65c_add_9ea2d SP_X9_comesDown) (fun x hx => hx) _ _ _ _ ?_
    simp only [T_X9_part, nP h1.1 y1, bnt, bI_f, eM, dP1 hW.1 (p := p) (by rw [hR]; exact hin) (by rw [hR]; exact z2), i10, rf_1 hT p12.2.1, i10, Bool.false_eq_true, Bool.true_eq_false, Bool.not_true, Bool.not_false, ↓run_hit, ↓run_miss, ↓run_none, run_nil, ab_get0, ab_getS, if_true, if_false, if_pos, true_and, and_true, List.append_nil, List.nil_append, List.cons_append, List.length_cons, List.length_nil, List.take_succ_cons, List.take_zero, List.drop_succ_cons, List.drop_zero, List.reverse_cons, List.reverse_nil, List.map_nil, List.map_cons, List.sum_nil, List.sum_cons, rcv_some, rcv_999, wide_I, wide_L, wide_D, wide_R, wide_X, eq_self_iff_true, ite_true, ite_false, ↓reduceIte, Nat.reduceEqDiff, Nat.reduceLeDiff, Nat.reduceLT, Nat.reduceAdd, Nat.reduceMul, Nat.reduceBEq, decide_true, decide_false, and_self, or_self, or_true, true_or, false_or, or_false, and_false, false_and, not_false_eq_true, not_true_eq_false, Nat.zero_le, Nat.le_refl, Nat.add_eq_zero_iff, Nat.succ_ne_self, ↓s_const, ↓s_iload, ↓s_lload, ↓s_dload, ↓s_aload, ↓s_istore, ↓s_lstore, ↓s_dstore, ↓s_astore, ↓s_iinc, ↓s_bin, ↓s_div, ↓s_binL, ↓s_lcmp, ↓s_i2l, ↓s_i2d, ↓s_ddiv, ↓s_dcmpl, ↓s_goto, ↓s_ifeq, ↓s_iflt, ↓s_ifgt, ↓s_cmpeq, ↓s_cmplt, ↓s_cmpgt, ↓s_ifnull, ↓s_aeq, ↓s_pop, ↓s_dup, ↓s_dup2, ↓s_dupx1, ↓s_tab, ↓s_getI, ↓s_getR, ↓s_putI, ↓s_putZ, ↓s_putR, ↓s_ald, ↓s_ast, ↓s_zast, ↓s_lald, ↓s_last, ↓s_dald, ↓s_dast, ↓s_aald, ↓s_aast, ↓s_alen, ↓s_new, ↓s_newa, ↓s_multi, ↓s_cast, ↓s_getE, ↓s_obj, ↓s_mmin, ↓s_mmax, ↓s_hd, ↓s_call, ↓s_throw, ↓s_ret, ↓s_retL, ↓s_retD, ↓s_retA, ↓s_retV, mi_wI, mr_wI, mn_wI, mc_wI, sI_wI, u3_ap, mi_sI, mi_sR, mi_sL, mi_sD, mi_al, mi_bp, mr_sI, mr_sR, mr_sL, mr_sD, mr_al, mr_bp, ml_sI, ml_sR, ml_sL, ml_sD, ml_al, ml_bp, md_sI, md_sR, md_sL, md_sD, md_al, md_bp, mn_sI, mn_sR, mn_sL, mn_sD, mn_al, mn_bp, mc_sI, mc_sR, mc_sL, mc_sD, mc_al, mc_bp, mnc_sI, mnc_sR, mnc_sL, mnc_sD, mnc_al, mnc_bp, mns_sI, mns_sR, mns_sL, mns_sD, mns_al, mns_bp, SK_0, SK_1, SK_2, SK_3, SK_4, SK_5, SK_6, SK_7, SK_8, SK_9, SK_10, SK_11, SK_12, SK_13, SK_14, SK_15, SK_16, SK_17, SK_18, SK_19, SK_20, SK_21, SK_22, SK_23, SK_24, SK_25, SK_26, SK_27, SK_28, SK_29, SK_30, SK_31, SK_32, SK_33, SK_34, SK_35, SK_36, SK_37, SK_38, SK_39, SK_40, SK_41, SK_42, SK_43, SK_44, SK_45, SK_46, SK_47, SK_48, SK_49, SK_50, SK_51, SK_52, SK_53, SK_54, SK_55, SK_56, SK_57, SK_58, SK_59, SK_60, SK_61, SK_62, SK_63, SK_64, SK_65, st1_0, st1_1, st1_2, st1_3, st1_4, st1_5, st1_6, st1_7, st1_8, st2_0, st2_1, st2_2, st2_3, st2_4, st2_5, st2_6, st2_7, clr_I, clr_R, clr_X, clr_L, clr_D, clr_N]
  rw [if_neg z2]
  have d1 := dP0 hW.1 (p := p) (by rw [hR]; exact hin) (by rw [hR]; exact z2)
  by_cases z3 : rc m 7 0 p.toNatClampNeg < 8
  · rw [if_pos z3]
    refine PPfin _ _ (((PP_r hM).le (by decide) (by decide))) (by show 2 ≤ 3; decide) (fun K hK => ?_)
    show K 0 [some (vA 62 0), some (vI p), none] [] m
    refine run_sound hK mt_X9_part (T_X9_part SP_X9_isNoPerson SP_X9_start SP_X9_isDead SP_Jx4a65c_get_915e3 SP_X9_isHead SP_Jx4a65c_size_8abf5 SP_X9_refuse SP_Jx4a65c_add_9ea2d SP_X9_comesDown) (fun x hx => hx) _ _ _ _ ?_
    simp only [T_X9_part, nP h1.1 y1, bnt, bI_f, eM, d1, b1, gp, q7, z3, i10, rf_1 hT p12.2.1, i10, Bool.false_eq_true, Bool.true_eq_false, Bool.not_true, Bool.not_false, ↓run_hit, ↓run_miss, ↓run_none, run_nil, ab_get0, ab_getS, if_true, if_false, if_pos, true_and, and_true, List.append_nil, List.nil_append, List.cons_append, List.length_cons, List.length_nil, List.take_succ_cons, List.take_zero, List.drop_succ_cons, List.drop_zero, List.reverse_cons, List.reverse_nil, List.map_nil, List.map_cons, List.sum_nil, List.sum_cons, rcv_some, rcv_999, wide_I, wide_L, wide_D, wide_R, wide_X, eq_self_iff_true, ite_true, ite_false, ↓reduceIte, Nat.reduceEqDiff, Nat.reduceLeDiff, Nat.reduceLT, Nat.reduceAdd, Nat.reduceMul, Nat.reduceBEq, decide_true, decide_false, and_self, or_self, or_true, true_or, false_or, or_false, and_false, false_and, not_false_eq_true, not_true_eq_false, Nat.zero_le, Nat.le_refl, Nat.add_eq_zero_iff, Nat.succ_ne_self, ↓s_const, ↓s_iload, ↓s_lload, ↓s_dload, ↓s_aload, ↓s_istore, ↓s_lstore, ↓s_dstore, ↓s_astore, ↓s_iinc, ↓s_bin, ↓s_div, ↓s_binL, ↓s_lcmp, ↓s_i2l, ↓s_i2d, ↓s_ddiv, ↓s_dcmpl, ↓s_goto, ↓s_ifeq, ↓s_iflt, ↓s_ifgt, ↓s_cmpeq, ↓s_cmplt, ↓s_cmpgt, ↓s_ifnull, ↓s_aeq, ↓s_pop, ↓s_dup, ↓s_dup2, ↓s_dupx1, ↓s_tab, ↓s_getI, ↓s_getR, ↓s_putI, ↓s_putZ, ↓s_putR, ↓s_ald, ↓s_ast, ↓s_zast, ↓s_lald, ↓s_last, ↓s_dald, ↓s_dast, ↓s_aald, ↓s_aast, ↓s_alen, ↓s_new, ↓s_newa, ↓s_multi, ↓s_cast, ↓s_getE, ↓s_obj, ↓s_mmin, ↓s_mmax, ↓s_hd, ↓s_call, ↓s_throw, ↓s_ret, ↓s_retL, ↓s_retD, ↓s_retA, ↓s_retV, mi_wI, mr_wI, mn_wI, mc_wI, sI_wI, u3_ap, mi_sI, mi_sR, mi_sL, mi_sD, mi_al, mi_bp, mr_sI, mr_sR, mr_sL, mr_sD, mr_al, mr_bp, ml_sI, ml_sR, ml_sL, ml_sD, ml_al, ml_bp, md_sI, md_sR, md_sL, md_sD, md_al, md_bp, mn_sI, mn_sR, mn_sL, mn_sD, mn_al, mn_bp, mc_sI, mc_sR, mc_sL, mc_sD, mc_al, mc_bp, mnc_sI, mnc_sR, mnc_sL, mnc_sD, mnc_al, mnc_bp, mns_sI, mns_sR, mns_sL, mns_sD, mns_al, mns_bp, SK_0, SK_1, SK_2, SK_3, SK_4, SK_5, SK_6, SK_7, SK_8, SK_9, SK_10, SK_11, SK_12, SK_13, SK_14, SK_15, SK_16, SK_17, SK_18, SK_19, SK_20, SK_21, SK_22, SK_23, SK_24, SK_25, SK_26, SK_27, SK_28, SK_29, SK_30, SK_31, SK_32, SK_33, SK_34, SK_35, SK_36, SK_37, SK_38, SK_39, SK_40, SK_41, SK_42, SK_43, SK_44, SK_45, SK_46, SK_47, SK_48, SK_49, SK_50, SK_51, SK_52, SK_53, SK_54, SK_55, SK_56, SK_57, SK_58, SK_59, SK_60, SK_61, SK_62, SK_63, SK_64, SK_65, st1_0, st1_1, st1_2, st1_3, st1_4, st1_5, st1_6, st1_7, st1_8, st2_0, st2_1, st2_2, st2_3, st2_4, st2_5, st2_6, st2_7, clr_I, clr_R, clr_X, clr_L, clr_D, clr_N]
  rw [if_neg z3]
  have hhp := h2.1.2.1 _ hi
  have hd := e_X9_isHead (m := M) (p := p) hW.1 (by rw [hR]; exact hin) (by rw [hR]; exact hhp)
  rw [hR] at hd
  by_cases z4 : rc m 3 0 (rc m 9 0 p.toNatClampNeg).toNatClampNeg = p
  · rw [if_pos z4]
    rw [decide_eq_true z4, bI_t] at hd
    refine PPfin _ _ (((PP_r hM).le (by decide) (by decide))) (by show 2 ≤ 3; decide) (fun K hK => ?_)
    show K 0 [some (vA 62 0), some (vI p), none] [] m
    refine run_sound hK mt_X9_part (T_X9_part SP_X9_isNoPerson SP_X9_start SP_X9_isDead SP_Jx4a65c_get_915e3 SP_X9_isHead SP_Jx4a65c_size_8abf5 SP_X9_refuse SP_Jx4a65c_add_9ea2d SP_X9_comesDown) (fun x hx => hx) _ _ _ _ ?_
    simp only [T_X9_part, nP h1.1 y1, bnt, bI_f, eM, d1, b1, gp, q7, z3, hd, i10, rf_1 hT p12.2.1, i10, Bool.false_eq_true, Bool.true_eq_false, Bool.not_true, Bool.not_false, ↓run_hit, ↓run_miss, ↓run_none, run_nil, ab_get0, ab_getS, if_true, if_false, if_pos, true_and, and_true, List.append_nil, List.nil_append, List.cons_append, List.length_cons, List.length_nil, List.take_succ_cons, List.take_zero, List.drop_succ_cons, List.drop_zero, List.reverse_cons, List.reverse_nil, List.map_nil, List.map_cons, List.sum_nil, List.sum_cons, rcv_some, rcv_999, wide_I, wide_L, wide_D, wide_R, wide_X, eq_self_iff_true, ite_true, ite_false, ↓reduceIte, Nat.reduceEqDiff, Nat.reduceLeDiff, Nat.reduceLT, Nat.reduceAdd, Nat.reduceMul, Nat.reduceBEq, decide_true, decide_false, and_self, or_self, or_true, true_or, false_or, or_false, and_false, false_and, not_false_eq_true, not_true_eq_false, Nat.zero_le, Nat.le_refl, Nat.add_eq_zero_iff, Nat.succ_ne_self, ↓s_const, ↓s_iload, ↓s_lload, ↓s_dload, ↓s_aload, ↓s_istore, ↓s_lstore, ↓s_dstore, ↓s_astore, ↓s_iinc, ↓s_bin, ↓s_div, ↓s_binL, ↓s_lcmp, ↓s_i2l, ↓s_i2d, ↓s_ddiv, ↓s_dcmpl, ↓s_goto, ↓s_ifeq, ↓s_iflt, ↓s_ifgt, ↓s_cmpeq, ↓s_cmplt, ↓s_cmpgt, ↓s_ifnull, ↓s_aeq, ↓s_pop, ↓s_dup, ↓s_dup2, ↓s_dupx1, ↓s_tab, ↓s_getI, ↓s_getR, ↓s_putI, ↓s_putZ, ↓s_putR, ↓s_ald, ↓s_ast, ↓s_zast, ↓s_lald, ↓s_last, ↓s_dald, ↓s_dast, ↓s_aald, ↓s_aast, ↓s_alen, ↓s_new, ↓s_newa, ↓s_multi, ↓s_cast, ↓s_getE, ↓s_obj, ↓s_mmin, ↓s_mmax, ↓s_hd, ↓s_call, ↓s_throw, ↓s_ret, ↓s_retL, ↓s_retD, ↓s_retA, ↓s_retV, mi_wI, mr_wI, mn_wI, mc_wI, sI_wI, u3_ap, mi_sI, mi_sR, mi_sL, mi_sD, mi_al, mi_bp, mr_sI, mr_sR, mr_sL, mr_sD, mr_al, mr_bp, ml_sI, ml_sR, ml_sL, ml_sD, ml_al, ml_bp, md_sI, md_sR, md_sL, md_sD, md_al, md_bp, mn_sI, mn_sR, mn_sL, mn_sD, mn_al, mn_bp, mc_sI, mc_sR, mc_sL, mc_sD, mc_al, mc_bp, mnc_sI, mnc_sR, mnc_sL, mnc_sD, mnc_al, mnc_bp, mns_sI, mns_sR, mns_sL, mns_sD, mns_al, mns_bp, SK_0, SK_1, SK_2, SK_3, SK_4, SK_5, SK_6, SK_7, SK_8, SK_9, SK_10, SK_11, SK_12, SK_13, SK_14, SK_15, SK_16, SK_17, SK_18, SK_19, SK_20, SK_21, SK_22, SK_23, SK_24, SK_25, SK_26, SK_27, SK_28, SK_29, SK_30, SK_31, SK_32, SK_33, SK_34, SK_35, SK_36, SK_37, SK_38, SK_39, SK_40, SK_41, SK_42, SK_43, SK_44, SK_45, SK_46, SK_47, SK_48, SK_49, SK_50, SK_51, SK_52, SK_53, SK_54, SK_55, SK_56, SK_57, SK_58, SK_59, SK_60, SK_61, SK_62, SK_63, SK_64, SK_65, st1_0, st1_1, st1_2, st1_3, st1_4, st1_5, st1_6, st1_7, st1_8, st2_0, st2_1, st2_2, st2_3, st2_4, st2_5, st2_6, st2_7, clr_I, clr_R, clr_X, clr_L, clr_D, clr_N]
  rw [if_neg z4]
  rw [decide_eq_false z4, bI_f] at hd
  by_cases z5 : nh (rc m) = 4
  · rw [if_pos z5]
    refine PPfin _ _ (((PP_r hM).le (by decide) (by decide))) (by show 2 ≤ 3; decide) (fun K hK => ?_)
    show K 0 [some (vA 62 0), some (vI p), none] [] m
    refine run_sound hK mt_X9_part (T_X9_part SP_X9_isNoPerson SP_X9_start SP_X9_isDead SP_Jx4a65c_get_915e3 SP_X9_isHead SP_Jx4a65c_size_8abf5 SP_X9_refuse SP_Jx4a65c_add_9ea2d SP_X9_comesDown) (fun x hx => hx) _ _ _ _ ?_
    simp only [T_X9_part, nP h1.1 y1, bnt, bI_f, eM, d1, b1, b2, gp, q7, z3, hd, sz, z5, show nN 4 = 4 from rfl, i10, rf_1 hT p12.2.1, i10, Bool.false_eq_true, Bool.true_eq_false, Bool.not_true, Bool.not_false, ↓run_hit, ↓run_miss, ↓run_none, run_nil, ab_get0, ab_getS, if_true, if_false, if_pos, true_and, and_true, List.append_nil, List.nil_append, List.cons_append, List.length_cons, List.length_nil, List.take_succ_cons, List.take_zero, List.drop_succ_cons, List.drop_zero, List.reverse_cons, List.reverse_nil, List.map_nil, List.map_cons, List.sum_nil, List.sum_cons, rcv_some, rcv_999, wide_I, wide_L, wide_D, wide_R, wide_X, eq_self_iff_true, ite_true, ite_false, ↓reduceIte, Nat.reduceEqDiff, Nat.reduceLeDiff, Nat.reduceLT, Nat.reduceAdd, Nat.reduceMul, Nat.reduceBEq, decide_true, decide_false, and_self, or_self, or_true, true_or, false_or, or_false, and_false, false_and, not_false_eq_true, not_true_eq_false, Nat.zero_le, Nat.le_refl, Nat.add_eq_zero_iff, Nat.succ_ne_self, ↓s_const, ↓s_iload, ↓s_lload, ↓s_dload, ↓s_aload, ↓s_istore, ↓s_lstore, ↓s_dstore, ↓s_astore, ↓s_iinc, ↓s_bin, ↓s_div, ↓s_binL, ↓s_lcmp, ↓s_i2l, ↓s_i2d, ↓s_ddiv, ↓s_dcmpl, ↓s_goto, ↓s_ifeq, ↓s_iflt, ↓s_ifgt, ↓s_cmpeq, ↓s_cmplt, ↓s_cmpgt, ↓s_ifnull, ↓s_aeq, ↓s_pop, ↓s_dup, ↓s_dup2, ↓s_dupx1, ↓s_tab, ↓s_getI, ↓s_getR, ↓s_putI, ↓s_putZ, ↓s_putR, ↓s_ald, ↓s_ast, ↓s_zast, ↓s_lald, ↓s_last, ↓s_dald, ↓s_dast, ↓s_aald, ↓s_aast, ↓s_alen, ↓s_new, ↓s_newa, ↓s_multi, ↓s_cast, ↓s_getE, ↓s_obj, ↓s_mmin, ↓s_mmax, ↓s_hd, ↓s_call, ↓s_throw, ↓s_ret, ↓s_retL, ↓s_retD, ↓s_retA, ↓s_retV, mi_wI, mr_wI, mn_wI, mc_wI, sI_wI, u3_ap, mi_sI, mi_sR, mi_sL, mi_sD, mi_al, mi_bp, mr_sI, mr_sR, mr_sL, mr_sD, mr_al, mr_bp, ml_sI, ml_sR, ml_sL, ml_sD, ml_al, ml_bp, md_sI, md_sR, md_sL, md_sD, md_al, md_bp, mn_sI, mn_sR, mn_sL, mn_sD, mn_al, mn_bp, mc_sI, mc_sR, mc_sL, mc_sD, mc_al, mc_bp, mnc_sI, mnc_sR, mnc_sL, mnc_sD, mnc_al, mnc_bp, mns_sI, mns_sR, mns_sL, mns_sD, mns_al, mns_bp, SK_0, SK_1, SK_2, SK_3, SK_4, SK_5, SK_6, SK_7, SK_8, SK_9, SK_10, SK_11, SK_12, SK_13, SK_14, SK_15, SK_16, SK_17, SK_18, SK_19, SK_20, SK_21, SK_22, SK_23, SK_24, SK_25, SK_26, SK_27, SK_28, SK_29, SK_30, SK_31, SK_32, SK_33, SK_34, SK_35, SK_36, SK_37, SK_38, SK_39, SK_40, SK_41, SK_42, SK_43, SK_44, SK_45, SK_46, SK_47, SK_48, SK_49, SK_50, SK_51, SK_52, SK_53, SK_54, SK_55, SK_56, SK_57, SK_58, SK_59, SK_60, SK_61, SK_62, SK_63, SK_64, SK_65, st1_0, st1_1, st1_2, st1_3, st1_4, st1_5, st1_6, st1_7, st1_8, st2_0, st2_1, st2_2, st2_3, st2_4, st2_5, st2_6, st2_7, clr_I, clr_R, clr_X, clr_L, clr_D, clr_N]
  rw [if_neg z5]
  have z5' : ¬ nN (nh (rc m)) = 4 := fun z => z5 ((nN_inj (a := nh (rc m)) (b := 4) (by omega) (by decide)).mp z)
  have ra : ∀ (K : ab_K) (R : ab_R → Prop), Closed (T_X9_part SP_X9_isNoPerson SP_X9_start SP_X9_isDead SP_Jx4a65c_get_915e3 SP_X9_isHead SP_Jx4a65c_size_8abf5 SP_X9_refuse SP_Jx4a65c_add_9ea2d SP_X9_comesDown) R K → K 74 [some (vA 62 0), some (vI p), none] [] M → K 0 [some (vA 62 0), some (vI p), none] [] m := by
    intro K R hK hk
    refine run_sound hK mt_X9_part (((T_X9_part SP_X9_isNoPerson SP_X9_start SP_X9_isDead SP_Jx4a65c_get_915e3 SP_X9_isHead SP_Jx4a65c_size_8abf5 SP_X9_refuse SP_Jx4a65c_add_9ea2d SP_X9_comesDown).drop 0).take 37) (fun x hx => List.mem_of_mem_drop (List.mem_of_mem_take hx)) _ _ _ _ ?_
    simp only [T_X9_part, List.take_succ_cons, List.take_zero, List.drop_succ_cons, List.drop_zero, nP h1.1 y1, bnt, bI_f, eM, d1, b1, b2, gp, q7, z3, hd, sz, z5', rf_0 hT, i10, Bool.false_eq_true, Bool.true_eq_false, Bool.not_true, Bool.not_false, ↓run_hit, ↓run_miss, ↓run_none, run_nil, ab_get0, ab_getS, if_true, if_false, if_pos, true_and, and_true, List.append_nil, List.nil_append, List.cons_append, List.length_cons, List.length_nil, List.take_succ_cons, List.take_zero, List.drop_succ_cons, List.drop_zero, List.reverse_cons, List.reverse_nil, List.map_nil, List.map_cons, List.sum_nil, List.sum_cons, rcv_some, rcv_999, wide_I, wide_L, wide_D, wide_R, wide_X, eq_self_iff_true, ite_true, ite_false, ↓reduceIte, Nat.reduceEqDiff, Nat.reduceLeDiff, Nat.reduceLT, Nat.reduceAdd, Nat.reduceMul, Nat.reduceBEq, decide_true, decide_false, and_self, or_self, or_true, true_or, false_or, or_false, and_false, false_and, not_false_eq_true, not_true_eq_false, Nat.zero_le, Nat.le_refl, Nat.add_eq_zero_iff, Nat.succ_ne_self, ↓s_const, ↓s_iload, ↓s_lload, ↓s_dload, ↓s_aload, ↓s_istore, ↓s_lstore, ↓s_dstore, ↓s_astore, ↓s_iinc, ↓s_bin, ↓s_div, ↓s_binL, ↓s_lcmp, ↓s_i2l, ↓s_i2d, ↓s_ddiv, ↓s_dcmpl, ↓s_goto, ↓s_ifeq, ↓s_iflt, ↓s_ifgt, ↓s_cmpeq, ↓s_cmplt, ↓s_cmpgt, ↓s_ifnull, ↓s_aeq, ↓s_pop, ↓s_dup, ↓s_dup2, ↓s_dupx1, ↓s_tab, ↓s_getI, ↓s_getR, ↓s_putI, ↓s_putZ, ↓s_putR, ↓s_ald, ↓s_ast, ↓s_zast, ↓s_lald, ↓s_last, ↓s_dald, ↓s_dast, ↓s_aald, ↓s_aast, ↓s_alen, ↓s_new, ↓s_newa, ↓s_multi, ↓s_cast, ↓s_getE, ↓s_obj, ↓s_mmin, ↓s_mmax, ↓s_hd, ↓s_call, ↓s_throw, ↓s_ret, ↓s_retL, ↓s_retD, ↓s_retA, ↓s_retV, mi_wI, mr_wI, mn_wI, mc_wI, sI_wI, u3_ap, mi_sI, mi_sR, mi_sL, mi_sD, mi_al, mi_bp, mr_sI, mr_sR, mr_sL, mr_sD, mr_al, mr_bp, ml_sI, ml_sR, ml_sL, ml_sD, ml_al, ml_bp, md_sI, md_sR, md_sL, md_sD, md_al, md_bp, mn_sI, mn_sR, mn_sL, mn_sD, mn_al, mn_bp, mc_sI, mc_sR, mc_sL, mc_sD, mc_al, mc_bp, mnc_sI, mnc_sR, mnc_sL, mnc_sD, mnc_al, mnc_bp, mns_sI, mns_sR, mns_sL, mns_sD, mns_al, mns_bp, SK_0, SK_1, SK_2, SK_3, SK_4, SK_5, SK_6, SK_7, SK_8, SK_9, SK_10, SK_11, SK_12, SK_13, SK_14, SK_15, SK_16, SK_17, SK_18, SK_19, SK_20, SK_21, SK_22, SK_23, SK_24, SK_25, SK_26, SK_27, SK_28, SK_29, SK_30, SK_31, SK_32, SK_33, SK_34, SK_35, SK_36, SK_37, SK_38, SK_39, SK_40, SK_41, SK_42, SK_43, SK_44, SK_45, SK_46, SK_47, SK_48, SK_49, SK_50, SK_51, SK_52, SK_53, SK_54, SK_55, SK_56, SK_57, SK_58, SK_59, SK_60, SK_61, SK_62, SK_63, SK_64, SK_65, st1_0, st1_1, st1_2, st1_3, st1_4, st1_5, st1_6, st1_7, st1_8, st2_0, st2_1, st2_2, st2_3, st2_4, st2_5, st2_6, st2_7, clr_I, clr_R, clr_X, clr_L, clr_D, clr_N]
    exact hk
  obtain ⟨hcnt1, hcnt2, hcnt3, hcnt4, hcnt5⟩ := hW.2
  have hh4 : nh (rc m) < 4 := by omega
  have hh0 : 0 < nh (rc m) := by have := (inb_eq hhp).2; omega
  have c51 : mc M 51 = nh (rc m) - 1 := by rw [hcnt4.2, hR]
  have hg1 := RG_part1 h2 hin hh4 hh0
  have hrn : hrow (nh (rc m)) = (51, nh (rc m) - 1) := by unfold hrow; rw [if_neg (by omega)]
  have hl3 : lc 3 0 (nh (rc m)) = some (51, nh (rc m) - 1, 0) := by show some ((hrow (nh (rc m))).1, (hrow (nh (rc m))).2, 0) = _; rw [hrn]
  have hl4 : lc 4 0 (nh (rc m)) = some (51, nh (rc m) - 1, 1) := by show some ((hrow (nh (rc m))).1, (hrow (nh (rc m))).2, 1) = _; rw [hrn]
  have hrc2 : rc (sI (sI (al M 51 2 2) 51 (nh (rc m) - 1) 0 p) 51 (nh (rc m) - 1) 1 (-1)) = u3 (u3 (zr (rc m) 51 (nh (rc m) - 1)) 3 0 (nh (rc m)) p) 4 0 (nh (rc m)) (-1) := by
    rw [rc_sI hl4, rc_sI hl3, rc_alz, hR, c51]
  have mr2 : ∀ a b d, a ≠ 51 → mr (sI (sI (al M 51 2 2) 51 (nh (rc m) - 1) 0 p) 51 (nh (rc m) - 1) 1 (-1)) a b d = mr M a b d := by
    intro a b d ha
    rw [mr_sI, mr_sI, mr_al, u2_ap, if_neg (fun z => ha z.1)]
  have mn2 : ∀ a b, mn (sI (sI (al M 51 2 2) 51 (nh (rc m) - 1) 0 p) 51 (nh (rc m) - 1) 1 (-1)) a b = if a = 51 ∧ b = nh (rc m) - 1 then 2 else mn M a b := by
    intro a b
    rw [mn_sI, mn_sI, mn_al, c51, u2_ap]
  have mc2 : ∀ a, mc (sI (sI (al M 51 2 2) 51 (nh (rc m) - 1) 0 p) 51 (nh (rc m) - 1) 1 (-1)) a = if a = 51 then nh (rc m) - 1 + 1 else mc M a := by
    intro a
    rw [mc_sI, mc_sI, mc_al, c51]; rfl
  have mi2 : ∀ a b d, a ≠ 51 → mi (sI (sI (al M 51 2 2) 51 (nh (rc m) - 1) 0 p) 51 (nh (rc m) - 1) 1 (-1)) a b d = mi M a b d := by
    intro a b d ha
    rw [mi_sI, u3_ap, if_neg (fun z => ha z.1), mi_sI, u3_ap, if_neg (fun z => ha z.1), mi_al, u2_ap, if_neg (fun z => ha z.1)]
  have hFR2 : FR m (sI (sI (al M 51 2 2) 51 (nh (rc m) - 1) 0 p) 51 (nh (rc m) - 1) 1 (-1)) 1 2 := (((hF.trans (FR.oal rfl)).trans (FR.oI rfl)).trans (FR.oI rfl)).le (by decide) (by decide)
  generalize hM2 : sI (sI (al M 51 2 2) 51 (nh (rc m) - 1) 0 p) 51 (nh (rc m) - 1) 1 (-1) = M2 at *
  have hRM2 : RM M2 := RM_of2 hW.1 (fun a b d ha => mr2 a b d (by rintro rfl; rcases ha with z | z | z | (z | z | z | z) | z <;> cases z)) (fun a b ha => by rw [mn2, if_neg]; rintro ⟨rfl, -⟩; rcases ha with z | z | z | (z | z | z | z) <;> cases z)
    ⟨mi2 _ _ _ (by decide), mi2 _ _ _ (by decide), mi2 _ _ _ (by decide), mi2 _ _ _ (by decide)⟩
    (fun i hi => by
      obtain ⟨g1, g2, g3, g4, g5, g6⟩ := hW.1.2.2.2.2.2.1 i hi
      exact ⟨(mr2 48 i 9 (by decide)).trans g1, (mr2 48 i 10 (by decide)).trans g2, by rw [mn2, if_neg (fun z => absurd z.1 (by decide))]; exact g3, by rw [mn2, if_neg (fun z => absurd z.1 (by decide))]; exact g4, (mr2 53 i 7 (by decide)).trans g5, by rw [mn2, if_neg (fun z => absurd z.1 (by decide))]; exact g6⟩)
    (fun i hi => by rw [mn2, if_neg (fun z => absurd z.1 (by decide))]; exact hW.1.2.2.2.2.2.2.1 i hi)
    (fun i hi => by
      rw [mn2]
      split
      · rfl
      · exact hW.1.2.2.2.2.2.2.2 i hi)
  have hRC2 : RC2 M2 := RC2_of hW.2.c2 (fun a b d ha => mr2 a b d (by rintro rfl; rcases ha with z | z | z | z <;> cases z)) (fun a b ha => by rw [mn2, if_neg]; rintro ⟨rfl, -⟩; rcases ha with z | z | z <;> cases z) (fun a ha => by rw [mc2, if_neg]; rintro rfl; rcases ha with z | z <;> cases z) (fun a ha => mi2 _ _ _ (by rintro rfl; rcases ha with z | z | z | z <;> cases z))
  have a36 : rc M2 36 0 0 = rc m 36 0 0 := by
    rw [hrc2, u3_ap, if_neg (fun z => absurd z.1 (by decide)), u3_ap, if_neg (fun z => absurd z.1 (by decide)), zr_at (x := (45, 0, 2)) rfl (fun z => absurd z.1 (by decide))]
  have n2 : nh (rc M2) = nh (rc m) := congrArg Int32.toNatClampNeg a36
  have l2 : Rls M2 45 (nh (rc m)) hrow := by have := hRM2.2.2.1.1; rw [n2] at this; exact this
  obtain ⟨M3, e', ea, hA⟩ := add_AD (x := (51, nh (rc m) - 1)) (f := hrow) (fun i => by rcases hrow_c i with e | e <;> rw [e] <;> exact ⟨Or.inr (Or.inr rfl), by decide⟩) (Or.inr (Or.inl rfl)) l2 (hRC2.2.1 45 (Or.inr (Or.inl rfl))) hRC2.1 (by omega) ⟨Or.inr (Or.inr rfl), by show 2 ≤ 51; decide⟩
  have hA' : AD M2 M3 45 (nh (rc M2)) (51, nh (rc m) - 1) e' := by rw [n2]; exact hA
  obtain ⟨hRM3, hRC3⟩ := RM_AD45 hRM2 hRC2 hA' (by rw [n2]; exact hrn) (by rw [n2]; exact hh4)
  have hrc3 : rc M3 = rPart1 (rc m) p := by
    rw [hA.grc (S := 36) (Or.inr (Or.inl rfl)) rfl rfl, hrc2]
    rfl
  have mc3 : ∀ a, a ≠ 59 → a ≠ 65 → mc M3 a = if a = 51 then nh (rc m) - 1 + 1 else mc M a := fun a h1 h2 => ((hA.2.2.1 a).2 h1 h2).trans (mc2 a)
  have n3h : nh (rPart1 (rc m) p) = nh (rc m) + 1 := by
    show (rPart1 (rc m) p 36 0 0).toNatClampNeg = _
    unfold rPart1
    rw [u3_ap, if_pos ⟨rfl, rfl, rfl⟩]
    exact nN_nat (by omega)
  have n3p : np (rPart1 (rc m) p) = np (rc m) := congrArg Int32.toNatClampNeg (rPart1_at ⟨_, rfl, by decide⟩ (by decide) (by decide) (by decide))
  have n3s : nsc (rPart1 (rc m) p) = nsc (rc m) := congrArg Int32.toNatClampNeg (rPart1_at ⟨_, rfl, by decide⟩ (by decide) (by decide) (by decide))
  have n3u : nu (rPart1 (rc m) p) = nu (rc m) := congrArg Int32.toNatClampNeg (rPart1_at ⟨_, rfl, by decide⟩ (by decide) (by decide) (by decide))
  have hRW3 : RW M3 := by
    refine ⟨hRM3, ⟨?_, ?_, ?_⟩, ?_, ⟨?_, ?_⟩, ⟨?_, ?_⟩, hRC3⟩
    · rw [mc3 _ (by decide) (by decide), if_neg (by decide), hrc3, n3p, ← hR]; exact hcnt1.1
    · rw [mc3 _ (by decide) (by decide), if_neg (by decide), hrc3, n3p, ← hR]; exact hcnt1.2.1
    · rw [mc3 _ (by decide) (by decide), if_neg (by decide), hrc3, n3p, ← hR]; exact hcnt1.2.2
    · rw [mc3 _ (by decide) (by decide), if_neg (by decide), hrc3, n3s, ← hR]; exact hcnt2
    · rw [mc3 _ (by decide) (by decide), if_neg (by decide), hrc3, n3u, ← hR]; exact hcnt3.1
    · rw [mc3 _ (by decide) (by decide), if_neg (by decide), hrc3, n3u, ← hR]; exact hcnt3.2
    · rw [mc3 _ (by decide) (by decide), if_neg (by decide), hrc3, n3h, if_neg (by omega), hcnt4.1, hR, if_neg (by omega)]
    · rw [mc3 _ (by decide) (by decide), if_pos rfl, hrc3, n3h]; omega
  have hth : mi M3 62 0 0 = 0 := by
    have : mi M3 62 0 0 = mi M2 62 0 0 := ((hA.1 62 0 (by decide) (by decide)).1 0).1 (fun z => absurd z.1 (by decide))
    rw [this, mi2 _ _ _ (by decide)]; exact hT
  have pr3 : PR m M3 2 17 (rPart1 (rc m) p) := ⟨(hFR2.trans (hA.fr (Or.inr (Or.inl rfl)))).le (by decide) (by decide), hRW3, hth, hrc3⟩
  -- the loop
  have hcell : ∀ k s i q, s ≠ 9 → fo (fRpart p (nh (rc m))) (rPart1 (rc m) p) k s i q = rPart1 (rc m) p s i q := by
    intro k s i q hs
    refine fo_cell (fun j a => ?_) k
    unfold fRpart
    repeat' split
    all_goals first | rfl | rw [u3_ap, if_neg (fun z => hs z.1)]
  have hvn : inb (nN (nh (rc m) + 1) - 1) (nh (rPart1 (rc m) p)) := by rw [nN_sub1, n3h, inb_nN (by omega)]; omega
  have hgi := fo_inv (f := fRpart p (nh (rc m))) (s := rPart1 (rc m) p) (n := np (rc m)) (fun _ a => RG a ∧ nh a = nh (rPart1 (rc m) p)) ⟨hg1, rfl⟩ (by
    intro i a _ ha
    have hu : RG (u3 a 9 0 i (nN (nh (rc m) + 1) - 1)) ∧ nh (u3 a 9 0 i (nN (nh (rc m) + 1) - 1)) = nh (rPart1 (rc m) p) := ⟨RG_u9 ha.1 (by rw [ha.2]; exact hvn), by unfold nh at ha ⊢; rw [u3_ap, if_neg (fun z => absurd z.1 (by decide))]; exact ha.2⟩
    unfold fRpart
    repeat' split
    all_goals first | exact hu | exact ha)
  have hni : ∀ k, np (fo (fRpart p (nh (rc m))) (rPart1 (rc m) p) k) = np (rc m) := fun k => (congrArg Int32.toNatClampNeg (hcell k 35 0 0 (by decide))).trans n3p
  obtain ⟨ls4, M4, ⟨rfl, pr4⟩, gg4⟩ := gto_ex (T := T_X9_part SP_X9_isNoPerson SP_X9_start SP_X9_isDead SP_Jx4a65c_get_915e3 SP_X9_isHead SP_Jx4a65c_size_8abf5 SP_X9_refuse SP_Jx4a65c_add_9ea2d SP_X9_comesDown) (pc := 95) (n := np (rc m)) (fun k ls N => ls = [some (vA 62 0), some (vI p), some (vI (nN k))] ∧ PR m N 2 17 (fo (fRpart p (nh (rc m))) (rPart1 (rc m) p) k)) (by
    rintro k ls N hk ⟨rfl, pr⟩
    have hkB : k < 2147483648 := by omega
    obtain ⟨hgk, hnk⟩ := hgi k (by omega)
    have hnp := hni k
    have sz := size_P pr.2.1.1
    rw [pr.2.2.2, hnp] at sz
    have szH := size_H pr.2.1.1
    rw [pr.2.2.2, hnk, n3h] at szH
    have gk := get_P pr.2.1.1 (p := nN k) (by rw [pr.2.2.2, hnp, inb_nN hkB]; exact hk)
    rw [nN_nat hkB] at gk
    have b19 := pr.2.1.1.1.1
    have b29 := pr.2.1.1.1.2.1
    have cd := e_X9_comesDown (m := N) (p := nN k) (g := p) pr.2.1.1 (by rw [pr.2.2.2]; exact hgk.1) (by rw [pr.2.2.2]; exact hgk.2.1) (by rw [pr.2.2.2, hnp, inb_nN hkB]; exact hk)
    rw [pr.2.2.2, nN_nat hkB] at cd
    rw [show ∀ (A : Nat → ab_C → ab_C) (s0 : ab_C), fo A s0 (k + 1) = A k (fo A s0 k) from fun _ _ => rfl]
    generalize fo (fRpart p (nh (rc m))) (rPart1 (rc m) p) k = X at *
    by_cases w1 : nN k = p
    · refine ⟨_, sI N 48 k 5 (nN (nh (rc m) + 1) - 1), ⟨rfl, ?_⟩, fun R K hK kk => ?_⟩
      · rw [show fRpart p (nh (rc m)) k X = u3 X 9 0 k (nN (nh (rc m) + 1) - 1) from if_pos w1]
        exact pr.oI (s := 9) (i := 0) (k := k) rfl rfl
      · refine run_sound hK mt_X9_part (T_X9_part_95 SP_X9_isNoPerson SP_X9_start SP_X9_isDead SP_Jx4a65c_get_915e3 SP_X9_isHead SP_Jx4a65c_size_8abf5 SP_X9_refuse SP_Jx4a65c_add_9ea2d SP_X9_comesDown) (fun x hx => List.mem_append_right _ hx) _ _ _ _ ?_
        simp only [T_X9_part_95, b19, b29, sz, szH, nN_lt hkB hnB, hk, eq_true w1, gk, nN_succ, i10, Bool.false_eq_true, Bool.true_eq_false, Bool.not_true, Bool.not_false, ↓run_hit, ↓run_miss, ↓run_none, run_nil, ab_get0, ab_getS, if_true, if_false, if_pos, true_and, and_true, List.append_nil, List.nil_append, List.cons_append, List.length_cons, List.length_nil, List.take_succ_cons, List.take_zero, List.drop_succ_cons, List.drop_zero, List.reverse_cons, List.reverse_nil, List.map_nil, List.map_cons, List.sum_nil, List.sum_cons, rcv_some, rcv_999, wide_I, wide_L, wide_D, wide_R, wide_X, eq_self_iff_true, ite_true, ite_false, ↓reduceIte, Nat.reduceEqDiff, Nat.reduceLeDiff, Nat.reduceLT, Nat.reduceAdd, Nat.reduceMul, Nat.reduceBEq, decide_true, decide_false, and_self, or_self, or_true, true_or, false_or, or_false, and_false, false_and, not_false_eq_true, not_true_eq_false, Nat.zero_le, Nat.le_refl, Nat.add_eq_zero_iff, Nat.succ_ne_self, ↓s_const, ↓s_iload, ↓s_lload, ↓s_dload, ↓s_aload, ↓s_istore, ↓s_lstore, ↓s_dstore, ↓s_astore, ↓s_iinc, ↓s_bin, ↓s_div, ↓s_binL, ↓s_lcmp, ↓s_i2l, ↓s_i2d, ↓s_ddiv, ↓s_dcmpl, ↓s_goto, ↓s_ifeq, ↓s_iflt, ↓s_ifgt, ↓s_cmpeq, ↓s_cmplt, ↓s_cmpgt, ↓s_ifnull, ↓s_aeq, ↓s_pop, ↓s_dup, ↓s_dup2, ↓s_dupx1, ↓s_tab, ↓s_getI, ↓s_getR, ↓s_putI, ↓s_putZ, ↓s_putR, ↓s_ald, ↓s_ast, ↓s_zast, ↓s_lald, ↓s_last, ↓s_dald, ↓s_dast, ↓s_aald, ↓s_aast, ↓s_alen, ↓s_new, ↓s_newa, ↓s_multi, ↓s_cast, ↓s_getE, ↓s_obj, ↓s_mmin, ↓s_mmax, ↓s_hd, ↓s_call, ↓s_throw, ↓s_ret, ↓s_retL, ↓s_retD, ↓s_retA, ↓s_retV, mi_wI, mr_wI, mn_wI, mc_wI, sI_wI, u3_ap, mi_sI, mi_sR, mi_sL, mi_sD, mi_al, mi_bp, mr_sI, mr_sR, mr_sL, mr_sD, mr_al, mr_bp, ml_sI, ml_sR, ml_sL, ml_sD, ml_al, ml_bp, md_sI, md_sR, md_sL, md_sD, md_al, md_bp, mn_sI, mn_sR, mn_sL, mn_sD, mn_al, mn_bp, mc_sI, mc_sR, mc_sL, mc_sD, mc_al, mc_bp, mnc_sI, mnc_sR, mnc_sL, mnc_sD, mnc_al, mnc_bp, mns_sI, mns_sR, mns_sL, mns_sD, mns_al, mns_bp, SK_0, SK_1, SK_2, SK_3, SK_4, SK_5, SK_6, SK_7, SK_8, SK_9, SK_10, SK_11, SK_12, SK_13, SK_14, SK_15, SK_16, SK_17, SK_18, SK_19, SK_20, SK_21, SK_22, SK_23, SK_24, SK_25, SK_26, SK_27, SK_28, SK_29, SK_30, SK_31, SK_32, SK_33, SK_34, SK_35, SK_36, SK_37, SK_38, SK_39, SK_40, SK_41, SK_42, SK_43, SK_44, SK_45, SK_46, SK_47, SK_48, SK_49, SK_50, SK_51, SK_52, SK_53, SK_54, SK_55, SK_56, SK_57, SK_58, SK_59, SK_60, SK_61, SK_62, SK_63, SK_64, SK_65, st1_0, st1_1, st1_2, st1_3, st1_4, st1_5, st1_6, st1_7, st1_8, st2_0, st2_1, st2_2, st2_3, st2_4, st2_5, st2_6, st2_7, clr_I, clr_R, clr_X, clr_L, clr_D, clr_N]
        exact kk
    · cases w2 : cDown X p 12 (X 5 0 k) with
      | true =>
        rw [w2, bI_t] at cd
        refine ⟨_, sI N 48 k 5 (nN (nh (rc m) + 1) - 1), ⟨rfl, ?_⟩, fun R K hK kk => ?_⟩
        · rw [show fRpart p (nh (rc m)) k X = u3 X 9 0 k (nN (nh (rc m) + 1) - 1) from (if_neg w1).trans (if_pos w2)]
          exact pr.oI (s := 9) (i := 0) (k := k) rfl rfl
        · refine run_sound hK mt_X9_part (T_X9_part_95 SP_X9_isNoPerson SP_X9_start SP_X9_isDead SP_Jx4a65c_get_915e3 SP_X9_isHead SP_Jx4a65c_size_8abf5 SP_X9_refuse SP_Jx4a65c_add_9ea2d SP_X9_comesDown) (fun x hx => List.mem_append_right _ hx) _ _ _ _ ?_
          simp only [T_X9_part_95, b19, b29, sz, szH, nN_lt hkB hnB, hk, w1, cd, i10, gk, nN_succ, i10, Bool.false_eq_true, Bool.true_eq_false, Bool.not_true, Bool.not_false, ↓run_hit, ↓run_miss, ↓run_none, run_nil, ab_get0, ab_getS, if_true, if_false, if_pos, true_and, and_true, List.append_nil, List.nil_append, List.cons_append, List.length_cons, List.length_nil, List.take_succ_cons, List.take_zero, List.drop_succ_cons, List.drop_zero, List.reverse_cons, List.reverse_nil, List.map_nil, List.map_cons, List.sum_nil, List.sum_cons, rcv_some, rcv_999, wide_I, wide_L, wide_D, wide_R, wide_X, eq_self_iff_true, ite_true, ite_false, ↓reduceIte, Nat.reduceEqDiff, Nat.reduceLeDiff, Nat.reduceLT, Nat.reduceAdd, Nat.reduceMul, Nat.reduceBEq, decide_true, decide_false, and_self, or_self, or_true, true_or, false_or, or_false, and_false, false_and, not_false_eq_true, not_true_eq_false, Nat.zero_le, Nat.le_refl, Nat.add_eq_zero_iff, Nat.succ_ne_self, ↓s_const, ↓s_iload, ↓s_lload, ↓s_dload, ↓s_aload, ↓s_istore, ↓s_lstore, ↓s_dstore, ↓s_astore, ↓s_iinc, ↓s_bin, ↓s_div, ↓s_binL, ↓s_lcmp, ↓s_i2l, ↓s_i2d, ↓s_ddiv, ↓s_dcmpl, ↓s_goto, ↓s_ifeq, ↓s_iflt, ↓s_ifgt, ↓s_cmpeq, ↓s_cmplt, ↓s_cmpgt, ↓s_ifnull, ↓s_aeq, ↓s_pop, ↓s_dup, ↓s_dup2, ↓s_dupx1, ↓s_tab, ↓s_getI, ↓s_getR, ↓s_putI, ↓s_putZ, ↓s_putR, ↓s_ald, ↓s_ast, ↓s_zast, ↓s_lald, ↓s_last, ↓s_dald, ↓s_dast, ↓s_aald, ↓s_aast, ↓s_alen, ↓s_new, ↓s_newa, ↓s_multi, ↓s_cast, ↓s_getE, ↓s_obj, ↓s_mmin, ↓s_mmax, ↓s_hd, ↓s_call, ↓s_throw, ↓s_ret, ↓s_retL, ↓s_retD, ↓s_retA, ↓s_retV, mi_wI, mr_wI, mn_wI, mc_wI, sI_wI, u3_ap, mi_sI, mi_sR, mi_sL, mi_sD, mi_al, mi_bp, mr_sI, mr_sR, mr_sL, mr_sD, mr_al, mr_bp, ml_sI, ml_sR, ml_sL, ml_sD, ml_al, ml_bp, md_sI, md_sR, md_sL, md_sD, md_al, md_bp, mn_sI, mn_sR, mn_sL, mn_sD, mn_al, mn_bp, mc_sI, mc_sR, mc_sL, mc_sD, mc_al, mc_bp, mnc_sI, mnc_sR, mnc_sL, mnc_sD, mnc_al, mnc_bp, mns_sI, mns_sR, mns_sL, mns_sD, mns_al, mns_bp, SK_0, SK_1, SK_2, SK_3, SK_4, SK_5, SK_6, SK_7, SK_8, SK_9, SK_10, SK_11, SK_12, SK_13, SK_14, SK_15, SK_16, SK_17, SK_18, SK_19, SK_20, SK_21, SK_22, SK_23, SK_24, SK_25, SK_26, SK_27, SK_28, SK_29, SK_30, SK_31, SK_32, SK_33, SK_34, SK_35, SK_36, SK_37, SK_38, SK_39, SK_40, SK_41, SK_42, SK_43, SK_44, SK_45, SK_46, SK_47, SK_48, SK_49, SK_50, SK_51, SK_52, SK_53, SK_54, SK_55, SK_56, SK_57, SK_58, SK_59, SK_60, SK_61, SK_62, SK_63, SK_64, SK_65, st1_0, st1_1, st1_2, st1_3, st1_4, st1_5, st1_6, st1_7, st1_8, st2_0, st2_1, st2_2, st2_3, st2_4, st2_5, st2_6, st2_7, clr_I, clr_R, clr_X, clr_L, clr_D, clr_N]
          exact kk
      | false =>
        rw [w2, bI_f] at cd
        refine ⟨_, N, ⟨rfl, ?_⟩, fun R K hK kk => ?_⟩
        · rw [show fRpart p (nh (rc m)) k X = X from (if_neg w1).trans (if_neg (by rw [w2]; decide))]; exact pr
        · refine run_sound hK mt_X9_part (T_X9_part_95 SP_X9_isNoPerson SP_X9_start SP_X9_isDead SP_Jx4a65c_get_915e3 SP_X9_isHead SP_Jx4a65c_size_8abf5 SP_X9_refuse SP_Jx4a65c_add_9ea2d SP_X9_comesDown) (fun x hx => List.mem_append_right _ hx) _ _ _ _ ?_
          simp only [T_X9_part_95, b19, b29, sz, szH, nN_lt hkB hnB, hk, w1, cd, nN_succ, i10, Bool.false_eq_true, Bool.true_eq_false, Bool.not_true, Bool.not_false, ↓run_hit, ↓run_miss, ↓run_none, run_nil, ab_get0, ab_getS, if_true, if_false, if_pos, true_and, and_true, List.append_nil, List.nil_append, List.cons_append, List.length_cons, List.length_nil, List.take_succ_cons, List.take_zero, List.drop_succ_cons, List.drop_zero, List.reverse_cons, List.reverse_nil, List.map_nil, List.map_cons, List.sum_nil, List.sum_cons, rcv_some, rcv_999, wide_I, wide_L, wide_D, wide_R, wide_X, eq_self_iff_true, ite_true, ite_false, ↓reduceIte, Nat.reduceEqDiff, Nat.reduceLeDiff, Nat.reduceLT, Nat.reduceAdd, Nat.reduceMul, Nat.reduceBEq, decide_true, decide_false, and_self, or_self, or_true, true_or, false_or, or_false, and_false, false_and, not_false_eq_true, not_true_eq_false, Nat.zero_le, Nat.le_refl, Nat.add_eq_zero_iff, Nat.succ_ne_self, ↓s_const, ↓s_iload, ↓s_lload, ↓s_dload, ↓s_aload, ↓s_istore, ↓s_lstore, ↓s_dstore, ↓s_astore, ↓s_iinc, ↓s_bin, ↓s_div, ↓s_binL, ↓s_lcmp, ↓s_i2l, ↓s_i2d, ↓s_ddiv, ↓s_dcmpl, ↓s_goto, ↓s_ifeq, ↓s_iflt, ↓s_ifgt, ↓s_cmpeq, ↓s_cmplt, ↓s_cmpgt, ↓s_ifnull, ↓s_aeq, ↓s_pop, ↓s_dup, ↓s_dup2, ↓s_dupx1, ↓s_tab, ↓s_getI, ↓s_getR, ↓s_putI, ↓s_putZ, ↓s_putR, ↓s_ald, ↓s_ast, ↓s_zast, ↓s_lald, ↓s_last, ↓s_dald, ↓s_dast, ↓s_aald, ↓s_aast, ↓s_alen, ↓s_new, ↓s_newa, ↓s_multi, ↓s_cast, ↓s_getE, ↓s_obj, ↓s_mmin, ↓s_mmax, ↓s_hd, ↓s_call, ↓s_throw, ↓s_ret, ↓s_retL, ↓s_retD, ↓s_retA, ↓s_retV, mi_wI, mr_wI, mn_wI, mc_wI, sI_wI, u3_ap, mi_sI, mi_sR, mi_sL, mi_sD, mi_al, mi_bp, mr_sI, mr_sR, mr_sL, mr_sD, mr_al, mr_bp, ml_sI, ml_sR, ml_sL, ml_sD, ml_al, ml_bp, md_sI, md_sR, md_sL, md_sD, md_al, md_bp, mn_sI, mn_sR, mn_sL, mn_sD, mn_al, mn_bp, mc_sI, mc_sR, mc_sL, mc_sD, mc_al, mc_bp, mnc_sI, mnc_sR, mnc_sL, mnc_sD, mnc_al, mnc_bp, mns_sI, mns_sR, mns_sL, mns_sD, mns_al, mns_bp, SK_0, SK_1, SK_2, SK_3, SK_4, SK_5, SK_6, SK_7, SK_8, SK_9, SK_10, SK_11, SK_12, SK_13, SK_14, SK_15, SK_16, SK_17, SK_18, SK_19, SK_20, SK_21, SK_22, SK_23, SK_24, SK_25, SK_26, SK_27, SK_28, SK_29, SK_30, SK_31, SK_32, SK_33, SK_34, SK_35, SK_36, SK_37, SK_38, SK_39, SK_40, SK_41, SK_42, SK_43, SK_44, SK_45, SK_46, SK_47, SK_48, SK_49, SK_50, SK_51, SK_52, SK_53, SK_54, SK_55, SK_56, SK_57, SK_58, SK_59, SK_60, SK_61, SK_62, SK_63, SK_64, SK_65, st1_0, st1_1, st1_2, st1_3, st1_4, st1_5, st1_6, st1_7, st1_8, st2_0, st2_1, st2_2, st2_3, st2_4, st2_5, st2_6, st2_7, clr_I, clr_R, clr_X, clr_L, clr_D, clr_N]
          exact kk) [some (vA 62 0), some (vI p), some (vI (nN 0))] M3 ⟨rfl, pr3⟩
  have prf : PR m (sI M4 48 p.toNatClampNeg 0 (-1)) 2 17 (rPartX (rc m) p) := pr4.oI (s := 5) (i := 0) (k := p.toNatClampNeg) rfl rfl
  have sz4 := size_P pr4.2.1.1
  rw [pr4.2.2.2, hni] at sz4
  have gp4 := get_P pr4.2.1.1 (p := p) (by rw [pr4.2.2.2, hni]; exact hin)
  have b14 := pr4.2.1.1.1.1
  have b25 := prf.2.1.1.1.2.1
  have szf := size_H prf.2.1.1
  have hnf : nh (rPartX (rc m) p) = nh (rc m) + 1 := by
    show (rPartX (rc m) p 36 0 0).toNatClampNeg = _
    unfold rPartX
    rw [u3_ap, if_neg (fun z => absurd z.1 (by decide)), hcell _ 36 0 0 (by decide)]
    exact n3h
  rw [prf.2.2.2, hnf] at szf
  refine PPfin _ _ prf.pp (by show 2 ≤ 3; decide) (fun K hK => ra K _ hK ?_)
  have k6 : K 164 [some (vA 62 0), some (vI p), some (vI (nN (np (rc m))))] [] (sI M4 48 p.toNatClampNeg 0 (-1)) := by
    generalize sI M4 48 p.toNatClampNeg 0 (-1) = MF at *
    refine run_sound hK mt_X9_part (((T_X9_part_95 SP_X9_isNoPerson SP_X9_start SP_X9_isDead SP_Jx4a65c_get_915e3 SP_X9_isHead SP_Jx4a65c_size_8abf5 SP_X9_refuse SP_Jx4a65c_add_9ea2d SP_X9_comesDown).drop 33).take 6) (fun x hx => List.mem_append_right _ (List.mem_of_mem_drop (List.mem_of_mem_take hx))) _ _ _ _ ?_
    simp only [T_X9_part_95, List.take_succ_cons, List.take_zero, List.drop_succ_cons, List.drop_zero, b25, szf, i10, Bool.false_eq_true, Bool.true_eq_false, Bool.not_true, Bool.not_false, ↓run_hit, ↓run_miss, ↓run_none, run_nil, ab_get0, ab_getS, if_true, if_false, if_pos, true_and, and_true, List.append_nil, List.nil_append, List.cons_append, List.length_cons, List.length_nil, List.take_succ_cons, List.take_zero, List.drop_succ_cons, List.drop_zero, List.reverse_cons, List.reverse_nil, List.map_nil, List.map_cons, List.sum_nil, List.sum_cons, rcv_some, rcv_999, wide_I, wide_L, wide_D, wide_R, wide_X, eq_self_iff_true, ite_true, ite_false, ↓reduceIte, Nat.reduceEqDiff, Nat.reduceLeDiff, Nat.reduceLT, Nat.reduceAdd, Nat.reduceMul, Nat.reduceBEq, decide_true, decide_false, and_self, or_self, or_true, true_or, false_or, or_false, and_false, false_and, not_false_eq_true, not_true_eq_false, Nat.zero_le, Nat.le_refl, Nat.add_eq_zero_iff, Nat.succ_ne_self, ↓s_const, ↓s_iload, ↓s_lload, ↓s_dload, ↓s_aload, ↓s_istore, ↓s_lstore, ↓s_dstore, ↓s_astore, ↓s_iinc, ↓s_bin, ↓s_div, ↓s_binL, ↓s_lcmp, ↓s_i2l, ↓s_i2d, ↓s_ddiv, ↓s_dcmpl, ↓s_goto, ↓s_ifeq, ↓s_iflt, ↓s_ifgt, ↓s_cmpeq, ↓s_cmplt, ↓s_cmpgt, ↓s_ifnull, ↓s_aeq, ↓s_pop, ↓s_dup, ↓s_dup2, ↓s_dupx1, ↓s_tab, ↓s_getI, ↓s_getR, ↓s_putI, ↓s_putZ, ↓s_putR, ↓s_ald, ↓s_ast, ↓s_zast, ↓s_lald, ↓s_last, ↓s_dald, ↓s_dast, ↓s_aald, ↓s_aast, ↓s_alen, ↓s_new, ↓s_newa, ↓s_multi, ↓s_cast, ↓s_getE, ↓s_obj, ↓s_mmin, ↓s_mmax, ↓s_hd, ↓s_call, ↓s_throw, ↓s_ret, ↓s_retL, ↓s_retD, ↓s_retA, ↓s_retV, mi_wI, mr_wI, mn_wI, mc_wI, sI_wI, u3_ap, mi_sI, mi_sR, mi_sL, mi_sD, mi_al, mi_bp, mr_sI, mr_sR, mr_sL, mr_sD, mr_al, mr_bp, ml_sI, ml_sR, ml_sL, ml_sD, ml_al, ml_bp, md_sI, md_sR, md_sL, md_sD, md_al, md_bp, mn_sI, mn_sR, mn_sL, mn_sD, mn_al, mn_bp, mc_sI, mc_sR, mc_sL, mc_sD, mc_al, mc_bp, mnc_sI, mnc_sR, mnc_sL, mnc_sD, mnc_al, mnc_bp, mns_sI, mns_sR, mns_sL, mns_sD, mns_al, mns_bp, SK_0, SK_1, SK_2, SK_3, SK_4, SK_5, SK_6, SK_7, SK_8, SK_9, SK_10, SK_11, SK_12, SK_13, SK_14, SK_15, SK_16, SK_17, SK_18, SK_19, SK_20, SK_21, SK_22, SK_23, SK_24, SK_25, SK_26, SK_27, SK_28, SK_29, SK_30, SK_31, SK_32, SK_33, SK_34, SK_35, SK_36, SK_37, SK_38, SK_39, SK_40, SK_41, SK_42, SK_43, SK_44, SK_45, SK_46, SK_47, SK_48, SK_49, SK_50, SK_51, SK_52, SK_53, SK_54, SK_55, SK_56, SK_57, SK_58, SK_59, SK_60, SK_61, SK_62, SK_63, SK_64, SK_65, st1_0, st1_1, st1_2, st1_3, st1_4, st1_5, st1_6, st1_7, st1_8, st2_0, st2_1, st2_2, st2_3, st2_4, st2_5, st2_6, st2_7, clr_I, clr_R, clr_X, clr_L, clr_D, clr_N]
  have k5 : K 95 [some (vA 62 0), some (vI p), some (vI (nN (np (rc m))))] [] M4 := by
    refine run_sound hK mt_X9_part (((T_X9_part_95 SP_X9_isNoPerson SP_X9_start SP_X9_isDead SP_Jx4a65c_get_915e3 SP_X9_isHead SP_Jx4a65c_size_8abf5 SP_X9_refuse SP_Jx4a65c_add_9ea2d SP_X9_comesDown).drop 0).take 33) (fun x hx => List.mem_append_right _ (List.mem_of_mem_drop (List.mem_of_mem_take hx))) _ _ _ _ ?_
    simp only [T_X9_part_95, List.take_succ_cons, List.take_zero, List.drop_succ_cons, List.drop_zero, b14, sz4, nN_lt hnB hnB, Nat.lt_irrefl, gp4, i10, Bool.false_eq_true, Bool.true_eq_false, Bool.not_true, Bool.not_false, ↓run_hit, ↓run_miss, ↓run_none, run_nil, ab_get0, ab_getS, if_true, if_false, if_pos, true_and, and_true, List.append_nil, List.nil_append, List.cons_append, List.length_cons, List.length_nil, List.take_succ_cons, List.take_zero, List.drop_succ_cons, List.drop_zero, List.reverse_cons, List.reverse_nil, List.map_nil, List.map_cons, List.sum_nil, List.sum_cons, rcv_some, rcv_999, wide_I, wide_L, wide_D, wide_R, wide_X, eq_self_iff_true, ite_true, ite_false, ↓reduceIte, Nat.reduceEqDiff, Nat.reduceLeDiff, Nat.reduceLT, Nat.reduceAdd, Nat.reduceMul, Nat.reduceBEq, decide_true, decide_false, and_self, or_self, or_true, true_or, false_or, or_false, and_false, false_and, not_false_eq_true, not_true_eq_false, Nat.zero_le, Nat.le_refl, Nat.add_eq_zero_iff, Nat.succ_ne_self, ↓s_const, ↓s_iload, ↓s_lload, ↓s_dload, ↓s_aload, ↓s_istore, ↓s_lstore, ↓s_dstore, ↓s_astore, ↓s_iinc, ↓s_bin, ↓s_div, ↓s_binL, ↓s_lcmp, ↓s_i2l, ↓s_i2d, ↓s_ddiv, ↓s_dcmpl, ↓s_goto, ↓s_ifeq, ↓s_iflt, ↓s_ifgt, ↓s_cmpeq, ↓s_cmplt, ↓s_cmpgt, ↓s_ifnull, ↓s_aeq, ↓s_pop, ↓s_dup, ↓s_dup2, ↓s_dupx1, ↓s_tab, ↓s_getI, ↓s_getR, ↓s_putI, ↓s_putZ, ↓s_putR, ↓s_ald, ↓s_ast, ↓s_zast, ↓s_lald, ↓s_last, ↓s_dald, ↓s_dast, ↓s_aald, ↓s_aast, ↓s_alen, ↓s_new, ↓s_newa, ↓s_multi, ↓s_cast, ↓s_getE, ↓s_obj, ↓s_mmin, ↓s_mmax, ↓s_hd, ↓s_call, ↓s_throw, ↓s_ret, ↓s_retL, ↓s_retD, ↓s_retA, ↓s_retV, mi_wI, mr_wI, mn_wI, mc_wI, sI_wI, u3_ap, mi_sI, mi_sR, mi_sL, mi_sD, mi_al, mi_bp, mr_sI, mr_sR, mr_sL, mr_sD, mr_al, mr_bp, ml_sI, ml_sR, ml_sL, ml_sD, ml_al, ml_bp, md_sI, md_sR, md_sL, md_sD, md_al, md_bp, mn_sI, mn_sR, mn_sL, mn_sD, mn_al, mn_bp, mc_sI, mc_sR, mc_sL, mc_sD, mc_al, mc_bp, mnc_sI, mnc_sR, mnc_sL, mnc_sD, mnc_al, mnc_bp, mns_sI, mns_sR, mns_sL, mns_sD, mns_al, mns_bp, SK_0, SK_1, SK_2, SK_3, SK_4, SK_5, SK_6, SK_7, SK_8, SK_9, SK_10, SK_11, SK_12, SK_13, SK_14, SK_15, SK_16, SK_17, SK_18, SK_19, SK_20, SK_21, SK_22, SK_23, SK_24, SK_25, SK_26, SK_27, SK_28, SK_29, SK_30, SK_31, SK_32, SK_33, SK_34, SK_35, SK_36, SK_37, SK_38, SK_39, SK_40, SK_41, SK_42, SK_43, SK_44, SK_45, SK_46, SK_47, SK_48, SK_49, SK_50, SK_51, SK_52, SK_53, SK_54, SK_55, SK_56, SK_57, SK_58, SK_59, SK_60, SK_61, SK_62, SK_63, SK_64, SK_65, st1_0, st1_1, st1_2, st1_3, st1_4, st1_5, st1_6, st1_7, st1_8, st2_0, st2_1, st2_2, st2_3, st2_4, st2_5, st2_6, st2_7, clr_I, clr_R, clr_X, clr_L, clr_D, clr_N]
    exact k6
  have k4 := gg4 _ K hK k5
  have k3 : K 89 [some (vA 62 0), some (vI p), none] [vA 51 (nh (rc m) - 1), vA 45 0] M2 := by
    refine run_sound hK mt_X9_part (((T_X9_part SP_X9_isNoPerson SP_X9_start SP_X9_isDead SP_Jx4a65c_get_915e3 SP_X9_isHead SP_Jx4a65c_size_8abf5 SP_X9_refuse SP_Jx4a65c_add_9ea2d SP_X9_comesDown).drop 49).take 4) (fun x hx => List.mem_of_mem_drop (List.mem_of_mem_take hx)) _ _ _ _ ?_
    simp only [T_X9_part, List.take_succ_cons, List.take_zero, List.drop_succ_cons, List.drop_zero, ea, i10, Bool.false_eq_true, Bool.true_eq_false, Bool.not_true, Bool.not_false, ↓run_hit, ↓run_miss, ↓run_none, run_nil, ab_get0, ab_getS, if_true, if_false, if_pos, true_and, and_true, List.append_nil, List.nil_append, List.cons_append, List.length_cons, List.length_nil, List.take_succ_cons, List.take_zero, List.drop_succ_cons, List.drop_zero, List.reverse_cons, List.reverse_nil, List.map_nil, List.map_cons, List.sum_nil, List.sum_cons, rcv_some, rcv_999, wide_I, wide_L, wide_D, wide_R, wide_X, eq_self_iff_true, ite_true, ite_false, ↓reduceIte, Nat.reduceEqDiff, Nat.reduceLeDiff, Nat.reduceLT, Nat.reduceAdd, Nat.reduceMul, Nat.reduceBEq, decide_true, decide_false, and_self, or_self, or_true, true_or, false_or, or_false, and_false, false_and, not_false_eq_true, not_true_eq_false, Nat.zero_le, Nat.le_refl, Nat.add_eq_zero_iff, Nat.succ_ne_self, ↓s_const, ↓s_iload, ↓s_lload, ↓s_dload, ↓s_aload, ↓s_istore, ↓s_lstore, ↓s_dstore, ↓s_astore, ↓s_iinc, ↓s_bin, ↓s_div, ↓s_binL, ↓s_lcmp, ↓s_i2l, ↓s_i2d, ↓s_ddiv, ↓s_dcmpl, ↓s_goto, ↓s_ifeq, ↓s_iflt, ↓s_ifgt, ↓s_cmpeq, ↓s_cmplt, ↓s_cmpgt, ↓s_ifnull, ↓s_aeq, ↓s_pop, ↓s_dup, ↓s_dup2, ↓s_dupx1, ↓s_tab, ↓s_getI, ↓s_getR, ↓s_putI, ↓s_putZ, ↓s_putR, ↓s_ald, ↓s_ast, ↓s_zast, ↓s_lald, ↓s_last, ↓s_dald, ↓s_dast, ↓s_aald, ↓s_aast, ↓s_alen, ↓s_new, ↓s_newa, ↓s_multi, ↓s_cast, ↓s_getE, ↓s_obj, ↓s_mmin, ↓s_mmax, ↓s_hd, ↓s_call, ↓s_throw, ↓s_ret, ↓s_retL, ↓s_retD, ↓s_retA, ↓s_retV, mi_wI, mr_wI, mn_wI, mc_wI, sI_wI, u3_ap, mi_sI, mi_sR, mi_sL, mi_sD, mi_al, mi_bp, mr_sI, mr_sR, mr_sL, mr_sD, mr_al, mr_bp, ml_sI, ml_sR, ml_sL, ml_sD, ml_al, ml_bp, md_sI, md_sR, md_sL, md_sD, md_al, md_bp, mn_sI, mn_sR, mn_sL, mn_sD, mn_al, mn_bp, mc_sI, mc_sR, mc_sL, mc_sD, mc_al, mc_bp, mnc_sI, mnc_sR, mnc_sL, mnc_sD, mnc_al, mnc_bp, mns_sI, mns_sR, mns_sL, mns_sD, mns_al, mns_bp, SK_0, SK_1, SK_2, SK_3, SK_4, SK_5, SK_6, SK_7, SK_8, SK_9, SK_10, SK_11, SK_12, SK_13, SK_14, SK_15, SK_16, SK_17, SK_18, SK_19, SK_20, SK_21, SK_22, SK_23, SK_24, SK_25, SK_26, SK_27, SK_28, SK_29, SK_30, SK_31, SK_32, SK_33, SK_34, SK_35, SK_36, SK_37, SK_38, SK_39, SK_40, SK_41, SK_42, SK_43, SK_44, SK_45, SK_46, SK_47, SK_48, SK_49, SK_50, SK_51, SK_52, SK_53, SK_54, SK_55, SK_56, SK_57, SK_58, SK_59, SK_60, SK_61, SK_62, SK_63, SK_64, SK_65, st1_0, st1_1, st1_2, st1_3, st1_4, st1_5, st1_6, st1_7, st1_8, st2_0, st2_1, st2_2, st2_3, st2_4, st2_5, st2_6, st2_7, clr_I, clr_R, clr_X, clr_L, clr_D, clr_N]
    exact k4
  refine run_sound hK mt_X9_part (((T_X9_part SP_X9_isNoPerson SP_X9_start SP_X9_isDead SP_Jx4a65c_get_915e3 SP_X9_isHead SP_Jx4a65c_size_8abf5 SP_X9_refuse SP_Jx4a65c_add_9ea2d SP_X9_comesDown).drop 37).take 12) (fun x hx => List.mem_of_mem_drop (List.mem_of_mem_take hx)) _ _ _ _ ?_
  simp only [T_X9_part, List.take_succ_cons, List.take_zero, List.drop_succ_cons, List.drop_zero, b2, show (2 : Int32).toNatClampNeg = 2 from rfl, show ((2 : Int32) < 0) = False from eq_false (by decide), c51, u2_ap, inb01.1, inb01.2, tn0, tn1, hM2, i10, Bool.false_eq_true, Bool.true_eq_false, Bool.not_true, Bool.not_false, ↓run_hit, ↓run_miss, ↓run_none, run_nil, ab_get0, ab_getS, if_true, if_false, if_pos, true_and, and_true, List.append_nil, List.nil_append, List.cons_append, List.length_cons, List.length_nil, List.take_succ_cons, List.take_zero, List.drop_succ_cons, List.drop_zero, List.reverse_cons, List.reverse_nil, List.map_nil, List.map_cons, List.sum_nil, List.sum_cons, rcv_some, rcv_999, wide_I, wide_L, wide_D, wide_R, wide_X, eq_self_iff_true, ite_true, ite_false, ↓reduceIte, Nat.reduceEqDiff, Nat.reduceLeDiff, Nat.reduceLT, Nat.reduceAdd, Nat.reduceMul, Nat.reduceBEq, decide_true, decide_false, and_self, or_self, or_true, true_or, false_or, or_false, and_false, false_and, not_false_eq_true, not_true_eq_false, Nat.zero_le, Nat.le_refl, Nat.add_eq_zero_iff, Nat.succ_ne_self, ↓s_const, ↓s_iload, ↓s_lload, ↓s_dload, ↓s_aload, ↓s_istore, ↓s_lstore, ↓s_dstore, ↓s_astore, ↓s_iinc, ↓s_bin, ↓s_div, ↓s_binL, ↓s_lcmp, ↓s_i2l, ↓s_i2d, ↓s_ddiv, ↓s_dcmpl, ↓s_goto, ↓s_ifeq, ↓s_iflt, ↓s_ifgt, ↓s_cmpeq, ↓s_cmplt, ↓s_cmpgt, ↓s_ifnull, ↓s_aeq, ↓s_pop, ↓s_dup, ↓s_dup2, ↓s_dupx1, ↓s_tab, ↓s_getI, ↓s_getR, ↓s_putI, ↓s_putZ, ↓s_putR, ↓s_ald, ↓s_ast, ↓s_zast, ↓s_lald, ↓s_last, ↓s_dald, ↓s_dast, ↓s_aald, ↓s_aast, ↓s_alen, ↓s_new, ↓s_newa, ↓s_multi, ↓s_cast, ↓s_getE, ↓s_obj, ↓s_mmin, ↓s_mmax, ↓s_hd, ↓s_call, ↓s_throw, ↓s_ret, ↓s_retL, ↓s_retD, ↓s_retA, ↓s_retV, mi_wI, mr_wI, mn_wI, mc_wI, sI_wI, u3_ap, mi_sI, mi_sR, mi_sL, mi_sD, mi_al, mi_bp, mr_sI, mr_sR, mr_sL, mr_sD, mr_al, mr_bp, ml_sI, ml_sR, ml_sL, ml_sD, ml_al, ml_bp, md_sI, md_sR, md_sL, md_sD, md_al, md_bp, mn_sI, mn_sR, mn_sL, mn_sD, mn_al, mn_bp, mc_sI, mc_sR, mc_sL, mc_sD, mc_al, mc_bp, mnc_sI, mnc_sR, mnc_sL, mnc_sD, mnc_al, mnc_bp, mns_sI, mns_sR, mns_sL, mns_sD, mns_al, mns_bp, SK_0, SK_1, SK_2, SK_3, SK_4, SK_5, SK_6, SK_7, SK_8, SK_9, SK_10, SK_11, SK_12, SK_13, SK_14, SK_15, SK_16, SK_17, SK_18, SK_19, SK_20, SK_21, SK_22, SK_23, SK_24, SK_25, SK_26, SK_27, SK_28, SK_29, SK_30, SK_31, SK_32, SK_33, SK_34, SK_35, SK_36, SK_37, SK_38, SK_39, SK_40, SK_41, SK_42, SK_43, SK_44, SK_45, SK_46, SK_47, SK_48, SK_49, SK_50, SK_51, SK_52, SK_53, SK_54, SK_55, SK_56, SK_57, SK_58, SK_59, SK_60, SK_61, SK_62, SK_63, SK_64, SK_65, st1_0, st1_1, st1_2, st1_3, st1_4, st1_5, st1_6, st1_7, st1_8, st2_0, st2_1, st2_2, st2_3, st2_4, st2_5, st2_6, st2_7, clr_I, clr_R, clr_X, clr_L, clr_D, clr_N]
  exact k3
theorem e_X9_part {m : ab_M} {p : Int32} (h1 : RW m) (h2 : RG (rc m)) : ∃ (v : Int32) (m' : ab_M), SP_X9_part [vA 62 0, vI p] m = (okV (vI v) m' : ab_O) ∧ (PP m m' 2 17 v (rPart (rc m) p)) := by
  obtain ⟨r, h8, v, m', h7, h9⟩ := chs_ok (q_X9_part (m := m) (p := p) h1 h2)
  exact ⟨v, m', h8.trans h7.symm, h9⟩
theorem C_X9_part {l : Launch} {D : va_G} {cA : Nat → ClassId} {d : Nat} (hst : l.stackTraces = false) (hd : 10 ≤ d) : ∀ (as : List ab_V) (m : ab_M), Ctr l D cA d yX9_part (Cond.code yX9_part cX9_part 3 (some .int) :: TB) as m (SP_X9_part as m) := fun as m => ctr_chs (by decide +kernel) hst (by omega) (snd_X9_part (d' := 9) (hd9 := by omega) (hC_X9_isNoPerson := C_X9_isNoPerson hst (by omega)) (hC_X9_start := C_X9_start hst (by omega)) (hC_X9_isDead := C_X9_isDead hst (by omega)) (hC_Jx4a65c_get_915e3 := C_Jx4a65c_get_915e3 hst (by omega)) (hC_X9_isHead := C_X9_isHead hst (by omega)) (hC_Jx4a65c_size_8abf5 := C_Jx4a65c_size_8abf5 hst (by omega)) (hC_X9_refuse := C_X9_refuse hst (by omega)) (hC_Jx4a65c_add_9ea2d := C_Jx4a65c_add_9ea2d hst (by omega)) (hC_X9_comesDown := C_X9_comesDown hst (by omega)))
def rPer0 (c : ab_C) (n : Nat) (t k h : Int32) : ab_C := u3 (u3 (u3 (zr (zr (u3 (u3 (zr c 48 n) 8 0 n 60) 13 0 n 1) 41 n) 42 n) 5 0 n t) 6 0 n k) 9 0 n h
theorem mPerson_rest {m : ab_M} {o : Nat} {t k h : Int32} : (∀ a b d, mr (mPerson m o t k h) a b d = if a = 48 ∧ b = o ∧ d = 10 then some (42, mc m 42) else if a = 48 ∧ b = o ∧ d = 9 then some (41, mc m 41) else if a = 42 ∧ b = mc m 42 then none else if a = 41 ∧ b = mc m 41 then none else mr m a b d) ∧
    (∀ a b, mn (mPerson m o t k h) a b = if a = 42 ∧ b = mc m 42 then 10 else if a = 41 ∧ b = mc m 41 then 10 else mn m a b) ∧ (∀ a, mc (mPerson m o t k h) a = if a = 42 then mc m 42 + 1 else if a = 41 then mc m 41 + 1 else mc m a) ∧
    (∀ a b d, a ≠ 48 → a ≠ 41 → a ≠ 42 → mi (mPerson m o t k h) a b d = mi m a b d) := by
  refine ⟨fun a b d => ?_, fun a b => ?_, fun a => ?_, fun a b d h48 h41 h42 => ?_⟩
  · unfold mPerson
    simp only [mr_sI, mr_sR, mr_al, u3_ap, u2_ap, mc_sR, mc_al, mc_sI, u1_ap, Nat.reduceEqDiff, if_false]
    by_cases e1 : a = 48
    · subst e1
      by_cases e4 : b = o ∧ d = 10
      · simp [u3, u2, e4]
      · simp [u3, u2, e4]
    · by_cases e2 : a = 42 ∧ b = mc m 42
      · simp [u3, u2, e1, e2]
      · by_cases e3 : a = 41 ∧ b = mc m 41
        · simp [u3, u2, e1, e2, e3]
        · simp [u3, u2, e1, e2, e3]
  · unfold mPerson
    simp only [mn_sI, mn_sR, mn_al, u2_ap, mc_sR, mc_al, mc_sI, u1_ap, Nat.reduceEqDiff, if_false]
  · unfold mPerson
    simp only [mc_sR, mc_al, mc_sI, u1_ap, Nat.reduceEqDiff, if_false]
  · unfold mPerson
    simp only [mi_sI, mi_sR, mi_al, u3_ap, u2_ap, h48, h41, h42, false_and, if_false]
theorem mPerson_rc {m : ab_M} {o : Nat} {t k h : Int32} (h41 : mc m 41 = o) (h42 : mc m 42 = o) : rc (mPerson m o t k h) = u3 (u3 (u3 (zr (zr (u3 (u3 (rc m) 8 0 o 60) 13 0 o 1) 41 o) 42 o) 5 0 o t) 6 0 o k) 9 0 o h := by
  unfold mPerson
  rw [rc_sI (s := 9) (i := 0) (k := o) rfl, rc_sI (s := 6) (i := 0) (k := o) rfl, rc_sI (s := 5) (i := 0) (k := o) rfl, rc_sR, rc_alz, rc_sR, rc_alz, rc_sI (s := 13) (i := 0) (k := o) rfl, rc_sI (s := 8) (i := 0) (k := o) rfl]
  have e1 : mc (sI (sI m 48 o 3 60) 48 o 4 1) 41 = o := h41
  have e2 : mc (sR (al (sI (sI m 48 o 3 60) 48 o 4 1) 41 10 10) 48 o 9 (some (41, mc (sI (sI m 48 o 3 60) 48 o 4 1) 41))) 42 = o := by
    rw [mc_sR, mc_al, u1_ap, if_neg (by decide)]; exact h42
  have e2' : mc (sR (al (sI (sI m 48 o 3 60) 48 o 4 1) 41 10 10) 48 o 9 (some (41, mc m 41))) 42 = o := e2
  rw [e1, e2']
theorem mPerson_FR {m : ab_M} {o : Nat} {t k h : Int32} : FR m (mPerson m o t k h) 2 20 := by
  unfold mPerson
  exact (((((((((FR.oI rfl).trans (FR.oI rfl)).trans (FR.oal (s := 41) (L := 10) (w := 10) rfl)).trans (FR.oR rfl)).trans (FR.oal (s := 42) (L := 10) (w := 10) rfl)).trans (FR.oR rfl)).trans (FR.oI rfl)).trans (FR.oI rfl)).trans (FR.oI rfl)).le (by decide) (by decide)
theorem new_person {M : ab_M} {n : Nat} {t k h : Int32} (hW : RW M) (hn : np (rc M) = n) (hlt : n < 12) : ∃ M1 M2, SP_X7_init [vA 48 n, vI t, vI k, vI h] (al M 48 0 (NF 9)) = ok0 M1 ∧ mr M1 62 0 1 = some (44, 0) ∧ SP_Jx4a65c_add_9ea2d [vA 44 0, vA 48 n] M1 = okV (vI 1) M2 ∧ RM M2 ∧ RC2 M2 ∧ FR M M2 4 46 ∧ mi M2 62 0 0 = mi M 62 0 0 ∧ rc M2 = u3 (rPer0 (rc M) n t k h) 35 0 0 (nN (n + 1)) ∧
    (∀ a, a ≠ 59 → a ≠ 65 → mc M2 a = if a = 42 ∨ a = 41 ∨ a = 48 then n + 1 else mc M a) := by
  obtain ⟨⟨c48, c41, c42⟩, hcnt2, hcnt3, hcnt4, hcnt5⟩ := hW.2
  rw [hn] at c48 c41 c42
  have e7 := e_X7_init (m := al M 48 0 (NF 9)) (o := (48, n)) (t := t) (k := k) (h := h) rfl
  simp only at e7
  obtain ⟨p1, p2, p3, p4⟩ := mPerson_rest (m := al M 48 0 (NF 9)) (o := n) (t := t) (k := k) (h := h)
  have a41 : mc (al M 48 0 (NF 9)) 41 = n := c41
  have a42 : mc (al M 48 0 (NF 9)) 42 = n := c42
  have hrc1 := mPerson_rc (m := al M 48 0 (NF 9)) (t := t) (k := k) (h := h) a41 a42
  rw [rc_alz, c48] at hrc1
  have hFR1 : FR M (mPerson (al M 48 0 (NF 9)) n t k h) 3 31 := ((FR.oal (s := 48) (L := 0) (w := NF 9) rfl).trans mPerson_FR).le (by decide) (by decide)
  simp only [a41, a42, mr_al, mn_al, mc_al, c48, u2_ap, u1_ap] at p1 p2 p3
  have p4' : ∀ a b d, a ≠ 48 → a ≠ 41 → a ≠ 42 → mi (mPerson (al M 48 0 (NF 9)) n t k h) a b d = mi M a b d := by
    intro a b d h1 h2 h3
    rw [p4 a b d h1 h2 h3, mi_al, u2_ap, if_neg (fun z => h1 z.1)]
  generalize hM1 : mPerson (al M 48 0 (NF 9)) n t k h = M1 at *
  have mr1 : ∀ a b d, a ≠ 48 → a ≠ 41 → a ≠ 42 → mr M1 a b d = mr M a b d := by
    intro a b d h1 h2 h3
    rw [p1]
    simp only [h1, h2, h3, false_and, if_false]
  have hRM1 : RM M1 := RM_of2 hW.1 (fun a b d ha => mr1 a b d (by rintro rfl; rcases ha with z | z | z | (z | z | z | z) | z <;> cases z) (by rintro rfl; rcases ha with z | z | z | (z | z | z | z) | z <;> cases z) (by rintro rfl; rcases ha with z | z | z | (z | z | z | z) | z <;> cases z))
    (fun a b ha => by
      have h1 : a ≠ 48 := by rintro rfl; rcases ha with z | z | z | (z | z | z | z) <;> cases z
      have h2 : a ≠ 41 := by rintro rfl; rcases ha with z | z | z | (z | z | z | z) <;> cases z
      have h3 : a ≠ 42 := by rintro rfl; rcases ha with z | z | z | (z | z | z | z) <;> cases z
      rw [p2]; simp only [h1, h2, h3, false_and, if_false])
    ⟨p4' _ _ _ (by decide) (by decide) (by decide), p4' _ _ _ (by decide) (by decide) (by decide), p4' _ _ _ (by decide) (by decide) (by decide), p4' _ _ _ (by decide) (by decide) (by decide)⟩
    (fun i hi => by
      obtain ⟨g1, g2, g3, g4, g5, g6⟩ := hW.1.2.2.2.2.2.1 i hi
      refine ⟨?_, ?_, ?_, ?_, (mr1 53 i 7 (by decide) (by decide) (by decide)).trans g5, ?_⟩
      · rw [p1]
        by_cases e : i = n
        · subst e; simp
        · simp [e, g1]
      · rw [p1]
        by_cases e : i = n
        · subst e; simp
        · simp [e, g2]
      · rw [p2]
        by_cases e : i = n
        · subst e; simp
        · simp [e, g3]
      · rw [p2]
        by_cases e : i = n
        · subst e; simp
        · simp [e, g4]
      · rw [p2]; simp [g6])
    (fun i hi => by rw [p2]; simp [hW.1.2.2.2.2.2.2.1 i hi])
    (fun i hi => by
      have h4 := hW.1.2.2.2.2.2.2.2 i hi
      rw [p2]
      rcases hrow_c i with e | e
      · rw [e] at h4 ⊢; simp [h4]
      · rw [e] at h4 ⊢; simp [h4])
  have hRC1 : RC2 M1 := RC2_of hW.2.c2 (fun a b d ha => mr1 a b d (by rintro rfl; rcases ha with z | z | z | z <;> cases z) (by rintro rfl; rcases ha with z | z | z | z <;> cases z) (by rintro rfl; rcases ha with z | z | z | z <;> cases z))
    (fun a b ha => by
      have h1 : a ≠ 48 := by rintro rfl; rcases ha with z | z | z <;> cases z
      have h2 : a ≠ 41 := by rintro rfl; rcases ha with z | z | z <;> cases z
      have h3 : a ≠ 42 := by rintro rfl; rcases ha with z | z | z <;> cases z
      rw [p2]; simp only [h1, h2, h3, false_and, if_false])
    (fun a ha => by
      have h1 : a ≠ 48 := by rintro rfl; rcases ha with z | z <;> cases z
      have h2 : a ≠ 41 := by rintro rfl; rcases ha with z | z <;> cases z
      have h3 : a ≠ 42 := by rintro rfl; rcases ha with z | z <;> cases z
      rw [p3]; simp only [h1, h2, h3, if_false])
    (fun a ha => p4' _ _ _ (by rintro rfl; rcases ha with z | z | z | z <;> cases z) (by rintro rfl; rcases ha with z | z | z | z <;> cases z) (by rintro rfl; rcases ha with z | z | z | z <;> cases z))
  have a35 : rc M1 35 0 0 = rc M 35 0 0 := by
    have : mi M1 44 0 2 = mi M 44 0 2 := p4' _ _ _ (by decide) (by decide) (by decide)
    exact this
  have n1 : np (rc M1) = n := (congrArg Int32.toNatClampNeg a35).trans hn
  have l1 : Rls M1 44 n (fun i => (48, i)) := by have := hRM1.2.1.1; rw [n1] at this; exact this
  obtain ⟨M2, e', ea, hA⟩ := add_AD (f := fun i => (48, i)) (x := (48, n)) (fun _ => ⟨Or.inl rfl, by show 2 ≤ 48; decide⟩) (Or.inl rfl) l1 (hRC1.2.1 44 (Or.inl rfl)) hRC1.1 (by omega) ⟨Or.inl rfl, by show 2 ≤ 48; decide⟩
  have hA' : AD M1 M2 44 (np (rc M1)) (48, n) e' := by rw [n1]; exact hA
  obtain ⟨hRM2, hRC2⟩ := RM_AD44 hRM1 hRC1 hA' (by rw [n1]) (by rw [n1]; exact hlt)
  refine ⟨M1, M2, e7, hRM1.1.1, ea, hRM2, hRC2, (hFR1.trans (hA.fr (Or.inl rfl))).le (by decide) (by decide), ?_, ?_, fun a h59 h65 => ?_⟩
  · have : mi M2 62 0 0 = mi M1 62 0 0 := ((hA.1 62 0 (by decide) (by decide)).1 0).1 (fun z => absurd z.1 (by decide))
    rw [this]; exact p4' _ _ _ (by decide) (by decide) (by decide)
  · rw [hA.grc (S := 35) (Or.inl rfl) rfl rfl, hrc1]; rfl
  · rw [(hA.2.2.1 a).2 h59 h65, p3]
    by_cases e1 : a = 42
    · simp [e1]
    · by_cases e2 : a = 41
      · simp [e2]
      · by_cases e3 : a = 48
        · simp [e3]
        · simp [e1, e2, e3]
