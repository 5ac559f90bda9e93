/-! p31: the start's memory; the law's whole run -/
/-- the start: the script alone -/
def m00 (L : Nat) (xs : Nat → Int32) : ab_M := (fun s _ k => if s = 0 then xs k else 0, fun _ _ _ => none, fun _ _ _ => 0, fun _ _ _ => 0, fun s _ => if s = 0 then L else 0, [], fun s => if s = 0 then 1 else 0, 0, 0)
def NB (m m' : ab_M) (a b : Nat) : Prop := mnc m' = mnc m + a ∧ mns m' = mns m + b
theorem NB.refl {m : ab_M} : NB m m 0 0 := ⟨rfl, rfl⟩
theorem NB.trans {m m1 m2 : ab_M} {a b c d : Nat} (h : NB m m1 a b) (h' : NB m1 m2 c d) : NB m m2 (a + c) (b + d) := ⟨by rw [h'.1, h.1, Nat.add_assoc], by rw [h'.2, h.2, Nat.add_assoc]⟩
theorem NB.to {m m' : ab_M} {a b c d : Nat} (h : NB m m' a b) (h1 : a = c) (h2 : b = d) : NB m m' c d := by subst h1; subst h2; exact h
theorem NB_al {m : ab_M} {s L w : Nat} : NB m (al m s L w) 1 w := ⟨rfl, rfl⟩
theorem NB_sR {m : ab_M} {s i k : Nat} {v : Option (Nat × Nat)} : NB m (sR m s i k v) 0 0 := ⟨rfl, rfl⟩
theorem NB_sI {m : ab_M} {s i k : Nat} {v : Int32} : NB m (sI m s i k v) 0 0 := ⟨rfl, rfl⟩
theorem NB_fa {m : ab_M} {o s L k : Nat} : NB m (fa m o s L k) 1 L := ⟨rfl, rfl⟩
theorem NB_mk2 {m : ab_M} {s b : Nat} : ∀ a, NB m (mk2 m s b a) a (a * b)
  | 0 => NB.refl.to rfl (Nat.zero_mul b).symm
  | a + 1 => ((NB_mk2 a).trans (NB_al (m := mk2 m s b a) (s := s) (L := b) (w := b))).to rfl (Nat.succ_mul a b).symm
theorem NB_mkO {m : ab_M} {t s c : Nat} : ∀ a, NB m (mkO m t s c a) 0 0
  | 0 => NB.refl
  | a + 1 => ((NB_mkO a).trans NB_sR)
theorem NB_fm {m : ab_M} {o t s b k : Nat} : NB m (fm m o t s b k) 13 (12 * b + 12) := by
  unfold fm
  exact ((((NB_mk2 12).trans NB_al).trans (NB_mkO 12)).trans NB_sR).to rfl rfl
theorem NB_iP {m : ab_M} : NB m (iP m) 36 384 := by
  unfold iP mPeople
  exact ((((((((((((NB_al.trans NB_fa).trans NB_fa).trans NB_fa).trans NB_fa).trans NB_fa).trans NB_fa).trans NB_fa).trans NB_fa).trans NB_fa).trans NB_fm).trans NB_fm).trans NB_sR).to rfl rfl
theorem NB_iH {m : ab_M} : NB m (iH m) 3 11 := by
  unfold iH mHouses
  exact (((NB_al.trans NB_fa).trans NB_fa).trans NB_sR).to rfl rfl
theorem NB_iS {m : ab_M} : NB m (iS m) 5 37 := by
  unfold iS mSecrets
  exact (((((NB_al.trans NB_fa).trans NB_fa).trans NB_fa).trans NB_fa).trans NB_sR).to rfl rfl
theorem NB_iU {m : ab_M} : NB m (iU m) 21 249 := by
  unfold iU mUtensils
  exact (((((((((NB_al.trans NB_fa).trans NB_fa).trans NB_fa).trans NB_fa).trans NB_fa).trans NB_fa).trans NB_fa).trans NB_fm).trans NB_sR).to rfl rfl
theorem NB_iF {m : ab_M} : NB m (iF m) 2 14 := by
  unfold iF mFalling
  exact (((NB_al.trans NB_fa).trans NB_sR).trans NB_sR).to rfl rfl
theorem NB_iL {m : ab_M} : NB m (iL m) 5 39 := by
  unfold iL mPlanner
  exact (((((((NB_al.trans NB_fa).trans NB_fa).trans NB_fa).trans NB_fa).trans NB_sR).trans NB_sR).trans NB_sR).to rfl rfl
theorem NB_hall {m : ab_M} : NB m (mHall m) 72 734 := by
  unfold mHall
  exact (((((NB_iP.trans NB_iH).trans NB_iS).trans NB_iU).trans NB_iF).trans NB_iL).to rfl rfl
/-- the sites of the class, the law's object -/
def SA6 : Nat → Bool := fun s => (Nat.ble 2 s && Nat.ble s 40) || s == 61
theorem SA_of {S : Nat → Bool} (h : ∀ s, S s = true → (2 ≤ s ∧ s ≤ 40) ∨ s = 61) : ∀ s, SA6 s = false → S s = false := fun s q => by
  cases e : S s with
  | false => rfl
  | true =>
    exfalso
    rcases h s e with ⟨a, b⟩ | a
    · unfold SA6 at q
      rw [Nat.ble_eq_true_of_le a, Nat.ble_eq_true_of_le b] at q
      cases q
    · subst a
      cases q
theorem FS_hall {m : ab_M} : FS SA6 m (mHall m) := by
  unfold mHall
  refine (((((FS_iP.wk (SA_of ?_)).trans (FS_iH.wk (SA_of ?_))).trans (FS_iS.wk (SA_of ?_))).trans (FS_iU.wk (SA_of ?_))).trans (FS_iF.wk (SA_of ?_))).trans (FS_iL.wk (SA_of ?_))
  all_goals
    intro s e
    simp only [SP6, SH6, SS6, SU6, SF6, SL6, Bool.or_eq_true, Bool.and_eq_true, Nat.ble_eq, beq_iff_eq] at e
    omega
def zC : ab_C := fun _ _ _ => 0
theorem zC_np : np zC = 0 := rfl
theorem zC_nh : nh zC = 0 := rfl
theorem zC_nsc : nsc zC = 0 := rfl
theorem zC_nu : nu zC = 0 := rfl
theorem bt_z0 (i : Nat) : bt 0 i = false := by
  show (0#32).getLsbD i = false
  simp
theorem ST_Z {c : ab_C} (h : ∀ s i k, s ≠ 0 → c s i k = 0) : ST 0 c zC := by
  refine ⟨⟨fun s hs => ?_, ⟨h _ _ _ (by decide), h _ _ _ (by decide), h _ _ _ (by decide), h _ _ _ (by decide)⟩, ⟨h _ _ _ (by decide), h _ _ _ (by decide), h _ _ _ (by decide), h _ _ _ (by decide), h _ _ _ (by decide)⟩, fun i k hi => absurd hi (Nat.not_lt_zero _), fun u k hu => absurd hu (Nat.not_lt_zero _)⟩, ⟨⟨⟨⟨rfl, Nat.zero_le _⟩, ⟨rfl, Nat.zero_le _⟩, ⟨rfl, Nat.zero_le _⟩, ⟨rfl, Nat.zero_le _⟩⟩, ⟨?_, ?_, ?_⟩, ⟨fun _ _ _ _ _ => rfl, fun _ _ _ _ _ => rfl, fun _ _ _ _ _ => rfl, fun _ _ _ _ _ => rfl⟩, ⟨fun p q hp hq => ?_, fun p q hq => ?_⟩⟩, fun _ _ _ => Or.inl rfl, fun _ => rfl, ⟨0, Nat.le_refl _, rfl⟩, fun _ => inb_0 (by decide)⟩, fun i _ => ?_, fun i _ => ?_⟩
  · have := eqS_ne hs
    funext k
    exact h s 0 k (by omega)
  · exact ⟨fun i hi => absurd hi (Nat.not_lt_zero _), fun i hi => absurd hi (Nat.not_lt_zero _), fun i hi => absurd hi (Nat.not_lt_zero _), fun i hi => absurd hi (Nat.not_lt_zero _), fun i hi => absurd hi (Nat.not_lt_zero _), fun i hi => absurd hi (Nat.not_lt_zero _)⟩
  · exact ⟨fun _ => 0, fun i hi => absurd hi (Nat.not_lt_zero _)⟩
  · exact ⟨fun _ => 0, fun i hi => absurd hi (Nat.not_lt_zero _)⟩
  · exact (bt_z0 q).trans (bt_z0 p).symm
  · exact bt_z0 q
  · rw [h 2 0 i (by decide)]; exact inb_0 (by decide)
  · rw [h 18 0 i (by decide)]; exact Or.inr (inb_0 (by decide))
def qA (L : Nat) (xs : Nat → Int32) : ab_M := al (m00 L xs) 61 0 (NF 8)
def qB (L : Nat) (xs : Nat → Int32) : ab_M := mHall (qA L xs)
theorem qB_NB {L : Nat} {xs : Nat → Int32} : mnc (qB L xs) = 73 ∧ mns (qB L xs) = 745 := by
  have h : NB (m00 L xs) (qB L xs) 73 745 := by
    unfold qB qA
    exact ((NB_al (m := m00 L xs)).trans NB_hall).to rfl rfl
  exact ⟨h.1.trans (Nat.zero_add _), h.2.trans (Nat.zero_add _)⟩
theorem qB_Z {L : Nat} {xs : Nat → Int32} : Zx xs (qB L xs) := by
  unfold qB qA
  exact Zx_hall (Zx_al (fun _ _ _ => rfl) (by decide))
theorem qB_n {L : Nat} {xs : Nat → Int32} : mn (qB L xs) 0 0 = L := by
  have a : FS SA6 (m00 L xs) (qB L xs) := by
    unfold qB qA
    exact (FS_al rfl).trans FS_hall
  rw [(a 0 rfl).2.1]
  rfl
theorem qA_mc {L : Nat} {xs : Nat → Int32} {x : Nat} (h2 : 2 ≤ x) (h4 : x ≤ 40) : mc (qA L xs) x = 0 := by
  unfold qA
  rw [mc_al, u1_ap, if_neg (by omega)]
  exact if_neg (by omega)
theorem qB_LSt {L : Nat} {xs : Nat → Int32} : LSt (mn (qB L xs) 0 0) (mi (qB L xs) 0 0) (qB L xs) 0 (qB L xs) zC :=
  ⟨rfl, CR_hall (fun x a b => qA_mc a b), ST_Z (fun s i k hs => by rw [qB_Z, if_neg hs]), rfl, fun _ => rfl⟩
theorem law_all {L : Nat} {xs : Nat → Int32} (hL : L ≤ 260) : ∃ mf, (mnc mf ≤ 600086 ∧ mns mf ≤ 7301442) ∧ ∀ K : ab_K, Closed TL (fun r' => r' = .inl ([vI 1], mf)) K → K 0 (entry 12 [vA 0 0]) [] (m00 L xs) := by
  obtain ⟨m1, c1, e2, h1, j1⟩ := e_L_write (m := qB L xs) (by rw [qB_n]; exact hL) qB_LSt zC_np zC_nsc
  obtain ⟨m2, c2, ⟨h2, j2⟩, g2⟩ := w_loop (by rw [qB_n]; exact hL) 26 0 60 m1 c1 h1 (by decide) j1 (by decide)
  obtain ⟨mf, eM, hend⟩ := w_t h2 (by decide) j2
  have h61 : mc (m00 L xs) 61 = 0 := rfl
  have e1 : SP_X6_init [vA 61 0] (al (m00 L xs) 61 0 (NF 8)) = ok0 (mHall (al (m00 L xs) 61 0 (NF 8))) := e_X6_init (fun x a b => qA_mc (L := L) (xs := xs) (by omega) b)
  refine ⟨mf, ⟨?_, ?_⟩, fun K hK => ?_⟩
  · have : mnc mf = mnc (qB L xs) := by unfold mnc; rw [eM]
    rw [this, qB_NB.1]
    exact Nat.le_of_ble_eq_true rfl
  · have : mns mf = mns (qB L xs) := by unfold mns; rw [eM]
    rw [this, qB_NB.2]
    exact Nat.le_of_ble_eq_true rfl
  · have hk : K 16 (lK 0) [] m1 := g2 _ K hK (w_he (k := 26) (by decide) (by decide) _ K hK (hend _ K hK rfl))
    have hk2 : K 8 [some (vA 0 0), some (vA 61 0), none, none, none, none, none, none, none, none, none, none] [] (qB L xs) := by
      have hk' : K 16 [some (vA 0 0), some (vA 61 0), some (vI 0), none, none, none, none, none, none, none, none, none] [] m1 := hk
      clear hk g2 hend
      generalize qB L xs = B at *
      refine seg (hK.sub in_p) mt_L_law_p 4 6 ?_
      simp only [T_L_law_p, List.take_succ_cons, List.take_zero, List.drop_succ_cons, List.drop_zero, e2, st1_9, st1_10, st1_11, i10, Bool.false_eq_true, Bool.true_eq_false, Bool.not_true, Bool.not_false, ↓run_hit, ↓run_miss, ↓run_none, run_nil, ab_get0, ab_getS, if_true, if_false, if_pos, true_and, and_true, List.append_nil, List.nil_append, List.cons_append, List.length_cons, List.length_nil, List.take_succ_cons, List.take_zero, List.drop_succ_cons, List.drop_zero, List.reverse_cons, List.reverse_nil, List.map_nil, List.map_cons, List.sum_nil, List.sum_cons, rcv_some, rcv_999, wide_I, wide_L, wide_D, wide_R, wide_X, eq_self_iff_true, ite_true, ite_false, ↓reduceIte, Nat.reduceEqDiff, Nat.reduceLeDiff, Nat.reduceLT, Nat.reduceAdd, Nat.reduceMul, Nat.reduceBEq, decide_true, decide_false, and_self, or_self, or_true, true_or, false_or, or_false, and_false, false_and, not_false_eq_true, not_true_eq_false, Nat.zero_le, Nat.le_refl, Nat.add_eq_zero_iff, Nat.succ_ne_self, ↓s_const, ↓s_iload, ↓s_lload, ↓s_dload, ↓s_aload, ↓s_istore, ↓s_lstore, ↓s_dstore, ↓s_astore, ↓s_iinc, ↓s_bin, ↓s_div, ↓s_binL, ↓s_lcmp, ↓s_i2l, ↓s_i2d, ↓s_ddiv, ↓s_dcmpl, ↓s_goto, ↓s_ifeq, ↓s_iflt, ↓s_ifgt, ↓s_cmpeq, ↓s_cmplt, ↓s_cmpgt, ↓s_ifnull, ↓s_aeq, ↓s_pop, ↓s_dup, ↓s_dup2, ↓s_dupx1, ↓s_tab, ↓s_getI, ↓s_getR, ↓s_putI, ↓s_putZ, ↓s_putR, ↓s_ald, ↓s_ast, ↓s_zast, ↓s_lald, ↓s_last, ↓s_dald, ↓s_dast, ↓s_aald, ↓s_aast, ↓s_alen, ↓s_new, ↓s_newa, ↓s_multi, ↓s_cast, ↓s_getE, ↓s_obj, ↓s_mmin, ↓s_mmax, ↓s_hd, ↓s_call, ↓s_throw, ↓s_ret, ↓s_retL, ↓s_retD, ↓s_retA, ↓s_retV, mi_wI, mr_wI, mn_wI, mc_wI, sI_wI, u3_ap, mi_sI, mi_sR, mi_sL, mi_sD, mi_al, mi_bp, mr_sI, mr_sR, mr_sL, mr_sD, mr_al, mr_bp, ml_sI, ml_sR, ml_sL, ml_sD, ml_al, ml_bp, md_sI, md_sR, md_sL, md_sD, md_al, md_bp, mn_sI, mn_sR, mn_sL, mn_sD, mn_al, mn_bp, mc_sI, mc_sR, mc_sL, mc_sD, mc_al, mc_bp, mnc_sI, mnc_sR, mnc_sL, mnc_sD, mnc_al, mnc_bp, mns_sI, mns_sR, mns_sL, mns_sD, mns_al, mns_bp, SK_0, SK_1, SK_2, SK_3, SK_4, SK_5, SK_6, SK_7, SK_8, SK_9, SK_10, SK_11, SK_12, SK_13, SK_14, SK_15, SK_16, SK_17, SK_18, SK_19, SK_20, SK_21, SK_22, SK_23, SK_24, SK_25, SK_26, SK_27, SK_28, SK_29, SK_30, SK_31, SK_32, SK_33, SK_34, SK_35, SK_36, SK_37, SK_38, SK_39, SK_40, SK_41, SK_42, SK_43, SK_44, SK_45, SK_46, SK_47, SK_48, SK_49, SK_50, SK_51, SK_52, SK_53, SK_54, SK_55, SK_56, SK_57, SK_58, SK_59, SK_60, SK_61, SK_62, SK_63, SK_64, SK_65, st1_0, st1_1, st1_2, st1_3, st1_4, st1_5, st1_6, st1_7, st1_8, st2_0, st2_1, st2_2, st2_3, st2_4, st2_5, st2_6, st2_7, clr_I, clr_R, clr_X, clr_L, clr_D, clr_N]
      exact hk'
    clear hk g2 hend
    show K 0 [some (vA 0 0), none, none, none, none, none, none, none, none, none, none, none] [] (m00 L xs)
    have hk3 : K 8 [some (vA 0 0), some (vA 61 0), none, none, none, none, none, none, none, none, none, none] [] (mHall (al (m00 L xs) 61 0 (NF 8))) := hk2
    clear hk2 e2 h1
    generalize m00 L xs = B at *
    refine seg (hK.sub in_p) mt_L_law_p 0 4 ?_
    simp only [T_L_law_p, List.take_succ_cons, List.take_zero, List.drop_succ_cons, List.drop_zero, h61, e1, st1_9, st1_10, st1_11, i10, Bool.false_eq_true, Bool.true_eq_false, Bool.not_true, Bool.not_false, ↓run_hit, ↓run_miss, ↓run_none, run_nil, ab_get0, ab_getS, if_true, if_false, if_pos, true_and, and_true, List.append_nil, List.nil_append, List.cons_append, List.length_cons, List.length_nil, List.take_succ_cons, List.take_zero, List.drop_succ_cons, List.drop_zero, List.reverse_cons, List.reverse_nil, List.map_nil, List.map_cons, List.sum_nil, List.sum_cons, rcv_some, rcv_999, wide_I, wide_L, wide_D, wide_R, wide_X, eq_self_iff_true, ite_true, ite_false, ↓reduceIte, Nat.reduceEqDiff, Nat.reduceLeDiff, Nat.reduceLT, Nat.reduceAdd, Nat.reduceMul, Nat.reduceBEq, decide_true, decide_false, and_self, or_self, or_true, true_or, false_or, or_false, and_false, false_and, not_false_eq_true, not_true_eq_false, Nat.zero_le, Nat.le_refl, Nat.add_eq_zero_iff, Nat.succ_ne_self, ↓s_const, ↓s_iload, ↓s_lload, ↓s_dload, ↓s_aload, ↓s_istore, ↓s_lstore, ↓s_dstore, ↓s_astore, ↓s_iinc, ↓s_bin, ↓s_div, ↓s_binL, ↓s_lcmp, ↓s_i2l, ↓s_i2d, ↓s_ddiv, ↓s_dcmpl, ↓s_goto, ↓s_ifeq, ↓s_iflt, ↓s_ifgt, ↓s_cmpeq, ↓s_cmplt, ↓s_cmpgt, ↓s_ifnull, ↓s_aeq, ↓s_pop, ↓s_dup, ↓s_dup2, ↓s_dupx1, ↓s_tab, ↓s_getI, ↓s_getR, ↓s_putI, ↓s_putZ, ↓s_putR, ↓s_ald, ↓s_ast, ↓s_zast, ↓s_lald, ↓s_last, ↓s_dald, ↓s_dast, ↓s_aald, ↓s_aast, ↓s_alen, ↓s_new, ↓s_newa, ↓s_multi, ↓s_cast, ↓s_getE, ↓s_obj, ↓s_mmin, ↓s_mmax, ↓s_hd, ↓s_call, ↓s_throw, ↓s_ret, ↓s_retL, ↓s_retD, ↓s_retA, ↓s_retV, mi_wI, mr_wI, mn_wI, mc_wI, sI_wI, u3_ap, mi_sI, mi_sR, mi_sL, mi_sD, mi_al, mi_bp, mr_sI, mr_sR, mr_sL, mr_sD, mr_al, mr_bp, ml_sI, ml_sR, ml_sL, ml_sD, ml_al, ml_bp, md_sI, md_sR, md_sL, md_sD, md_al, md_bp, mn_sI, mn_sR, mn_sL, mn_sD, mn_al, mn_bp, mc_sI, mc_sR, mc_sL, mc_sD, mc_al, mc_bp, mnc_sI, mnc_sR, mnc_sL, mnc_sD, mnc_al, mnc_bp, mns_sI, mns_sR, mns_sL, mns_sD, mns_al, mns_bp, SK_0, SK_1, SK_2, SK_3, SK_4, SK_5, SK_6, SK_7, SK_8, SK_9, SK_10, SK_11, SK_12, SK_13, SK_14, SK_15, SK_16, SK_17, SK_18, SK_19, SK_20, SK_21, SK_22, SK_23, SK_24, SK_25, SK_26, SK_27, SK_28, SK_29, SK_30, SK_31, SK_32, SK_33, SK_34, SK_35, SK_36, SK_37, SK_38, SK_39, SK_40, SK_41, SK_42, SK_43, SK_44, SK_45, SK_46, SK_47, SK_48, SK_49, SK_50, SK_51, SK_52, SK_53, SK_54, SK_55, SK_56, SK_57, SK_58, SK_59, SK_60, SK_61, SK_62, SK_63, SK_64, SK_65, st1_0, st1_1, st1_2, st1_3, st1_4, st1_5, st1_6, st1_7, st1_8, st2_0, st2_1, st2_2, st2_3, st2_4, st2_5, st2_6, st2_7, clr_I, clr_R, clr_X, clr_L, clr_D, clr_N]
    exact hk3
/-! the law's whole table is sound -/
theorem snd_TL {l : Launch} {D : va_G} {cA : Nat → ClassId} (hst : l.stackTraces = false) : Sound l D cA 800 12 yL_law cL_law (some .boolean) [] TL := by
  unfold TL
  refine Sound_app (snd_L_law_p (d' := 799) (by omega) (hC_X6_init := C_X6_init hst (by omega)) (hC_L_write := C_L_write hst (by omega))) ?_
  refine Sound_app (snd_L_law_h) ?_
  refine Sound_app (snd_L_law_a (d' := 799) (by omega) (hC_L_cell := C_L_cell hst (by omega)) (hC_L_below := C_L_below hst (by omega)) (hC_X6_many := C_X6_many hst (by omega)) (hC_X6_ofPerson := C_X6_ofPerson hst (by omega))) ?_
  refine Sound_app (snd_L_law_c0a (d' := 799) (by omega) (hC_L_below := C_L_below hst (by omega))) ?_
  refine Sound_app (snd_L_law_c0b (d' := 799) (by omega) (hC_X6_ofPerson := C_X6_ofPerson hst (by omega))) ?_
  refine Sound_app (snd_L_law_c0c (d' := 799) (by omega) (hC_X6_pass := C_X6_pass hst (by omega))) ?_
  refine Sound_app (snd_L_law_c1 (d' := 799) (by omega) (hC_L_below := C_L_below hst (by omega)) (hC_X6_die := C_X6_die hst (by omega))) ?_
  refine Sound_app (snd_L_law_c2 (d' := 799) (by omega) (hC_L_below := C_L_below hst (by omega)) (hC_X6_ofPerson := C_X6_ofPerson hst (by omega)) (hC_X6_many := C_X6_many hst (by omega)) (hC_X6_utensil := C_X6_utensil hst (by omega))) ?_
  refine Sound_app (snd_L_law_c3 (d' := 799) (by omega) (hC_X6_ofPerson := C_X6_ofPerson hst (by omega)) (hC_L_below := C_L_below hst (by omega)) (hC_X6_giver := C_X6_giver hst (by omega)) (hC_X6_revoke := C_X6_revoke hst (by omega))) ?_
  refine Sound_app (snd_L_law_c4 (d' := 799) (by omega) (hC_L_below := C_L_below hst (by omega)) (hC_X6_ofPerson := C_X6_ofPerson hst (by omega)) (hC_X6_hold := C_X6_hold hst (by omega))) ?_
  refine Sound_app (snd_L_law_c5 (d' := 799) (by omega) (hC_X6_ofPerson := C_X6_ofPerson hst (by omega)) (hC_X6_give := C_X6_give hst (by omega)) (hC_X6_many := C_X6_many hst (by omega))) ?_
  refine Sound_app (snd_L_law_e (d' := 799) (by omega) (hC_X6_many := C_X6_many hst (by omega)) (hC_L_isSound := C_L_isSound hst (by omega))) ?_
  exact snd_L_law_t (d' := 799) (by omega) (hC_X6_digest := C_X6_digest hst (by omega)) (hC_X6_wouldLose := C_X6_wouldLose hst (by omega)) (hC_X6_ofHouse := C_X6_ofHouse hst (by omega))
