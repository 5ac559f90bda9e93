/-! the class's recursive methods -/
theorem le_nil : ab_le [] [] := ⟨rfl, fun _ _ h => h⟩
theorem le_c {x : Option ab_V} {a b : ab_L} (h : ab_le a b) : ab_le (x :: a) (x :: b) := by
  refine ⟨by simp only [List.length_cons, h.1], fun i v hv => ?_⟩
  cases i with
  | zero => exact hv
  | succ i => exact h.2 i v hv
theorem le_n {x : Option ab_V} {a b : ab_L} (h : ab_le a b) : ab_le (none :: a) (x :: b) := by
  refine ⟨by simp only [List.length_cons, h.1], fun i v hv => ?_⟩
  cases i with
  | zero => simp at hv
  | succ i => exact h.2 i v hv
theorem nN_add {a b : Nat} : nN a + nN b = nN (a + b) := (Int32.ofNat_add a b).symm
theorem nN_ex {x : Int32} {L : Nat} (h : inb x L) : ∃ n, n < L ∧ x = nN n := ⟨_, (inb_eq h).2, (inb_eq h).1⟩
/-- the values kept are 0 … 9 -/
def KE (c : ab_C) : Prop := ∀ i, i < 12 → inb (c 2 0 i) 10
def fDi (g : Int32 → Nat → ab_C → Int32 × ab_C) (p : Int32) (s : Nat) : Nat → Int32 × ab_C → Int32 × ab_C := fun i b =>
  if b.2 2 0 i < nN s then b else if b.2 15 i s = p then (b.1 + (g (nN i) s b.2).1, (g (nN i) s b.2).2) else b
def fDo (g : Int32 → Nat → ab_C → Int32 × ab_C) (p : Int32) (s n : Nat) : Nat → Int32 × ab_C → Int32 × ab_C := fun j a => fo (fDi g p (s + j)) a n
/-- what falls with the step s of p, and the cells behind it; k: how deep it may go -/
def cDrop : Nat → Int32 → Nat → ab_C → Int32 × ab_C
  | 0, _, _, c => (0, c)
  | k + 1, p, s, c => fo (fDo (cDrop k) p s (np c)) (c 2 0 p.toNatClampNeg - nN s + 1, u3 c 2 0 p.toNatClampNeg (nN s - 1)) ((c 2 0 p.toNatClampNeg).toNatClampNeg + 1 - s)
/-- what a drop leaves as it was -/
def DP (c c' : ab_C) : Prop := KE c' ∧ ∀ x y z, x ≠ 2 → c' x y z = c x y z
theorem DP.trans {a b c : ab_C} (h : DP a b) (h' : DP b c) : DP a c := ⟨h'.1, fun x y z e => (h'.2 x y z e).trans (h.2 x y z e)⟩
theorem cDrop_s (k : Nat) (p : Int32) (s : Nat) (c : ab_C) : cDrop (k + 1) p s c = fo (fDo (cDrop k) p s (np c)) (c 2 0 p.toNatClampNeg - nN s + 1, u3 c 2 0 p.toNatClampNeg (nN s - 1)) ((c 2 0 p.toNatClampNeg).toNatClampNeg + 1 - s) := rfl
theorem nN_pred {s : Nat} (h : 1 ≤ s) : nN s - 1 = nN (s - 1) := by
  obtain ⟨t, rfl⟩ : ∃ t, s = t + 1 := ⟨s - 1, by omega⟩
  rw [← nN_succ, Nat.add_sub_cancel, Int32.add_sub_cancel]
theorem DP_set {c : ab_C} {i s : Nat} (h1 : 1 ≤ s) (h9 : s ≤ 9) (h : KE c) : DP c (u3 c 2 0 i (nN s - 1)) := by
  refine ⟨fun j hj => ?_, fun x y z e => ?_⟩
  · rw [u3_ap]
    split
    · rw [nN_pred h1, inb_nN (by omega)]; omega
    · exact h j hj
  · rw [u3_ap, if_neg (fun z => e z.1)]
theorem DP_fDi {g : Int32 → Nat → ab_C → Int32 × ab_C} {p : Int32} {s n : Nat} {c : ab_C} (hg : ∀ i c', i < n → DP c c' → DP c' (g (nN i) s c').2) (i : Nat) (b : Int32 × ab_C) (hi : i < n) (hb : DP c b.2) : DP c (fDi g p s i b).2 := by
  unfold fDi
  split
  · exact hb
  · split
    · exact hb.trans (hg i b.2 hi hb)
    · exact hb
theorem DP_fDo {g : Int32 → Nat → ab_C → Int32 × ab_C} {p : Int32} {s n : Nat} {c : ab_C} (j : Nat) (hg : ∀ i c', i < n → DP c c' → DP c' (g (nN i) (s + j) c').2) (a : Int32 × ab_C) (ha : DP c a.2) : DP c (fDo g p s n j a).2 := by
  have H := fo_inv (f := fDi g p (s + j)) (s := a) (n := n) (fun _ b => DP c b.2) ha (fun i b hi hb => DP_fDi hg i b hi hb) n (Nat.le_refl _)
  exact H
theorem cDrop_pres (k : Nat) : ∀ (p : Int32) (s : Nat) (c : ab_C), p.toNatClampNeg < 12 → np c ≤ 12 → 1 ≤ s → s ≤ 9 → KE c → DP c (cDrop k p s c).2 := by
  induction k with
  | zero => intro p s c _ _ _ _ h; exact ⟨h, fun _ _ _ _ => rfl⟩
  | succ k ih =>
    intro p s c hp hn h1 h9 h
    have ht := (inb_eq (h _ hp)).2
    rw [cDrop_s]
    generalize hN : (c 2 0 p.toNatClampNeg).toNatClampNeg + 1 - s = N
    have h0 := DP_set (i := p.toNatClampNeg) h1 h9 h
    generalize hc0 : u3 c 2 0 p.toNatClampNeg (nN s - 1) = c0 at h0 ⊢
    generalize c 2 0 p.toNatClampNeg - nN s + 1 = f0
    have H := fo_inv (f := fDo (cDrop k) p s (np c)) (s := (f0, c0)) (n := N) (fun _ a => DP c a.2) h0 (by
      intro j a hj ha
      refine DP_fDo j (fun i c' hi hc' => ?_) a ha
      have e : np c' = np c := by unfold np; rw [hc'.2 35 0 0 (by decide)]
      exact ih _ _ _ (by rw [nN_nat (by omega)]; omega) (by omega) (by omega) (by omega) hc'.1) N (Nat.le_refl _)
    exact H

noncomputable def SP_X0_drop (k : Nat) : List ab_V → ab_M → ab_O := fun as m => match as with
  | [this, .inl p, .inl s, .inl d] => gd (this = vA 39 0 ∧ CI m ∧ KE (mi m) ∧ inb p 12 ∧ (inb s 10 ∧ 1 ≤ s.toNatClampNeg) ∧ inb d 13 ∧ 12 - d.toNatClampNeg ≤ k) (okV (vI (cDrop (12 - d.toNatClampNeg) p s.toNatClampNeg (mi m)).1) (wI m (cDrop (12 - d.toNatClampNeg) p s.toNatClampNeg (mi m)).2))
  | _ => none
theorem e_X0_drop {k : Nat} {m : ab_M} {p s d : Int32} (h1 : CI m) (h2 : KE (mi m)) (h3 : inb p 12) (h4 : inb s 10 ∧ 1 ≤ s.toNatClampNeg) (h5 : inb d 13) (h6 : 12 - d.toNatClampNeg ≤ k) : SP_X0_drop k [vA 39 0, vI p, vI s, vI d] m = okV (vI (cDrop (12 - d.toNatClampNeg) p s.toNatClampNeg (mi m)).1) (wI m (cDrop (12 - d.toNatClampNeg) p s.toNatClampNeg (mi m)).2) := gd_pos ⟨rfl, h1, h2, h3, h4, h5, h6⟩
theorem q0_X0_drop {sp : List ab_V → ab_M → ab_O} {m : ab_M} {p s d : Int32} (hd : d = 12) : ∀ K : ab_K, Closed (T_X0_drop sp) (fun r' => r' = .inl ([vI 0], m)) K → run K (fun r' => r' = .inl ([vI 0], m)) (T_X0_drop sp) 0 [some (vA 39 0), some (vI p), some (vI s), some (vI d), none, none, none, none] [] m := by
  intro K hK
  subst hd
  simp only [T_X0_drop, show ¬ ((12 : Int32) < 12) from by decide, Bool.false_eq_true, ↓run_hit, ↓run_miss, ↓run_none, run_nil, ab_get0, ab_getS, if_true, if_false, if_pos, true_and, and_true, List.append_nil, List.nil_append, List.cons_append, List.length_cons, List.length_nil, List.take_succ_cons, List.take_zero, List.drop_succ_cons, List.drop_zero, List.reverse_cons, List.reverse_nil, List.map_nil, List.map_cons, List.sum_nil, List.sum_cons, rcv_some, rcv_999, wide_I, wide_L, wide_D, wide_R, wide_X, eq_self_iff_true, ite_true, ite_false, ↓reduceIte, Nat.reduceEqDiff, Nat.reduceLeDiff, Nat.reduceLT, Nat.reduceAdd, Nat.reduceMul, Nat.reduceBEq, decide_true, decide_false, and_self, or_self, or_true, true_or, false_or, or_false, and_false, false_and, not_false_eq_true, not_true_eq_false, Nat.zero_le, Nat.le_refl, Nat.add_eq_zero_iff, Nat.succ_ne_self, ↓s_const, ↓s_iload, ↓s_lload, ↓s_dload, ↓s_aload, ↓s_istore, ↓s_lstore, ↓s_dstore, ↓s_astore, ↓s_iinc, ↓s_bin, ↓s_div, ↓s_binL, ↓s_lcmp, ↓s_i2l, ↓s_i2d, ↓s_ddiv, ↓s_dcmpl, ↓s_goto, ↓s_ifeq, ↓s_iflt, ↓s_ifgt, ↓s_cmpeq, ↓s_cmplt, ↓s_cmpgt, ↓s_ifnull, ↓s_aeq, ↓s_pop, ↓s_dup, ↓s_dup2, ↓s_dupx1, ↓s_tab, ↓s_getI, ↓s_getR, ↓s_putI, ↓s_putZ, ↓s_putR, ↓s_ald, ↓s_ast, ↓s_zast, ↓s_lald, ↓s_last, ↓s_dald, ↓s_dast, ↓s_aald, ↓s_aast, ↓s_alen, ↓s_new, ↓s_newa, ↓s_multi, ↓s_cast, ↓s_getE, ↓s_obj, ↓s_mmin, ↓s_mmax, ↓s_hd, ↓s_call, ↓s_throw, ↓s_ret, ↓s_retL, ↓s_retD, ↓s_retA, ↓s_retV, mi_wI, mr_wI, mn_wI, mc_wI, sI_wI, u3_ap, mi_sI, mi_sR, mi_sL, mi_sD, mi_al, mi_bp, mr_sI, mr_sR, mr_sL, mr_sD, mr_al, mr_bp, ml_sI, ml_sR, ml_sL, ml_sD, ml_al, ml_bp, md_sI, md_sR, md_sL, md_sD, md_al, md_bp, mn_sI, mn_sR, mn_sL, mn_sD, mn_al, mn_bp, mc_sI, mc_sR, mc_sL, mc_sD, mc_al, mc_bp, mnc_sI, mnc_sR, mnc_sL, mnc_sD, mnc_al, mnc_bp, mns_sI, mns_sR, mns_sL, mns_sD, mns_al, mns_bp, SK_0, SK_1, SK_2, SK_3, SK_4, SK_5, SK_6, SK_7, SK_8, SK_9, SK_10, SK_11, SK_12, SK_13, SK_14, SK_15, SK_16, SK_17, SK_18, SK_19, SK_20, SK_21, SK_22, SK_23, SK_24, SK_25, SK_26, SK_27, SK_28, SK_29, SK_30, SK_31, SK_32, SK_33, SK_34, SK_35, SK_36, SK_37, SK_38, SK_39, SK_40, SK_41, SK_42, SK_43, SK_44, SK_45, SK_46, SK_47, SK_48, SK_49, SK_50, SK_51, SK_52, SK_53, SK_54, SK_55, SK_56, SK_57, SK_58, SK_59, SK_60, SK_61, SK_62, SK_63, SK_64, SK_65, st1_0, st1_1, st1_2, st1_3, st1_4, st1_5, st1_6, st1_7, st1_8, st2_0, st2_1, st2_2, st2_3, st2_4, st2_5, st2_6, st2_7, clr_I, clr_R, clr_X, clr_L, clr_D, clr_N]
theorem q_X0_drop {sp : List ab_V → ab_M → ab_O} {m : ab_M} {p s d : Nat} (h1 : CI m) (h2 : KE (mi m)) (h3 : p < 12) (h4 : 1 ≤ s) (h9 : s ≤ 9) (h5 : d < 12)
    (hsp : ∀ (c : ab_C) (i t : Nat), CI (wI m c) → KE c → i < 12 → 1 ≤ t → t ≤ 9 → sp [vA 39 0, vI (nN i), vI (nN t), vI (nN (d + 1))] (wI m c) = okV (vI (cDrop (11 - d) (nN i) t c).1) (wI m (cDrop (11 - d) (nN i) t c).2)) :
    ∀ K : ab_K, Closed (T_X0_drop sp) (fun r' => r' = .inl ([vI (cDrop (12 - d) (nN p) s (mi m)).1], wI m (cDrop (12 - d) (nN p) s (mi m)).2)) K → run K (fun r' => r' = .inl ([vI (cDrop (12 - d) (nN p) s (mi m)).1], wI m (cDrop (12 - d) (nN p) s (mi m)).2)) (T_X0_drop sp) 0 [some (vA 39 0), some (vI (nN p)), some (vI (nN s)), some (vI (nN d)), none, none, none, none] [] m := by
  intro K hK
  have hC := h1.1
  have hn := h1.2.1.1
  have h12 := h1.2.1.2
  have hnB : np (mi m) < 2147483648 := by omega
  have hhn := h1.2.2.1.1
  have hh4 := h1.2.2.1.2
  have hhB : nh (mi m) < 2147483648 := by omega
  have hsn := h1.2.2.2.1.1
  have hs8 := h1.2.2.2.1.2
  have hsB : nsc (mi m) < 2147483648 := by omega
  have hun := h1.2.2.2.2.1
  have hu12 := h1.2.2.2.2.2
  have huB : nu (mi m) < 2147483648 := by omega
  have hdB : d < 2147483648 := by omega
  have hpB : p < 2147483648 := by omega
  have hsB' : s < 2147483648 := by omega
  obtain ⟨t, ht, htop⟩ := nN_ex (h2 p h3)
  have htB : t < 2147483648 := by omega
  have ek : 12 - d = (11 - d) + 1 := by omega
  have e1 : cDrop (12 - d) (nN p) s (mi m) = fo (fDo (cDrop (11 - d)) (nN p) s (np (mi m))) (nN t - nN s + 1, u3 (mi m) 2 0 p (nN s - 1)) (t + 1 - s) := by
    rw [ek, cDrop_s, nN_nat hpB, htop, nN_nat htB]
  rw [e1] at hK ⊢
  have h0 := DP_set (i := p) h4 h9 h2
  have hD : ∀ j c', j < t + 1 - s → DP (mi m) c' → ∀ i c'', i < np (mi m) → DP c' c'' → DP c'' (cDrop (11 - d) (nN i) (s + j) c'').2 := by
    intro j c' hj hc' i c'' hi hc''
    have hd2 := hc'.trans hc''
    have e : np c'' = np (mi m) := by unfold np; rw [hd2.2 35 0 0 (by decide)]
    exact cDrop_pres _ _ _ _ (by rw [nN_nat (by omega)]; omega) (by omega) (by omega) (by omega) hd2.1
  have hI := fo_inv (f := fDo (cDrop (11 - d)) (nN p) s (np (mi m))) (s := (nN t - nN s + 1, u3 (mi m) 2 0 p (nN s - 1))) (n := t + 1 - s) (fun _ a => DP (mi m) a.2) h0 (by
    intro j a hj ha
    exact DP_fDo j (fun i c' hi hc' => hD j (mi m) hj ⟨h2, fun _ _ _ _ => rfl⟩ i c' hi hc') a ha)
  have lo : (fun (j : Nat) (a : Int32 × ab_C) => K 36 [some (vA 39 0), some (vI (nN p)), some (vI (nN s)), some (vI (nN d)), some (vI (nN t)), some (vI a.1), some (vI (nN (s + j))), none] [] (wI m a.2)) 0 (nN t - nN s + 1, u3 (mi m) 2 0 p (nN s - 1)) := by
    refine fo_loop (P := fun (j : Nat) (a : Int32 × ab_C) => K 36 [some (vA 39 0), some (vI (nN p)), some (vI (nN s)), some (vI (nN d)), some (vI (nN t)), some (vI a.1), some (vI (nN (s + j))), none] [] (wI m a.2)) (f := fDo (cDrop (11 - d)) (nN p) s (np (mi m))) (n := t + 1 - s) ?_ ?_
    · intro j a hj ha hk
      have hDa := hI j (by omega)
      rw [← ha] at hDa
      clear ha hI
      have hjB : s + j < 2147483648 := by omega
      have hj10 : s + j < 10 := by omega
      -- the inner loop
      have li : (fun (i : Nat) (b : Int32 × ab_C) => K 46 [some (vA 39 0), some (vI (nN p)), some (vI (nN s)), some (vI (nN d)), some (vI (nN t)), some (vI b.1), some (vI (nN (s + j))), some (vI (nN i))] [] (wI m b.2)) 0 a := by
        have hI2 := fo_inv (f := fDi (cDrop (11 - d)) (nN p) (s + j)) (s := a) (n := np (mi m)) (fun _ b => DP (mi m) b.2) hDa (fun i b hi hb => DP_fDi (fun i c' hi hc' => hD j (mi m) hj ⟨h2, fun _ _ _ _ => rfl⟩ i c' hi hc') i b hi hb)
        refine fo_loop (P := fun (i : Nat) (b : Int32 × ab_C) => K 46 [some (vA 39 0), some (vI (nN p)), some (vI (nN s)), some (vI (nN d)), some (vI (nN t)), some (vI b.1), some (vI (nN (s + j))), some (vI (nN i))] [] (wI m b.2)) (f := fDi (cDrop (11 - d)) (nN p) (s + j)) (n := np (mi m)) ?_ ?_
        · intro i b hi hb hk'
          have hDb := hI2 i (by omega)
          rw [← hb] at hDb
          clear hb hI2
          have hiB : i < 2147483648 := by omega
          have hi12 : i < 12 := by omega
          have e35 : b.2 35 0 0 = nN (np (mi m)) := (hDb.2 35 0 0 (by decide)).trans hn
          have hCb : CI (wI m b.2) := CI_wI h1 (hDb.2 _ _ _ (by decide)) (hDb.2 _ _ _ (by decide)) (hDb.2 _ _ _ (by decide)) (hDb.2 _ _ _ (by decide))
          have hs := hsp b.2 i (s + j) hCb hDb.1 hi12 (by omega) (by omega)
          simp only [fDi] at hk'
          refine run_sound hK mt_X0_drop (T_X0_drop_46 sp) (fun x hx => List.mem_append_right _ (List.mem_append_right _ hx)) _ _ _ _ ?_
          simp only [T_X0_drop_46, e35, nN_lt hiB hnB, hi, inb_nN hiB, hi12, inb_nN hjB, hj10, nN_nat hiB, nN_nat hjB, nN_succ, hs, Bool.false_eq_true, ↓run_hit, ↓run_miss, ↓run_none, run_nil, ab_get0, ab_getS, if_true, if_false, if_pos, true_and, and_true, List.append_nil, List.nil_append, List.cons_append, List.length_cons, List.length_nil, List.take_succ_cons, List.take_zero, List.drop_succ_cons, List.drop_zero, List.reverse_cons, List.reverse_nil, List.map_nil, List.map_cons, List.sum_nil, List.sum_cons, rcv_some, rcv_999, wide_I, wide_L, wide_D, wide_R, wide_X, eq_self_iff_true, ite_true, ite_false, ↓reduceIte, Nat.reduceEqDiff, Nat.reduceLeDiff, Nat.reduceLT, Nat.reduceAdd, Nat.reduceMul, Nat.reduceBEq, decide_true, decide_false, and_self, or_self, or_true, true_or, false_or, or_false, and_false, false_and, not_false_eq_true, not_true_eq_false, Nat.zero_le, Nat.le_refl, Nat.add_eq_zero_iff, Nat.succ_ne_self, ↓s_const, ↓s_iload, ↓s_lload, ↓s_dload, ↓s_aload, ↓s_istore, ↓s_lstore, ↓s_dstore, ↓s_astore, ↓s_iinc, ↓s_bin, ↓s_div, ↓s_binL, ↓s_lcmp, ↓s_i2l, ↓s_i2d, ↓s_ddiv, ↓s_dcmpl, ↓s_goto, ↓s_ifeq, ↓s_iflt, ↓s_ifgt, ↓s_cmpeq, ↓s_cmplt, ↓s_cmpgt, ↓s_ifnull, ↓s_aeq, ↓s_pop, ↓s_dup, ↓s_dup2, ↓s_dupx1, ↓s_tab, ↓s_getI, ↓s_getR, ↓s_putI, ↓s_putZ, ↓s_putR, ↓s_ald, ↓s_ast, ↓s_zast, ↓s_lald, ↓s_last, ↓s_dald, ↓s_dast, ↓s_aald, ↓s_aast, ↓s_alen, ↓s_new, ↓s_newa, ↓s_multi, ↓s_cast, ↓s_getE, ↓s_obj, ↓s_mmin, ↓s_mmax, ↓s_hd, ↓s_call, ↓s_throw, ↓s_ret, ↓s_retL, ↓s_retD, ↓s_retA, ↓s_retV, mi_wI, mr_wI, mn_wI, mc_wI, sI_wI, u3_ap, mi_sI, mi_sR, mi_sL, mi_sD, mi_al, mi_bp, mr_sI, mr_sR, mr_sL, mr_sD, mr_al, mr_bp, ml_sI, ml_sR, ml_sL, ml_sD, ml_al, ml_bp, md_sI, md_sR, md_sL, md_sD, md_al, md_bp, mn_sI, mn_sR, mn_sL, mn_sD, mn_al, mn_bp, mc_sI, mc_sR, mc_sL, mc_sD, mc_al, mc_bp, mnc_sI, mnc_sR, mnc_sL, mnc_sD, mnc_al, mnc_bp, mns_sI, mns_sR, mns_sL, mns_sD, mns_al, mns_bp, SK_0, SK_1, SK_2, SK_3, SK_4, SK_5, SK_6, SK_7, SK_8, SK_9, SK_10, SK_11, SK_12, SK_13, SK_14, SK_15, SK_16, SK_17, SK_18, SK_19, SK_20, SK_21, SK_22, SK_23, SK_24, SK_25, SK_26, SK_27, SK_28, SK_29, SK_30, SK_31, SK_32, SK_33, SK_34, SK_35, SK_36, SK_37, SK_38, SK_39, SK_40, SK_41, SK_42, SK_43, SK_44, SK_45, SK_46, SK_47, SK_48, SK_49, SK_50, SK_51, SK_52, SK_53, SK_54, SK_55, SK_56, SK_57, SK_58, SK_59, SK_60, SK_61, SK_62, SK_63, SK_64, SK_65, st1_0, st1_1, st1_2, st1_3, st1_4, st1_5, st1_6, st1_7, st1_8, st2_0, st2_1, st2_2, st2_3, st2_4, st2_5, st2_6, st2_7, clr_I, clr_R, clr_X, clr_L, clr_D, clr_N, cr_14 hC, cr_16 hC, cr_33 hC, cn_15 hC, cn_17 hC, cn_34 hC, cr_61_0 hC, cr_61_1 hC, cr_61_2 hC, cr_61_3 hC, cr_61_4 hC, cr_61_5 hC, cr_35_1 hC, cr_35_2 hC, cr_35_3 hC, cr_35_4 hC, cr_35_5 hC, cr_35_6 hC, cr_35_7 hC, cr_35_8 hC, cr_35_9 hC, cr_35_10 hC, cr_35_11 hC, cr_36_1 hC, cr_36_2 hC, cr_37_1 hC, cr_37_2 hC, cr_37_3 hC, cr_37_4 hC, cr_38_1 hC, cr_38_2 hC, cr_38_3 hC, cr_38_4 hC, cr_38_5 hC, cr_38_6 hC, cr_38_7 hC, cr_38_8 hC, cr_39_0 hC, cr_39_1 hC, cr_40_0 hC, cr_40_1 hC, cr_40_2 hC, cr_40_3 hC, cr_40_4 hC, cr_40_5 hC, cn_2 hC, cn_3 hC, cn_4 hC, cn_14 hC, cn_16 hC, cn_18 hC, cn_19 hC, cn_20 hC, cn_21 hC, cn_33 hC, cn_5 hC, cn_6 hC, cn_7 hC, cn_8 hC, cn_9 hC, cn_10 hC, cn_11 hC, cn_12 hC, cn_13 hC, cn_22 hC, cn_23 hC, cn_24 hC, cn_25 hC, cn_26 hC, cn_27 hC, cn_28 hC, cn_29 hC, cn_30 hC, cn_31 hC, cn_32 hC]
          repeat' split
          all_goals simp_all only [if_true, if_false, reduceIte]
        · have hDb := hI2 (np (mi m)) (Nat.le_refl _)
          have e35 := (hDb.2 35 0 0 (by decide)).trans hn
          refine run_sound hK mt_X0_drop (T_X0_drop_46 sp) (fun x hx => List.mem_append_right _ (List.mem_append_right _ hx)) _ _ _ _ ?_
          simp only [T_X0_drop_46, e35, nN_lt hnB hnB, Nat.lt_irrefl, nN_succ, Bool.false_eq_true, ↓run_hit, ↓run_miss, ↓run_none, run_nil, ab_get0, ab_getS, if_true, if_false, if_pos, true_and, and_true, List.append_nil, List.nil_append, List.cons_append, List.length_cons, List.length_nil, List.take_succ_cons, List.take_zero, List.drop_succ_cons, List.drop_zero, List.reverse_cons, List.reverse_nil, List.map_nil, List.map_cons, List.sum_nil, List.sum_cons, rcv_some, rcv_999, wide_I, wide_L, wide_D, wide_R, wide_X, eq_self_iff_true, ite_true, ite_false, ↓reduceIte, Nat.reduceEqDiff, Nat.reduceLeDiff, Nat.reduceLT, Nat.reduceAdd, Nat.reduceMul, Nat.reduceBEq, decide_true, decide_false, and_self, or_self, or_true, true_or, false_or, or_false, and_false, false_and, not_false_eq_true, not_true_eq_false, Nat.zero_le, Nat.le_refl, Nat.add_eq_zero_iff, Nat.succ_ne_self, ↓s_const, ↓s_iload, ↓s_lload, ↓s_dload, ↓s_aload, ↓s_istore, ↓s_lstore, ↓s_dstore, ↓s_astore, ↓s_iinc, ↓s_bin, ↓s_div, ↓s_binL, ↓s_lcmp, ↓s_i2l, ↓s_i2d, ↓s_ddiv, ↓s_dcmpl, ↓s_goto, ↓s_ifeq, ↓s_iflt, ↓s_ifgt, ↓s_cmpeq, ↓s_cmplt, ↓s_cmpgt, ↓s_ifnull, ↓s_aeq, ↓s_pop, ↓s_dup, ↓s_dup2, ↓s_dupx1, ↓s_tab, ↓s_getI, ↓s_getR, ↓s_putI, ↓s_putZ, ↓s_putR, ↓s_ald, ↓s_ast, ↓s_zast, ↓s_lald, ↓s_last, ↓s_dald, ↓s_dast, ↓s_aald, ↓s_aast, ↓s_alen, ↓s_new, ↓s_newa, ↓s_multi, ↓s_cast, ↓s_getE, ↓s_obj, ↓s_mmin, ↓s_mmax, ↓s_hd, ↓s_call, ↓s_throw, ↓s_ret, ↓s_retL, ↓s_retD, ↓s_retA, ↓s_retV, mi_wI, mr_wI, mn_wI, mc_wI, sI_wI, u3_ap, mi_sI, mi_sR, mi_sL, mi_sD, mi_al, mi_bp, mr_sI, mr_sR, mr_sL, mr_sD, mr_al, mr_bp, ml_sI, ml_sR, ml_sL, ml_sD, ml_al, ml_bp, md_sI, md_sR, md_sL, md_sD, md_al, md_bp, mn_sI, mn_sR, mn_sL, mn_sD, mn_al, mn_bp, mc_sI, mc_sR, mc_sL, mc_sD, mc_al, mc_bp, mnc_sI, mnc_sR, mnc_sL, mnc_sD, mnc_al, mnc_bp, mns_sI, mns_sR, mns_sL, mns_sD, mns_al, mns_bp, SK_0, SK_1, SK_2, SK_3, SK_4, SK_5, SK_6, SK_7, SK_8, SK_9, SK_10, SK_11, SK_12, SK_13, SK_14, SK_15, SK_16, SK_17, SK_18, SK_19, SK_20, SK_21, SK_22, SK_23, SK_24, SK_25, SK_26, SK_27, SK_28, SK_29, SK_30, SK_31, SK_32, SK_33, SK_34, SK_35, SK_36, SK_37, SK_38, SK_39, SK_40, SK_41, SK_42, SK_43, SK_44, SK_45, SK_46, SK_47, SK_48, SK_49, SK_50, SK_51, SK_52, SK_53, SK_54, SK_55, SK_56, SK_57, SK_58, SK_59, SK_60, SK_61, SK_62, SK_63, SK_64, SK_65, st1_0, st1_1, st1_2, st1_3, st1_4, st1_5, st1_6, st1_7, st1_8, st2_0, st2_1, st2_2, st2_3, st2_4, st2_5, st2_6, st2_7, clr_I, clr_R, clr_X, clr_L, clr_D, clr_N, cr_14 hC, cr_16 hC, cr_33 hC, cn_15 hC, cn_17 hC, cn_34 hC, cr_61_0 hC, cr_61_1 hC, cr_61_2 hC, cr_61_3 hC, cr_61_4 hC, cr_61_5 hC, cr_35_1 hC, cr_35_2 hC, cr_35_3 hC, cr_35_4 hC, cr_35_5 hC, cr_35_6 hC, cr_35_7 hC, cr_35_8 hC, cr_35_9 hC, cr_35_10 hC, cr_35_11 hC, cr_36_1 hC, cr_36_2 hC, cr_37_1 hC, cr_37_2 hC, cr_37_3 hC, cr_37_4 hC, cr_38_1 hC, cr_38_2 hC, cr_38_3 hC, cr_38_4 hC, cr_38_5 hC, cr_38_6 hC, cr_38_7 hC, cr_38_8 hC, cr_39_0 hC, cr_39_1 hC, cr_40_0 hC, cr_40_1 hC, cr_40_2 hC, cr_40_3 hC, cr_40_4 hC, cr_40_5 hC, cn_2 hC, cn_3 hC, cn_4 hC, cn_14 hC, cn_16 hC, cn_18 hC, cn_19 hC, cn_20 hC, cn_21 hC, cn_33 hC, cn_5 hC, cn_6 hC, cn_7 hC, cn_8 hC, cn_9 hC, cn_10 hC, cn_11 hC, cn_12 hC, cn_13 hC, cn_22 hC, cn_23 hC, cn_24 hC, cn_25 hC, cn_26 hC, cn_27 hC, cn_28 hC, cn_29 hC, cn_30 hC, cn_31 hC, cn_32 hC]
          refine hK.2 36 _ _ _ _ ?_ hk
          repeat (first | exact le_nil | apply le_c | apply le_n)
      have hts : ¬ t < s + j := by omega
      refine run_sound hK mt_X0_drop (T_X0_drop_36 sp) (fun x hx => List.mem_append_right _ hx) _ _ _ _ ?_
      simp only [T_X0_drop_36, nN_lt htB hjB, hts, Bool.false_eq_true, ↓run_hit, ↓run_miss, ↓run_none, run_nil, ab_get0, ab_getS, if_true, if_false, if_pos, true_and, and_true, List.append_nil, List.nil_append, List.cons_append, List.length_cons, List.length_nil, List.take_succ_cons, List.take_zero, List.drop_succ_cons, List.drop_zero, List.reverse_cons, List.reverse_nil, List.map_nil, List.map_cons, List.sum_nil, List.sum_cons, rcv_some, rcv_999, wide_I, wide_L, wide_D, wide_R, wide_X, eq_self_iff_true, ite_true, ite_false, ↓reduceIte, Nat.reduceEqDiff, Nat.reduceLeDiff, Nat.reduceLT, Nat.reduceAdd, Nat.reduceMul, Nat.reduceBEq, decide_true, decide_false, and_self, or_self, or_true, true_or, false_or, or_false, and_false, false_and, not_false_eq_true, not_true_eq_false, Nat.zero_le, Nat.le_refl, Nat.add_eq_zero_iff, Nat.succ_ne_self, ↓s_const, ↓s_iload, ↓s_lload, ↓s_dload, ↓s_aload, ↓s_istore, ↓s_lstore, ↓s_dstore, ↓s_astore, ↓s_iinc, ↓s_bin, ↓s_div, ↓s_binL, ↓s_lcmp, ↓s_i2l, ↓s_i2d, ↓s_ddiv, ↓s_dcmpl, ↓s_goto, ↓s_ifeq, ↓s_iflt, ↓s_ifgt, ↓s_cmpeq, ↓s_cmplt, ↓s_cmpgt, ↓s_ifnull, ↓s_aeq, ↓s_pop, ↓s_dup, ↓s_dup2, ↓s_dupx1, ↓s_tab, ↓s_getI, ↓s_getR, ↓s_putI, ↓s_putZ, ↓s_putR, ↓s_ald, ↓s_ast, ↓s_zast, ↓s_lald, ↓s_last, ↓s_dald, ↓s_dast, ↓s_aald, ↓s_aast, ↓s_alen, ↓s_new, ↓s_newa, ↓s_multi, ↓s_cast, ↓s_getE, ↓s_obj, ↓s_mmin, ↓s_mmax, ↓s_hd, ↓s_call, ↓s_throw, ↓s_ret, ↓s_retL, ↓s_retD, ↓s_retA, ↓s_retV, mi_wI, mr_wI, mn_wI, mc_wI, sI_wI, u3_ap, mi_sI, mi_sR, mi_sL, mi_sD, mi_al, mi_bp, mr_sI, mr_sR, mr_sL, mr_sD, mr_al, mr_bp, ml_sI, ml_sR, ml_sL, ml_sD, ml_al, ml_bp, md_sI, md_sR, md_sL, md_sD, md_al, md_bp, mn_sI, mn_sR, mn_sL, mn_sD, mn_al, mn_bp, mc_sI, mc_sR, mc_sL, mc_sD, mc_al, mc_bp, mnc_sI, mnc_sR, mnc_sL, mnc_sD, mnc_al, mnc_bp, mns_sI, mns_sR, mns_sL, mns_sD, mns_al, mns_bp, SK_0, SK_1, SK_2, SK_3, SK_4, SK_5, SK_6, SK_7, SK_8, SK_9, SK_10, SK_11, SK_12, SK_13, SK_14, SK_15, SK_16, SK_17, SK_18, SK_19, SK_20, SK_21, SK_22, SK_23, SK_24, SK_25, SK_26, SK_27, SK_28, SK_29, SK_30, SK_31, SK_32, SK_33, SK_34, SK_35, SK_36, SK_37, SK_38, SK_39, SK_40, SK_41, SK_42, SK_43, SK_44, SK_45, SK_46, SK_47, SK_48, SK_49, SK_50, SK_51, SK_52, SK_53, SK_54, SK_55, SK_56, SK_57, SK_58, SK_59, SK_60, SK_61, SK_62, SK_63, SK_64, SK_65, st1_0, st1_1, st1_2, st1_3, st1_4, st1_5, st1_6, st1_7, st1_8, st2_0, st2_1, st2_2, st2_3, st2_4, st2_5, st2_6, st2_7, clr_I, clr_R, clr_X, clr_L, clr_D, clr_N, cr_14 hC, cr_16 hC, cr_33 hC, cn_15 hC, cn_17 hC, cn_34 hC, cr_61_0 hC, cr_61_1 hC, cr_61_2 hC, cr_61_3 hC, cr_61_4 hC, cr_61_5 hC, cr_35_1 hC, cr_35_2 hC, cr_35_3 hC, cr_35_4 hC, cr_35_5 hC, cr_35_6 hC, cr_35_7 hC, cr_35_8 hC, cr_35_9 hC, cr_35_10 hC, cr_35_11 hC, cr_36_1 hC, cr_36_2 hC, cr_37_1 hC, cr_37_2 hC, cr_37_3 hC, cr_37_4 hC, cr_38_1 hC, cr_38_2 hC, cr_38_3 hC, cr_38_4 hC, cr_38_5 hC, cr_38_6 hC, cr_38_7 hC, cr_38_8 hC, cr_39_0 hC, cr_39_1 hC, cr_40_0 hC, cr_40_1 hC, cr_40_2 hC, cr_40_3 hC, cr_40_4 hC, cr_40_5 hC, cn_2 hC, cn_3 hC, cn_4 hC, cn_14 hC, cn_16 hC, cn_18 hC, cn_19 hC, cn_20 hC, cn_21 hC, cn_33 hC, cn_5 hC, cn_6 hC, cn_7 hC, cn_8 hC, cn_9 hC, cn_10 hC, cn_11 hC, cn_12 hC, cn_13 hC, cn_22 hC, cn_23 hC, cn_24 hC, cn_25 hC, cn_26 hC, cn_27 hC, cn_28 hC, cn_29 hC, cn_30 hC, cn_31 hC, cn_32 hC]
      exact li
    · have hjB : s + (t + 1 - s) < 2147483648 := by omega
      have hts : t < s + (t + 1 - s) := by omega
      refine run_sound hK mt_X0_drop (T_X0_drop_36 sp) (fun x hx => List.mem_append_right _ hx) _ _ _ _ ?_
      simp only [T_X0_drop_36, T_X0_drop_46, nN_lt htB hjB, hts, Bool.false_eq_true, ↓run_hit, ↓run_miss, ↓run_none, run_nil, ab_get0, ab_getS, if_true, if_false, if_pos, true_and, and_true, List.append_nil, List.nil_append, List.cons_append, List.length_cons, List.length_nil, List.take_succ_cons, List.take_zero, List.drop_succ_cons, List.drop_zero, List.reverse_cons, List.reverse_nil, List.map_nil, List.map_cons, List.sum_nil, List.sum_cons, rcv_some, rcv_999, wide_I, wide_L, wide_D, wide_R, wide_X, eq_self_iff_true, ite_true, ite_false, ↓reduceIte, Nat.reduceEqDiff, Nat.reduceLeDiff, Nat.reduceLT, Nat.reduceAdd, Nat.reduceMul, Nat.reduceBEq, decide_true, decide_false, and_self, or_self, or_true, true_or, false_or, or_false, and_false, false_and, not_false_eq_true, not_true_eq_false, Nat.zero_le, Nat.le_refl, Nat.add_eq_zero_iff, Nat.succ_ne_self, ↓s_const, ↓s_iload, ↓s_lload, ↓s_dload, ↓s_aload, ↓s_istore, ↓s_lstore, ↓s_dstore, ↓s_astore, ↓s_iinc, ↓s_bin, ↓s_div, ↓s_binL, ↓s_lcmp, ↓s_i2l, ↓s_i2d, ↓s_ddiv, ↓s_dcmpl, ↓s_goto, ↓s_ifeq, ↓s_iflt, ↓s_ifgt, ↓s_cmpeq, ↓s_cmplt, ↓s_cmpgt, ↓s_ifnull, ↓s_aeq, ↓s_pop, ↓s_dup, ↓s_dup2, ↓s_dupx1, ↓s_tab, ↓s_getI, ↓s_getR, ↓s_putI, ↓s_putZ, ↓s_putR, ↓s_ald, ↓s_ast, ↓s_zast, ↓s_lald, ↓s_last, ↓s_dald, ↓s_dast, ↓s_aald, ↓s_aast, ↓s_alen, ↓s_new, ↓s_newa, ↓s_multi, ↓s_cast, ↓s_getE, ↓s_obj, ↓s_mmin, ↓s_mmax, ↓s_hd, ↓s_call, ↓s_throw, ↓s_ret, ↓s_retL, ↓s_retD, ↓s_retA, ↓s_retV, mi_wI, mr_wI, mn_wI, mc_wI, sI_wI, u3_ap, mi_sI, mi_sR, mi_sL, mi_sD, mi_al, mi_bp, mr_sI, mr_sR, mr_sL, mr_sD, mr_al, mr_bp, ml_sI, ml_sR, ml_sL, ml_sD, ml_al, ml_bp, md_sI, md_sR, md_sL, md_sD, md_al, md_bp, mn_sI, mn_sR, mn_sL, mn_sD, mn_al, mn_bp, mc_sI, mc_sR, mc_sL, mc_sD, mc_al, mc_bp, mnc_sI, mnc_sR, mnc_sL, mnc_sD, mnc_al, mnc_bp, mns_sI, mns_sR, mns_sL, mns_sD, mns_al, mns_bp, SK_0, SK_1, SK_2, SK_3, SK_4, SK_5, SK_6, SK_7, SK_8, SK_9, SK_10, SK_11, SK_12, SK_13, SK_14, SK_15, SK_16, SK_17, SK_18, SK_19, SK_20, SK_21, SK_22, SK_23, SK_24, SK_25, SK_26, SK_27, SK_28, SK_29, SK_30, SK_31, SK_32, SK_33, SK_34, SK_35, SK_36, SK_37, SK_38, SK_39, SK_40, SK_41, SK_42, SK_43, SK_44, SK_45, SK_46, SK_47, SK_48, SK_49, SK_50, SK_51, SK_52, SK_53, SK_54, SK_55, SK_56, SK_57, SK_58, SK_59, SK_60, SK_61, SK_62, SK_63, SK_64, SK_65, st1_0, st1_1, st1_2, st1_3, st1_4, st1_5, st1_6, st1_7, st1_8, st2_0, st2_1, st2_2, st2_3, st2_4, st2_5, st2_6, st2_7, clr_I, clr_R, clr_X, clr_L, clr_D, clr_N, cr_14 hC, cr_16 hC, cr_33 hC, cn_15 hC, cn_17 hC, cn_34 hC, cr_61_0 hC, cr_61_1 hC, cr_61_2 hC, cr_61_3 hC, cr_61_4 hC, cr_61_5 hC, cr_35_1 hC, cr_35_2 hC, cr_35_3 hC, cr_35_4 hC, cr_35_5 hC, cr_35_6 hC, cr_35_7 hC, cr_35_8 hC, cr_35_9 hC, cr_35_10 hC, cr_35_11 hC, cr_36_1 hC, cr_36_2 hC, cr_37_1 hC, cr_37_2 hC, cr_37_3 hC, cr_37_4 hC, cr_38_1 hC, cr_38_2 hC, cr_38_3 hC, cr_38_4 hC, cr_38_5 hC, cr_38_6 hC, cr_38_7 hC, cr_38_8 hC, cr_39_0 hC, cr_39_1 hC, cr_40_0 hC, cr_40_1 hC, cr_40_2 hC, cr_40_3 hC, cr_40_4 hC, cr_40_5 hC, cn_2 hC, cn_3 hC, cn_4 hC, cn_14 hC, cn_16 hC, cn_18 hC, cn_19 hC, cn_20 hC, cn_21 hC, cn_33 hC, cn_5 hC, cn_6 hC, cn_7 hC, cn_8 hC, cn_9 hC, cn_10 hC, cn_11 hC, cn_12 hC, cn_13 hC, cn_22 hC, cn_23 hC, cn_24 hC, cn_25 hC, cn_26 hC, cn_27 hC, cn_28 hC, cn_29 hC, cn_30 hC, cn_31 hC, cn_32 hC]
  simp only [T_X0_drop, nN_lt12 hdB, h5, inb_nN hpB, h3, htop, nN_nat hpB, Bool.false_eq_true, ↓run_hit, ↓run_miss, ↓run_none, run_nil, ab_get0, ab_getS, if_true, if_false, if_pos, true_and, and_true, List.append_nil, List.nil_append, List.cons_append, List.length_cons, List.length_nil, List.take_succ_cons, List.take_zero, List.drop_succ_cons, List.drop_zero, List.reverse_cons, List.reverse_nil, List.map_nil, List.map_cons, List.sum_nil, List.sum_cons, rcv_some, rcv_999, wide_I, wide_L, wide_D, wide_R, wide_X, eq_self_iff_true, ite_true, ite_false, ↓reduceIte, Nat.reduceEqDiff, Nat.reduceLeDiff, Nat.reduceLT, Nat.reduceAdd, Nat.reduceMul, Nat.reduceBEq, decide_true, decide_false, and_self, or_self, or_true, true_or, false_or, or_false, and_false, false_and, not_false_eq_true, not_true_eq_false, Nat.zero_le, Nat.le_refl, Nat.add_eq_zero_iff, Nat.succ_ne_self, ↓s_const, ↓s_iload, ↓s_lload, ↓s_dload, ↓s_aload, ↓s_istore, ↓s_lstore, ↓s_dstore, ↓s_astore, ↓s_iinc, ↓s_bin, ↓s_div, ↓s_binL, ↓s_lcmp, ↓s_i2l, ↓s_i2d, ↓s_ddiv, ↓s_dcmpl, ↓s_goto, ↓s_ifeq, ↓s_iflt, ↓s_ifgt, ↓s_cmpeq, ↓s_cmplt, ↓s_cmpgt, ↓s_ifnull, ↓s_aeq, ↓s_pop, ↓s_dup, ↓s_dup2, ↓s_dupx1, ↓s_tab, ↓s_getI, ↓s_getR, ↓s_putI, ↓s_putZ, ↓s_putR, ↓s_ald, ↓s_ast, ↓s_zast, ↓s_lald, ↓s_last, ↓s_dald, ↓s_dast, ↓s_aald, ↓s_aast, ↓s_alen, ↓s_new, ↓s_newa, ↓s_multi, ↓s_cast, ↓s_getE, ↓s_obj, ↓s_mmin, ↓s_mmax, ↓s_hd, ↓s_call, ↓s_throw, ↓s_ret, ↓s_retL, ↓s_retD, ↓s_retA, ↓s_retV, mi_wI, mr_wI, mn_wI, mc_wI, sI_wI, u3_ap, mi_sI, mi_sR, mi_sL, mi_sD, mi_al, mi_bp, mr_sI, mr_sR, mr_sL, mr_sD, mr_al, mr_bp, ml_sI, ml_sR, ml_sL, ml_sD, ml_al, ml_bp, md_sI, md_sR, md_sL, md_sD, md_al, md_bp, mn_sI, mn_sR, mn_sL, mn_sD, mn_al, mn_bp, mc_sI, mc_sR, mc_sL, mc_sD, mc_al, mc_bp, mnc_sI, mnc_sR, mnc_sL, mnc_sD, mnc_al, mnc_bp, mns_sI, mns_sR, mns_sL, mns_sD, mns_al, mns_bp, SK_0, SK_1, SK_2, SK_3, SK_4, SK_5, SK_6, SK_7, SK_8, SK_9, SK_10, SK_11, SK_12, SK_13, SK_14, SK_15, SK_16, SK_17, SK_18, SK_19, SK_20, SK_21, SK_22, SK_23, SK_24, SK_25, SK_26, SK_27, SK_28, SK_29, SK_30, SK_31, SK_32, SK_33, SK_34, SK_35, SK_36, SK_37, SK_38, SK_39, SK_40, SK_41, SK_42, SK_43, SK_44, SK_45, SK_46, SK_47, SK_48, SK_49, SK_50, SK_51, SK_52, SK_53, SK_54, SK_55, SK_56, SK_57, SK_58, SK_59, SK_60, SK_61, SK_62, SK_63, SK_64, SK_65, st1_0, st1_1, st1_2, st1_3, st1_4, st1_5, st1_6, st1_7, st1_8, st2_0, st2_1, st2_2, st2_3, st2_4, st2_5, st2_6, st2_7, clr_I, clr_R, clr_X, clr_L, clr_D, clr_N, cr_14 hC, cr_16 hC, cr_33 hC, cn_15 hC, cn_17 hC, cn_34 hC, cr_61_0 hC, cr_61_1 hC, cr_61_2 hC, cr_61_3 hC, cr_61_4 hC, cr_61_5 hC, cr_35_1 hC, cr_35_2 hC, cr_35_3 hC, cr_35_4 hC, cr_35_5 hC, cr_35_6 hC, cr_35_7 hC, cr_35_8 hC, cr_35_9 hC, cr_35_10 hC, cr_35_11 hC, cr_36_1 hC, cr_36_2 hC, cr_37_1 hC, cr_37_2 hC, cr_37_3 hC, cr_37_4 hC, cr_38_1 hC, cr_38_2 hC, cr_38_3 hC, cr_38_4 hC, cr_38_5 hC, cr_38_6 hC, cr_38_7 hC, cr_38_8 hC, cr_39_0 hC, cr_39_1 hC, cr_40_0 hC, cr_40_1 hC, cr_40_2 hC, cr_40_3 hC, cr_40_4 hC, cr_40_5 hC, cn_2 hC, cn_3 hC, cn_4 hC, cn_14 hC, cn_16 hC, cn_18 hC, cn_19 hC, cn_20 hC, cn_21 hC, cn_33 hC, cn_5 hC, cn_6 hC, cn_7 hC, cn_8 hC, cn_9 hC, cn_10 hC, cn_11 hC, cn_12 hC, cn_13 hC, cn_22 hC, cn_23 hC, cn_24 hC, cn_25 hC, cn_26 hC, cn_27 hC, cn_28 hC, cn_29 hC, cn_30 hC, cn_31 hC, cn_32 hC]
  exact lo
theorem C_X0_drop {l : Launch} {D : va_G} {cA : Nat → ClassId} (hst : l.stackTraces = false) : ∀ (k d : Nat), k + 1 ≤ d → ∀ (as : List ab_V) (m : ab_M), Ctr l D cA d yX0_drop (Cond.code yX0_drop cX0_drop 8 (some .int) :: TB) as m (SP_X0_drop k as m) := by
  intro k
  induction k with
  | zero =>
    intro d hd as m
    refine ctr_of2 (by decide +kernel) hst (by omega) (snd_X0_drop (sp_X0_drop := fun _ _ => none) (d' := 0) (hd9 := by omega) (hC_X0_drop := fun _ _ _ h => by cases h)) mt_X0_drop ?_
    intro r hr
    unfold SP_X0_drop at hr
    split at hr
    · obtain ⟨hp, hr'⟩ := gd_some hr
      obtain ⟨rfl, h1, h2, h3, h4, h5, h6⟩ := hp
      rename_i p s d
      have e12 : d.toNatClampNeg = 12 := by have := (inb_eq h5).2; omega
      have ed : d = 12 := by rw [(inb_eq h5).1, e12]; rfl
      rw [e12] at hr'
      cases hr'
      exact ⟨by show 4 ≤ 8; decide, ⟨Nat.le_refl _, Nat.le_refl _⟩, q0_X0_drop ed⟩
    · cases hr
  | succ k ih =>
    intro d hd as m
    refine ctr_of2 (by decide +kernel) hst (by omega) (snd_X0_drop (sp_X0_drop := SP_X0_drop k) (d' := k + 1) (hd9 := by omega) (hC_X0_drop := ih (k + 1) (Nat.le_refl _))) mt_X0_drop ?_
    intro r hr
    unfold SP_X0_drop at hr
    split at hr
    · obtain ⟨hp, hr'⟩ := gd_some hr
      obtain ⟨rfl, h1, h2, h3, h4, h5, h6⟩ := hp
      rename_i p s d
      by_cases e12 : d.toNatClampNeg = 12
      · have ed : d = 12 := by rw [(inb_eq h5).1, e12]; rfl
        rw [e12] at hr'
        cases hr'
        exact ⟨by show 4 ≤ 8; decide, ⟨Nat.le_refl _, Nat.le_refl _⟩, q0_X0_drop ed⟩
      · cases hr'
        have hd13 := (inb_eq h5).2
        have hp12 := (inb_eq h3).2
        have hs10 := (inb_eq h4.1).2
        refine ⟨by show 4 ≤ 8; decide, ⟨Nat.le_refl _, Nat.le_refl _⟩, ?_⟩
        have q := q_X0_drop (sp := SP_X0_drop k) (m := m) (p := p.toNatClampNeg) (s := s.toNatClampNeg) (d := d.toNatClampNeg) h1 h2 hp12 h4.2 (by omega) (by omega) (by
          intro c i t hc hk hi ht ht9
          have := e_X0_drop (k := k) (m := wI m c) (p := nN i) (s := nN t) (d := nN (d.toNatClampNeg + 1)) hc hk (by rw [inb_nN (by omega)]; exact hi) (by rw [inb_nN (by omega), nN_nat (by omega)]; omega) (by rw [inb_nN (by omega)]; omega) (by rw [nN_nat (by omega)]; omega)
          rw [this, nN_nat (by omega), nN_nat (by omega), show 12 - (d.toNatClampNeg + 1) = 11 - d.toNatClampNeg by omega]; rfl)
        rw [← (inb_eq h3).1, ← (inb_eq h4.1).1, ← (inb_eq h5).1] at q
        exact q
    · cases hr

