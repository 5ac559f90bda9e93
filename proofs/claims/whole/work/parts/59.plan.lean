/-! how many plans; a plan; company -/
theorem fo_congr {σ : Type} {f f' : Nat → σ → σ} {s : σ} : ∀ n, (∀ i a, i < n → f i a = f' i a) → fo f s n = fo f' s n
  | 0, _ => rfl
  | n + 1, h => by
    show f n (fo f s n) = f' n (fo f' s n)
    rw [fo_congr n (fun i a hi => h i a (by omega)), h n _ (Nat.lt_succ_self n)]
def fCn (c : ab_C) (kd : Nat) (h : Int32) : Nat → Nat → Nat := fun i a => if rCan c i (nN kd) h = true then a + 1 else a
def cnn (c : ab_C) (kd : Nat) (h : Int32) (n : Nat) : Nat := fo (fCn c kd h) 0 n
theorem cnn_s {c : ab_C} {kd : Nat} {h : Int32} {n : Nat} : cnn c kd h (n + 1) = if rCan c n (nN kd) h = true then cnn c kd h n + 1 else cnn c kd h n := rfl
theorem rCan_kind {c : ab_C} {u : Nat} {k h : Int32} (e : rCan c u k h = true) : c 26 0 u = k := by
  unfold rCan at e
  simp only [Bool.and_eq_true, decide_eq_true_eq] at e
  exact e.1
theorem cnn_sum {c : ab_C} {h : Int32} : ∀ n, cnn c 0 h n + cnn c 1 h n + cnn c 2 h n + cnn c 3 h n ≤ n
  | 0 => Nat.le_refl _
  | n + 1 => by
    have ih := cnn_sum (c := c) (h := h) n
    have key : ∀ a b : Nat, a < 4 → b < 4 → a ≠ b → rCan c n (nN a) h = true → rCan c n (nN b) h = true → False := by
      intro a b ha hb hab e1 e2
      have := (rCan_kind e1).symm.trans (rCan_kind e2)
      rw [nN_inj (by omega) (by omega)] at this
      exact hab this
    rw [cnn_s, cnn_s, cnn_s, cnn_s]
    by_cases e0 : rCan c n (nN 0) h = true
    · rw [if_pos e0, if_neg (fun z => key 0 1 (by decide) (by decide) (by decide) e0 z), if_neg (fun z => key 0 2 (by decide) (by decide) (by decide) e0 z), if_neg (fun z => key 0 3 (by decide) (by decide) (by decide) e0 z)]
      omega
    · rw [if_neg e0]
      by_cases e1 : rCan c n (nN 1) h = true
      · rw [if_pos e1, if_neg (fun z => key 1 2 (by decide) (by decide) (by decide) e1 z), if_neg (fun z => key 1 3 (by decide) (by decide) (by decide) e1 z)]
        omega
      · rw [if_neg e1]
        by_cases e2 : rCan c n (nN 2) h = true
        · rw [if_pos e2, if_neg (fun z => key 2 3 (by decide) (by decide) (by decide) e2 z)]
          omega
        · rw [if_neg e2]
          split <;> omega
theorem nkk_eq {c : ab_C} {kd : Nat} {h : Int32} : nkk c kd h = cnn c kd h (nu c) + 1 := by
  show fNk c kd h (nu c) (fo (fNk c kd h) 0 (nu c)) = _
  unfold fNk
  rw [if_neg (Nat.lt_irrefl _)]
  congr 1
  exact fo_congr _ (fun i a hi => if_pos hi)
theorem four_mul {x y : Nat} : 4 * (x * y) ≤ (x + y) * (x + y) := by
  have key : ∀ x t : Nat, 4 * (x * (x + t)) ≤ (x + (x + t)) * (x + (x + t)) := by
    intro x t
    simp only [Nat.mul_add, Nat.add_mul, Nat.mul_comm t x]
    generalize x * x = a
    generalize x * t = b
    omega
  by_cases h : x ≤ y
  · obtain ⟨t, rfl⟩ := Nat.exists_eq_add_of_le h
    exact key x t
  · obtain ⟨t, rfl⟩ := Nat.exists_eq_add_of_le (Nat.le_of_not_le h)
    rw [Nat.mul_comm (y + t) y, Nat.add_comm (y + t) y]
    exact key y t
theorem lvs_le {c : ab_C} {h : Int32} (hu : nu c ≤ 12) : lvs c h 4 ≤ 256 := by
  show nkk c 0 h * (nkk c 1 h * (nkk c 2 h * (nkk c 3 h * 1))) ≤ 256
  rw [nkk_eq, nkk_eq, nkk_eq, nkk_eq, Nat.mul_one]
  have hs := cnn_sum (c := c) (h := h) (nu c)
  generalize cnn c 0 h (nu c) = a at *
  generalize cnn c 1 h (nu c) = b at *
  generalize cnn c 2 h (nu c) = d at *
  generalize cnn c 3 h (nu c) = e at *
  rw [← Nat.mul_assoc]
  have h1 := four_mul (x := a + 1) (y := b + 1)
  have h2 := four_mul (x := d + 1) (y := e + 1)
  generalize hX : (a + 1) * (b + 1) = X at *
  generalize hY : (d + 1) * (e + 1) = Y at *
  generalize hP : a + 1 + (b + 1) = P at *
  generalize hQ : d + 1 + (e + 1) = Q at *
  have hPQ : P + Q ≤ 16 := by omega
  have h3 := four_mul (x := P) (y := Q)
  have h4 : (P + Q) * (P + Q) ≤ 16 * 16 := Nat.mul_le_mul hPQ hPQ
  have h5 : P * Q ≤ 64 := by omega
  have h6 : (4 * X) * (4 * Y) ≤ (P * P) * (Q * Q) := Nat.mul_le_mul h1 h2
  have h7 : (P * P) * (Q * Q) = (P * Q) * (P * Q) := Nat.mul_mul_mul_comm P P Q Q
  have h8 : (P * Q) * (P * Q) ≤ 64 * 64 := Nat.mul_le_mul h5 h5
  have h9 : (4 * X) * (4 * Y) = 16 * (X * Y) := by rw [Nat.mul_mul_mul_comm]
  omega
def rWorthP (c : ab_C) (h g : Int32) : Int32 := (rBest c h g 4 (fun _ => 0)).2 4 - 6 * rQuarrels c (g ||| sB h)
noncomputable def SP_X9_planFor : List ab_V → ab_M → ab_O := fun as m => chs (T_X9_planFor (SP_X9_bestFrom 5) SP_X9_quarrelsOf) 4 as m (fun r => match as with
  | [_, .inl h, .inl g] => ∃ (m' : ab_M) (j : Nat), (okV (vA 54 j) m' : ab_O) = some r ∧ (GB m m' 257 1284 ∧ mc m 54 ≤ j ∧ j < mc m' 54 ∧ mn m' 54 j = 5 ∧ (∀ q, q < 4 → mi m' 54 j q = (rBest (rc m) h g 4 (fun _ => 0)).2 q) ∧ mi m' 54 j 4 = rWorthP (rc m) h g)
  | _ => False)
theorem w_X9_planFor {m : ab_M} {h : Int32} {g : Int32} (r : ab_R) (hmono : mnc m ≤ mnc (resM r) ∧ mns m ≤ mns (resM r)) (hp : ∃ (m' : ab_M) (j : Nat), (okV (vA 54 j) m' : ab_O) = some r ∧ (GB m m' 257 1284 ∧ mc m 54 ≤ j ∧ j < mc m' 54 ∧ mn m' 54 j = 5 ∧ (∀ q, q < 4 → mi m' 54 j q = (rBest (rc m) h g 4 (fun _ => 0)).2 q) ∧ mi m' 54 j 4 = rWorthP (rc m) h g)) (hK : ∀ K : ab_K, Closed (T_X9_planFor (SP_X9_bestFrom 5) SP_X9_quarrelsOf) (fun r' => r' = r) K → K 0 [some (vA 62 0), some (vI h), some (vI g), none] [] m) : ∃ r, ((eL [vA 62 0, vI h, vI g]).length ≤ 4 ∧ (mnc m ≤ mnc (resM r) ∧ mns m ≤ mns (resM r)) ∧ Comes_to (T_X9_planFor (SP_X9_bestFrom 5) SP_X9_quarrelsOf) (entry 4 [vA 62 0, vI h, vI g]) m r) ∧ ∃ (m' : ab_M) (j : Nat), (okV (vA 54 j) m' : ab_O) = some r ∧ (GB m m' 257 1284 ∧ mc m 54 ≤ j ∧ j < mc m' 54 ∧ mn m' 54 j = 5 ∧ (∀ q, q < 4 → mi m' 54 j q = (rBest (rc m) h g 4 (fun _ => 0)).2 q) ∧ mi m' 54 j 4 = rWorthP (rc m) h g) := ⟨r, ⟨by show 3 ≤ 4; decide, hmono, hK⟩, hp⟩
theorem q_X9_planFor {m : ab_M} {h : Int32} {g : Int32} (h1 : RM m) : ∃ r, ((eL [vA 62 0, vI h, vI g]).length ≤ 4 ∧ (mnc m ≤ mnc (resM r) ∧ mns m ≤ mns (resM r)) ∧ Comes_to (T_X9_planFor (SP_X9_bestFrom 5) SP_X9_quarrelsOf) (entry 4 [vA 62 0, vI h, vI g]) m r) ∧ ∃ (m' : ab_M) (j : Nat), (okV (vA 54 j) m' : ab_O) = some r ∧ (GB m m' 257 1284 ∧ mc m 54 ≤ j ∧ j < mc m' 54 ∧ mn m' 54 j = 5 ∧ (∀ q, q < 4 → mi m' 54 j q = (rBest (rc m) h g 4 (fun _ => 0)).2 q) ∧ mi m' 54 j 4 = rWorthP (rc m) h g) := by
  have gb1 : GB m (al m 55 4 4) 1 4 := GB.oal rfl
  have rcal : rc (al m 55 4 4) = rc m := gb1.grc
  generalize ho : mc m 55 = o
  have hz : mi (al m 55 4 4) 55 o = fun _ => 0 := by
    funext q
    rw [mi_al, ho, u2_ap, if_pos ⟨rfl, rfl⟩]
  have hmn : mn (al m 55 4 4) 55 o = 4 := by rw [mn_al, ho, u2_ap, if_pos ⟨rfl, rfl⟩]
  have hoc : o < mc (al m 55 4 4) 55 := by rw [mc_al, ho]; unfold u1; rw [if_pos rfl]; exact Nat.lt_succ_self _
  obtain ⟨M, j, eM, G, b1, b2, b3, b4, b5⟩ := e_X9_bestFrom 4 (m := al m 55 4 4) (o := o) (h := h) (g := g) ⟨gb1.gRM h1, hmn, hoc, Nat.le_refl _, fun q hq => absurd hq (by omega)⟩
  have hm54 : mc (al m 55 4 4) 54 = mc m 54 := rfl
  generalize hm1 : al m 55 4 4 = m1 at *
  rw [rcal] at G
  rw [rcal, hz] at b5
  have hl := lvs_le (c := rc m) (h := h) h1.2.2.2.2.1.2
  have G2 : GB m M 257 1284 := (GX.gb gb1 G (by omega)).le (by omega) (by omega)
  have qf := e_X9_quarrelsOf (m := M) (h := h) (g := g) (G2.gRM h1)
  rw [G2.grc] at qf
  have b54 : mi M 54 j 4 = (rBest (rc m) h g 4 (fun _ => 0)).2 4 := b5 4 (by decide)
  refine w_X9_planFor (.inl ([vA 54 j], sI M 54 j 4 (rWorthP (rc m) h g))) G2.2.2.1 ⟨_, j, rfl, G2.oI rfl (by omega), by omega, b2, b3, fun q hq => ?_, ?_⟩ (fun K hK => ?_)
  · rw [mi_sI, u3_ap, if_neg (fun z => by have := z.2.2; omega)]
    exact b5 q (by omega)
  · rw [mi_sI, u3_ap, if_pos ⟨rfl, rfl, rfl⟩]
  · refine run_sound hK mt_X9_planFor (T_X9_planFor (SP_X9_bestFrom 5) SP_X9_quarrelsOf) (fun x hx => hx) _ _ _ _ ?_
    have eM' : SP_X9_bestFrom 5 [vA 62 0, vI 0, vI h, vI g, vA 55 o] m1 = okV (vA 54 j) M := eM
    simp only [T_X9_planFor, i4, i4p, ho, hm1, eM', b3, b54, qf, show inb 4 5 from by unfold inb; decide, i10, Bool.false_eq_true, Bool.true_eq_false, Bool.not_true, Bool.not_false, ↓run_hit, ↓run_miss, ↓run_none, run_nil, ab_get0, ab_getS, if_true, if_false, if_pos, true_and, and_true, List.append_nil, List.nil_append, List.cons_append, List.length_cons, List.length_nil, List.take_succ_cons, List.take_zero, List.drop_succ_cons, List.drop_zero, List.reverse_cons, List.reverse_nil, List.map_nil, List.map_cons, List.sum_nil, List.sum_cons, rcv_some, rcv_999, wide_I, wide_L, wide_D, wide_R, wide_X, eq_self_iff_true, ite_true, ite_false, ↓reduceIte, Nat.reduceEqDiff, Nat.reduceLeDiff, Nat.reduceLT, Nat.reduceAdd, Nat.reduceMul, Nat.reduceBEq, decide_true, decide_false, and_self, or_self, or_true, true_or, false_or, or_false, and_false, false_and, not_false_eq_true, not_true_eq_false, Nat.zero_le, Nat.le_refl, Nat.add_eq_zero_iff, Nat.succ_ne_self, ↓s_const, ↓s_iload, ↓s_lload, ↓s_dload, ↓s_aload, ↓s_istore, ↓s_lstore, ↓s_dstore, ↓s_astore, ↓s_iinc, ↓s_bin, ↓s_div, ↓s_binL, ↓s_lcmp, ↓s_i2l, ↓s_i2d, ↓s_ddiv, ↓s_dcmpl, ↓s_goto, ↓s_ifeq, ↓s_iflt, ↓s_ifgt, ↓s_cmpeq, ↓s_cmplt, ↓s_cmpgt, ↓s_ifnull, ↓s_aeq, ↓s_pop, ↓s_dup, ↓s_dup2, ↓s_dupx1, ↓s_tab, ↓s_getI, ↓s_getR, ↓s_putI, ↓s_putZ, ↓s_putR, ↓s_ald, ↓s_ast, ↓s_zast, ↓s_lald, ↓s_last, ↓s_dald, ↓s_dast, ↓s_aald, ↓s_aast, ↓s_alen, ↓s_new, ↓s_newa, ↓s_multi, ↓s_cast, ↓s_getE, ↓s_obj, ↓s_mmin, ↓s_mmax, ↓s_hd, ↓s_call, ↓s_throw, ↓s_ret, ↓s_retL, ↓s_retD, ↓s_retA, ↓s_retV, mi_wI, mr_wI, mn_wI, mc_wI, sI_wI, u3_ap, mi_sI, mi_sR, mi_sL, mi_sD, mi_al, mi_bp, mr_sI, mr_sR, mr_sL, mr_sD, mr_al, mr_bp, ml_sI, ml_sR, ml_sL, ml_sD, ml_al, ml_bp, md_sI, md_sR, md_sL, md_sD, md_al, md_bp, mn_sI, mn_sR, mn_sL, mn_sD, mn_al, mn_bp, mc_sI, mc_sR, mc_sL, mc_sD, mc_al, mc_bp, mnc_sI, mnc_sR, mnc_sL, mnc_sD, mnc_al, mnc_bp, mns_sI, mns_sR, mns_sL, mns_sD, mns_al, mns_bp, SK_0, SK_1, SK_2, SK_3, SK_4, SK_5, SK_6, SK_7, SK_8, SK_9, SK_10, SK_11, SK_12, SK_13, SK_14, SK_15, SK_16, SK_17, SK_18, SK_19, SK_20, SK_21, SK_22, SK_23, SK_24, SK_25, SK_26, SK_27, SK_28, SK_29, SK_30, SK_31, SK_32, SK_33, SK_34, SK_35, SK_36, SK_37, SK_38, SK_39, SK_40, SK_41, SK_42, SK_43, SK_44, SK_45, SK_46, SK_47, SK_48, SK_49, SK_50, SK_51, SK_52, SK_53, SK_54, SK_55, SK_56, SK_57, SK_58, SK_59, SK_60, SK_61, SK_62, SK_63, SK_64, SK_65, st1_0, st1_1, st1_2, st1_3, st1_4, st1_5, st1_6, st1_7, st1_8, st2_0, st2_1, st2_2, st2_3, st2_4, st2_5, st2_6, st2_7, clr_I, clr_R, clr_X, clr_L, clr_D, clr_N]
    rfl
theorem e_X9_planFor {m : ab_M} {h : Int32} {g : Int32} (h1 : RM m) : ∃ (m' : ab_M) (j : Nat), SP_X9_planFor [vA 62 0, vI h, vI g] m = (okV (vA 54 j) m' : ab_O) ∧ (GB m m' 257 1284 ∧ mc m 54 ≤ j ∧ j < mc m' 54 ∧ mn m' 54 j = 5 ∧ (∀ q, q < 4 → mi m' 54 j q = (rBest (rc m) h g 4 (fun _ => 0)).2 q) ∧ mi m' 54 j 4 = rWorthP (rc m) h g) := by
  obtain ⟨r, h8, m', j, h7, h9⟩ := chs_ok (q_X9_planFor (m := m) (h := h) (g := g) h1)
  exact ⟨m', j, h8.trans h7.symm, h9⟩
theorem C_X9_planFor {l : Launch} {D : va_G} {cA : Nat → ClassId} {d : Nat} (hst : l.stackTraces = false) (hd : 26 ≤ d) : ∀ (as : List ab_V) (m : ab_M), Ctr l D cA d yX9_planFor (Cond.code yX9_planFor cX9_planFor 4 (some (.array .int)) :: TB) as m (SP_X9_planFor as m) := fun as m => ctr_chs (by decide +kernel) hst (by omega) (snd_X9_planFor (d' := 25) (hd9 := by omega) (hC_X9_bestFrom := C_X9_bestFrom hst 5 _ (by omega)) (hC_X9_quarrelsOf := C_X9_quarrelsOf hst (by omega)))
def rNoCo (c : ab_C) (h g : Int32) : Bool := decide (g < 1) || (! decide (g < 1 <<< (nN (np c) &&& 31)) || (decide (4 < bc g) || inS g h))
noncomputable def SP_X9_isNoCompany : List ab_V → ab_M → ab_O := fun as m => match as with
  | [this, .inl h, .inl g] => gd (this = vA 62 0 ∧ (RM m)) ((okV (vI (bI (rNoCo (rc m) h g))) m))
  | _ => none
theorem e_X9_isNoCompany {m : ab_M} {h : Int32} {g : Int32} (h1 : RM m) : SP_X9_isNoCompany [vA 62 0, vI h, vI g] m = (okV (vI (bI (rNoCo (rc m) h g))) m) := gd_pos ⟨rfl, h1⟩
theorem q_X9_isNoCompany {m : ab_M} {h : Int32} {g : Int32} (h1 : RM m) : ∀ r : ab_R, (okV (vI (bI (rNoCo (rc m) h g))) m) = some r → (mnc m ≤ mnc (resM r) ∧ mns m ≤ mns (resM r)) ∧ ∀ K : ab_K, Closed (T_X9_isNoCompany SP_Jx4a65c_size_8abf5 SP_J6_bitCount_0f7a4 SP_X9_has) (fun r' => r' = r) K → run K (fun r' => r' = r) (T_X9_isNoCompany SP_Jx4a65c_size_8abf5 SP_J6_bitCount_0f7a4 SP_X9_has) 0 [some (vA 62 0), some (vI h), some (vI g)] [] m := by
  intro r hr; cases hr
  refine ⟨⟨Nat.le_refl _, Nat.le_refl _⟩, fun K hK => ?_⟩
  have a1 := h1.1.1
  have sz := e_Jx4a65c_size_8abf5 (m := m) (o := (44, 0)) rfl
  rw [show mi m (44, 0).1 (44, 0).2 2 = nN (np (rc m)) from h1.2.1.1.2.1] at sz
  unfold rNoCo at hK ⊢
  by_cases z1 : g < 1
  · rw [decide_eq_true z1] at hK ⊢
    simp only [T_X9_isNoCompany, z1, i10, Bool.false_eq_true, Bool.true_eq_false, Bool.not_true, Bool.not_false, ↓run_hit, ↓run_miss, ↓run_none, run_nil, ab_get0, ab_getS, if_true, if_false, if_pos, true_and, and_true, List.append_nil, List.nil_append, List.cons_append, List.length_cons, List.length_nil, List.take_succ_cons, List.take_zero, List.drop_succ_cons, List.drop_zero, List.reverse_cons, List.reverse_nil, List.map_nil, List.map_cons, List.sum_nil, List.sum_cons, rcv_some, rcv_999, wide_I, wide_L, wide_D, wide_R, wide_X, eq_self_iff_true, ite_true, ite_false, ↓reduceIte, Nat.reduceEqDiff, Nat.reduceLeDiff, Nat.reduceLT, Nat.reduceAdd, Nat.reduceMul, Nat.reduceBEq, decide_true, decide_false, and_self, or_self, or_true, true_or, false_or, or_false, and_false, false_and, not_false_eq_true, not_true_eq_false, Nat.zero_le, Nat.le_refl, Nat.add_eq_zero_iff, Nat.succ_ne_self, ↓s_const, ↓s_iload, ↓s_lload, ↓s_dload, ↓s_aload, ↓s_istore, ↓s_lstore, ↓s_dstore, ↓s_astore, ↓s_iinc, ↓s_bin, ↓s_div, ↓s_binL, ↓s_lcmp, ↓s_i2l, ↓s_i2d, ↓s_ddiv, ↓s_dcmpl, ↓s_goto, ↓s_ifeq, ↓s_iflt, ↓s_ifgt, ↓s_cmpeq, ↓s_cmplt, ↓s_cmpgt, ↓s_ifnull, ↓s_aeq, ↓s_pop, ↓s_dup, ↓s_dup2, ↓s_dupx1, ↓s_tab, ↓s_getI, ↓s_getR, ↓s_putI, ↓s_putZ, ↓s_putR, ↓s_ald, ↓s_ast, ↓s_zast, ↓s_lald, ↓s_last, ↓s_dald, ↓s_dast, ↓s_aald, ↓s_aast, ↓s_alen, ↓s_new, ↓s_newa, ↓s_multi, ↓s_cast, ↓s_getE, ↓s_obj, ↓s_mmin, ↓s_mmax, ↓s_hd, ↓s_call, ↓s_throw, ↓s_ret, ↓s_retL, ↓s_retD, ↓s_retA, ↓s_retV, mi_wI, mr_wI, mn_wI, mc_wI, sI_wI, u3_ap, mi_sI, mi_sR, mi_sL, mi_sD, mi_al, mi_bp, mr_sI, mr_sR, mr_sL, mr_sD, mr_al, mr_bp, ml_sI, ml_sR, ml_sL, ml_sD, ml_al, ml_bp, md_sI, md_sR, md_sL, md_sD, md_al, md_bp, mn_sI, mn_sR, mn_sL, mn_sD, mn_al, mn_bp, mc_sI, mc_sR, mc_sL, mc_sD, mc_al, mc_bp, mnc_sI, mnc_sR, mnc_sL, mnc_sD, mnc_al, mnc_bp, mns_sI, mns_sR, mns_sL, mns_sD, mns_al, mns_bp, SK_0, SK_1, SK_2, SK_3, SK_4, SK_5, SK_6, SK_7, SK_8, SK_9, SK_10, SK_11, SK_12, SK_13, SK_14, SK_15, SK_16, SK_17, SK_18, SK_19, SK_20, SK_21, SK_22, SK_23, SK_24, SK_25, SK_26, SK_27, SK_28, SK_29, SK_30, SK_31, SK_32, SK_33, SK_34, SK_35, SK_36, SK_37, SK_38, SK_39, SK_40, SK_41, SK_42, SK_43, SK_44, SK_45, SK_46, SK_47, SK_48, SK_49, SK_50, SK_51, SK_52, SK_53, SK_54, SK_55, SK_56, SK_57, SK_58, SK_59, SK_60, SK_61, SK_62, SK_63, SK_64, SK_65, st1_0, st1_1, st1_2, st1_3, st1_4, st1_5, st1_6, st1_7, st1_8, st2_0, st2_1, st2_2, st2_3, st2_4, st2_5, st2_6, st2_7, clr_I, clr_R, clr_X, clr_L, clr_D, clr_N]
    rfl
  · rw [decide_eq_false z1] at hK ⊢
    by_cases z2 : g < 1 <<< (nN (np (rc m)) &&& 31)
    · rw [decide_eq_true z2] at hK ⊢
      by_cases z3 : 4 < bc g
      · rw [decide_eq_true z3] at hK ⊢
        simp only [T_X9_isNoCompany, z1, a1, sz, z2, z3, e_J6_bitCount_0f7a4 trivial, i10, Bool.false_eq_true, Bool.true_eq_false, Bool.not_true, Bool.not_false, ↓run_hit, ↓run_miss, ↓run_none, run_nil, ab_get0, ab_getS, if_true, if_false, if_pos, true_and, and_true, List.append_nil, List.nil_append, List.cons_append, List.length_cons, List.length_nil, List.take_succ_cons, List.take_zero, List.drop_succ_cons, List.drop_zero, List.reverse_cons, List.reverse_nil, List.map_nil, List.map_cons, List.sum_nil, List.sum_cons, rcv_some, rcv_999, wide_I, wide_L, wide_D, wide_R, wide_X, eq_self_iff_true, ite_true, ite_false, ↓reduceIte, Nat.reduceEqDiff, Nat.reduceLeDiff, Nat.reduceLT, Nat.reduceAdd, Nat.reduceMul, Nat.reduceBEq, decide_true, decide_false, and_self, or_self, or_true, true_or, false_or, or_false, and_false, false_and, not_false_eq_true, not_true_eq_false, Nat.zero_le, Nat.le_refl, Nat.add_eq_zero_iff, Nat.succ_ne_self, ↓s_const, ↓s_iload, ↓s_lload, ↓s_dload, ↓s_aload, ↓s_istore, ↓s_lstore, ↓s_dstore, ↓s_astore, ↓s_iinc, ↓s_bin, ↓s_div, ↓s_binL, ↓s_lcmp, ↓s_i2l, ↓s_i2d, ↓s_ddiv, ↓s_dcmpl, ↓s_goto, ↓s_ifeq, ↓s_iflt, ↓s_ifgt, ↓s_cmpeq, ↓s_cmplt, ↓s_cmpgt, ↓s_ifnull, ↓s_aeq, ↓s_pop, ↓s_dup, ↓s_dup2, ↓s_dupx1, ↓s_tab, ↓s_getI, ↓s_getR, ↓s_putI, ↓s_putZ, ↓s_putR, ↓s_ald, ↓s_ast, ↓s_zast, ↓s_lald, ↓s_last, ↓s_dald, ↓s_dast, ↓s_aald, ↓s_aast, ↓s_alen, ↓s_new, ↓s_newa, ↓s_multi, ↓s_cast, ↓s_getE, ↓s_obj, ↓s_mmin, ↓s_mmax, ↓s_hd, ↓s_call, ↓s_throw, ↓s_ret, ↓s_retL, ↓s_retD, ↓s_retA, ↓s_retV, mi_wI, mr_wI, mn_wI, mc_wI, sI_wI, u3_ap, mi_sI, mi_sR, mi_sL, mi_sD, mi_al, mi_bp, mr_sI, mr_sR, mr_sL, mr_sD, mr_al, mr_bp, ml_sI, ml_sR, ml_sL, ml_sD, ml_al, ml_bp, md_sI, md_sR, md_sL, md_sD, md_al, md_bp, mn_sI, mn_sR, mn_sL, mn_sD, mn_al, mn_bp, mc_sI, mc_sR, mc_sL, mc_sD, mc_al, mc_bp, mnc_sI, mnc_sR, mnc_sL, mnc_sD, mnc_al, mnc_bp, mns_sI, mns_sR, mns_sL, mns_sD, mns_al, mns_bp, SK_0, SK_1, SK_2, SK_3, SK_4, SK_5, SK_6, SK_7, SK_8, SK_9, SK_10, SK_11, SK_12, SK_13, SK_14, SK_15, SK_16, SK_17, SK_18, SK_19, SK_20, SK_21, SK_22, SK_23, SK_24, SK_25, SK_26, SK_27, SK_28, SK_29, SK_30, SK_31, SK_32, SK_33, SK_34, SK_35, SK_36, SK_37, SK_38, SK_39, SK_40, SK_41, SK_42, SK_43, SK_44, SK_45, SK_46, SK_47, SK_48, SK_49, SK_50, SK_51, SK_52, SK_53, SK_54, SK_55, SK_56, SK_57, SK_58, SK_59, SK_60, SK_61, SK_62, SK_63, SK_64, SK_65, st1_0, st1_1, st1_2, st1_3, st1_4, st1_5, st1_6, st1_7, st1_8, st2_0, st2_1, st2_2, st2_3, st2_4, st2_5, st2_6, st2_7, clr_I, clr_R, clr_X, clr_L, clr_D, clr_N]
        rfl
      · rw [decide_eq_false z3] at hK ⊢
        cases z4 : inS g h with
        | false =>
          rw [z4] at hK
          simp only [T_X9_isNoCompany, z1, a1, sz, z2, z3, z4, e_J6_bitCount_0f7a4 trivial, e_X9_has trivial, bI0, i10, Bool.false_eq_true, Bool.true_eq_false, Bool.not_true, Bool.not_false, ↓run_hit, ↓run_miss, ↓run_none, run_nil, ab_get0, ab_getS, if_true, if_false, if_pos, true_and, and_true, List.append_nil, List.nil_append, List.cons_append, List.length_cons, List.length_nil, List.take_succ_cons, List.take_zero, List.drop_succ_cons, List.drop_zero, List.reverse_cons, List.reverse_nil, List.map_nil, List.map_cons, List.sum_nil, List.sum_cons, rcv_some, rcv_999, wide_I, wide_L, wide_D, wide_R, wide_X, eq_self_iff_true, ite_true, ite_false, ↓reduceIte, Nat.reduceEqDiff, Nat.reduceLeDiff, Nat.reduceLT, Nat.reduceAdd, Nat.reduceMul, Nat.reduceBEq, decide_true, decide_false, and_self, or_self, or_true, true_or, false_or, or_false, and_false, false_and, not_false_eq_true, not_true_eq_false, Nat.zero_le, Nat.le_refl, Nat.add_eq_zero_iff, Nat.succ_ne_self, ↓s_const, ↓s_iload, ↓s_lload, ↓s_dload, ↓s_aload, ↓s_istore, ↓s_lstore, ↓s_dstore, ↓s_astore, ↓s_iinc, ↓s_bin, ↓s_div, ↓s_binL, ↓s_lcmp, ↓s_i2l, ↓s_i2d, ↓s_ddiv, ↓s_dcmpl, ↓s_goto, ↓s_ifeq, ↓s_iflt, ↓s_ifgt, ↓s_cmpeq, ↓s_cmplt, ↓s_cmpgt, ↓s_ifnull, ↓s_aeq, ↓s_pop, ↓s_dup, ↓s_dup2, ↓s_dupx1, ↓s_tab, ↓s_getI, ↓s_getR, ↓s_putI, ↓s_putZ, ↓s_putR, ↓s_ald, ↓s_ast, ↓s_zast, ↓s_lald, ↓s_last, ↓s_dald, ↓s_dast, ↓s_aald, ↓s_aast, ↓s_alen, ↓s_new, ↓s_newa, ↓s_multi, ↓s_cast, ↓s_getE, ↓s_obj, ↓s_mmin, ↓s_mmax, ↓s_hd, ↓s_call, ↓s_throw, ↓s_ret, ↓s_retL, ↓s_retD, ↓s_retA, ↓s_retV, mi_wI, mr_wI, mn_wI, mc_wI, sI_wI, u3_ap, mi_sI, mi_sR, mi_sL, mi_sD, mi_al, mi_bp, mr_sI, mr_sR, mr_sL, mr_sD, mr_al, mr_bp, ml_sI, ml_sR, ml_sL, ml_sD, ml_al, ml_bp, md_sI, md_sR, md_sL, md_sD, md_al, md_bp, mn_sI, mn_sR, mn_sL, mn_sD, mn_al, mn_bp, mc_sI, mc_sR, mc_sL, mc_sD, mc_al, mc_bp, mnc_sI, mnc_sR, mnc_sL, mnc_sD, mnc_al, mnc_bp, mns_sI, mns_sR, mns_sL, mns_sD, mns_al, mns_bp, SK_0, SK_1, SK_2, SK_3, SK_4, SK_5, SK_6, SK_7, SK_8, SK_9, SK_10, SK_11, SK_12, SK_13, SK_14, SK_15, SK_16, SK_17, SK_18, SK_19, SK_20, SK_21, SK_22, SK_23, SK_24, SK_25, SK_26, SK_27, SK_28, SK_29, SK_30, SK_31, SK_32, SK_33, SK_34, SK_35, SK_36, SK_37, SK_38, SK_39, SK_40, SK_41, SK_42, SK_43, SK_44, SK_45, SK_46, SK_47, SK_48, SK_49, SK_50, SK_51, SK_52, SK_53, SK_54, SK_55, SK_56, SK_57, SK_58, SK_59, SK_60, SK_61, SK_62, SK_63, SK_64, SK_65, st1_0, st1_1, st1_2, st1_3, st1_4, st1_5, st1_6, st1_7, st1_8, st2_0, st2_1, st2_2, st2_3, st2_4, st2_5, st2_6, st2_7, clr_I, clr_R, clr_X, clr_L, clr_D, clr_N]
          rfl
        | true =>
          rw [z4] at hK
          simp only [T_X9_isNoCompany, z1, a1, sz, z2, z3, z4, e_J6_bitCount_0f7a4 trivial, e_X9_has trivial, bI0, i10, Bool.false_eq_true, Bool.true_eq_false, Bool.not_true, Bool.not_false, ↓run_hit, ↓run_miss, ↓run_none, run_nil, ab_get0, ab_getS, if_true, if_false, if_pos, true_and, and_true, List.append_nil, List.nil_append, List.cons_append, List.length_cons, List.length_nil, List.take_succ_cons, List.take_zero, List.drop_succ_cons, List.drop_zero, List.reverse_cons, List.reverse_nil, List.map_nil, List.map_cons, List.sum_nil, List.sum_cons, rcv_some, rcv_999, wide_I, wide_L, wide_D, wide_R, wide_X, eq_self_iff_true, ite_true, ite_false, ↓reduceIte, Nat.reduceEqDiff, Nat.reduceLeDiff, Nat.reduceLT, Nat.reduceAdd, Nat.reduceMul, Nat.reduceBEq, decide_true, decide_false, and_self, or_self, or_true, true_or, false_or, or_false, and_false, false_and, not_false_eq_true, not_true_eq_false, Nat.zero_le, Nat.le_refl, Nat.add_eq_zero_iff, Nat.succ_ne_self, ↓s_const, ↓s_iload, ↓s_lload, ↓s_dload, ↓s_aload, ↓s_istore, ↓s_lstore, ↓s_dstore, ↓s_astore, ↓s_iinc, ↓s_bin, ↓s_div, ↓s_binL, ↓s_lcmp, ↓s_i2l, ↓s_i2d, ↓s_ddiv, ↓s_dcmpl, ↓s_goto, ↓s_ifeq, ↓s_iflt, ↓s_ifgt, ↓s_cmpeq, ↓s_cmplt, ↓s_cmpgt, ↓s_ifnull, ↓s_aeq, ↓s_pop, ↓s_dup, ↓s_dup2, ↓s_dupx1, ↓s_tab, ↓s_getI, ↓s_getR, ↓s_putI, ↓s_putZ, ↓s_putR, ↓s_ald, ↓s_ast, ↓s_zast, ↓s_lald, ↓s_last, ↓s_dald, ↓s_dast, ↓s_aald, ↓s_aast, ↓s_alen, ↓s_new, ↓s_newa, ↓s_multi, ↓s_cast, ↓s_getE, ↓s_obj, ↓s_mmin, ↓s_mmax, ↓s_hd, ↓s_call, ↓s_throw, ↓s_ret, ↓s_retL, ↓s_retD, ↓s_retA, ↓s_retV, mi_wI, mr_wI, mn_wI, mc_wI, sI_wI, u3_ap, mi_sI, mi_sR, mi_sL, mi_sD, mi_al, mi_bp, mr_sI, mr_sR, mr_sL, mr_sD, mr_al, mr_bp, ml_sI, ml_sR, ml_sL, ml_sD, ml_al, ml_bp, md_sI, md_sR, md_sL, md_sD, md_al, md_bp, mn_sI, mn_sR, mn_sL, mn_sD, mn_al, mn_bp, mc_sI, mc_sR, mc_sL, mc_sD, mc_al, mc_bp, mnc_sI, mnc_sR, mnc_sL, mnc_sD, mnc_al, mnc_bp, mns_sI, mns_sR, mns_sL, mns_sD, mns_al, mns_bp, SK_0, SK_1, SK_2, SK_3, SK_4, SK_5, SK_6, SK_7, SK_8, SK_9, SK_10, SK_11, SK_12, SK_13, SK_14, SK_15, SK_16, SK_17, SK_18, SK_19, SK_20, SK_21, SK_22, SK_23, SK_24, SK_25, SK_26, SK_27, SK_28, SK_29, SK_30, SK_31, SK_32, SK_33, SK_34, SK_35, SK_36, SK_37, SK_38, SK_39, SK_40, SK_41, SK_42, SK_43, SK_44, SK_45, SK_46, SK_47, SK_48, SK_49, SK_50, SK_51, SK_52, SK_53, SK_54, SK_55, SK_56, SK_57, SK_58, SK_59, SK_60, SK_61, SK_62, SK_63, SK_64, SK_65, st1_0, st1_1, st1_2, st1_3, st1_4, st1_5, st1_6, st1_7, st1_8, st2_0, st2_1, st2_2, st2_3, st2_4, st2_5, st2_6, st2_7, clr_I, clr_R, clr_X, clr_L, clr_D, clr_N]
          rfl
    · rw [decide_eq_false z2] at hK ⊢
      simp only [T_X9_isNoCompany, z1, a1, sz, z2, i10, Bool.false_eq_true, Bool.true_eq_false, Bool.not_true, Bool.not_false, ↓run_hit, ↓run_miss, ↓run_none, run_nil, ab_get0, ab_getS, if_true, if_false, if_pos, true_and, and_true, List.append_nil, List.nil_append, List.cons_append, List.length_cons, List.length_nil, List.take_succ_cons, List.take_zero, List.drop_succ_cons, List.drop_zero, List.reverse_cons, List.reverse_nil, List.map_nil, List.map_cons, List.sum_nil, List.sum_cons, rcv_some, rcv_999, wide_I, wide_L, wide_D, wide_R, wide_X, eq_self_iff_true, ite_true, ite_false, ↓reduceIte, Nat.reduceEqDiff, Nat.reduceLeDiff, Nat.reduceLT, Nat.reduceAdd, Nat.reduceMul, Nat.reduceBEq, decide_true, decide_false, and_self, or_self, or_true, true_or, false_or, or_false, and_false, false_and, not_false_eq_true, not_true_eq_false, Nat.zero_le, Nat.le_refl, Nat.add_eq_zero_iff, Nat.succ_ne_self, ↓s_const, ↓s_iload, ↓s_lload, ↓s_dload, ↓s_aload, ↓s_istore, ↓s_lstore, ↓s_dstore, ↓s_astore, ↓s_iinc, ↓s_bin, ↓s_div, ↓s_binL, ↓s_lcmp, ↓s_i2l, ↓s_i2d, ↓s_ddiv, ↓s_dcmpl, ↓s_goto, ↓s_ifeq, ↓s_iflt, ↓s_ifgt, ↓s_cmpeq, ↓s_cmplt, ↓s_cmpgt, ↓s_ifnull, ↓s_aeq, ↓s_pop, ↓s_dup, ↓s_dup2, ↓s_dupx1, ↓s_tab, ↓s_getI, ↓s_getR, ↓s_putI, ↓s_putZ, ↓s_putR, ↓s_ald, ↓s_ast, ↓s_zast, ↓s_lald, ↓s_last, ↓s_dald, ↓s_dast, ↓s_aald, ↓s_aast, ↓s_alen, ↓s_new, ↓s_newa, ↓s_multi, ↓s_cast, ↓s_getE, ↓s_obj, ↓s_mmin, ↓s_mmax, ↓s_hd, ↓s_call, ↓s_throw, ↓s_ret, ↓s_retL, ↓s_retD, ↓s_retA, ↓s_retV, mi_wI, mr_wI, mn_wI, mc_wI, sI_wI, u3_ap, mi_sI, mi_sR, mi_sL, mi_sD, mi_al, mi_bp, mr_sI, mr_sR, mr_sL, mr_sD, mr_al, mr_bp, ml_sI, ml_sR, ml_sL, ml_sD, ml_al, ml_bp, md_sI, md_sR, md_sL, md_sD, md_al, md_bp, mn_sI, mn_sR, mn_sL, mn_sD, mn_al, mn_bp, mc_sI, mc_sR, mc_sL, mc_sD, mc_al, mc_bp, mnc_sI, mnc_sR, mnc_sL, mnc_sD, mnc_al, mnc_bp, mns_sI, mns_sR, mns_sL, mns_sD, mns_al, mns_bp, SK_0, SK_1, SK_2, SK_3, SK_4, SK_5, SK_6, SK_7, SK_8, SK_9, SK_10, SK_11, SK_12, SK_13, SK_14, SK_15, SK_16, SK_17, SK_18, SK_19, SK_20, SK_21, SK_22, SK_23, SK_24, SK_25, SK_26, SK_27, SK_28, SK_29, SK_30, SK_31, SK_32, SK_33, SK_34, SK_35, SK_36, SK_37, SK_38, SK_39, SK_40, SK_41, SK_42, SK_43, SK_44, SK_45, SK_46, SK_47, SK_48, SK_49, SK_50, SK_51, SK_52, SK_53, SK_54, SK_55, SK_56, SK_57, SK_58, SK_59, SK_60, SK_61, SK_62, SK_63, SK_64, SK_65, st1_0, st1_1, st1_2, st1_3, st1_4, st1_5, st1_6, st1_7, st1_8, st2_0, st2_1, st2_2, st2_3, st2_4, st2_5, st2_6, st2_7, clr_I, clr_R, clr_X, clr_L, clr_D, clr_N]
      rfl
theorem C_X9_isNoCompany {l : Launch} {D : va_G} {cA : Nat → ClassId} {d : Nat} (hst : l.stackTraces = false) (hd : 2 ≤ d) : ∀ (as : List ab_V) (m : ab_M), Ctr l D cA d yX9_isNoCompany (Cond.code yX9_isNoCompany cX9_isNoCompany 3 (some .boolean) :: TB) as m (SP_X9_isNoCompany as m) := by
  intro as m
  refine ctr_of2 (by decide +kernel) hst (by omega) (snd_X9_isNoCompany (d' := 1) (hd9 := by omega) (hC_Jx4a65c_size_8abf5 := C_Jx4a65c_size_8abf5 hst (by omega)) (hC_J6_bitCount_0f7a4 := C_J6_bitCount_0f7a4 hst (by omega)) (hC_X9_has := C_X9_has hst (by omega))) mt_X9_isNoCompany ?_
  intro r hr
  unfold SP_X9_isNoCompany at hr
  split at hr
  · obtain ⟨hp, hr'⟩ := gd_some hr
    obtain ⟨rfl, h1⟩ := hp
    have q := q_X9_isNoCompany h1 r hr'
    exact ⟨by show 3 ≤ 3; decide, q.1, q.2⟩
  · cases hr
