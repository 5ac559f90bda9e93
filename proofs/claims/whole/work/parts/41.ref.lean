/-! the reference's state, read as that of the class -/
/-- the row of the house h -/
def hrow (h : Nat) : Nat × Nat := if h = 0 then (49, 0) else (51, h - 1)
/-- where the reference holds what the class holds at that place -/
def lc (s i k : Nat) : Option (Nat × Nat × Nat) := match s, i with
  | 5, 0 => some (48, k, 0)
  | 6, 0 => some (48, k, 1)
  | 7, 0 => some (48, k, 2)
  | 8, 0 => some (48, k, 3)
  | 13, 0 => some (48, k, 4)
  | 9, 0 => some (48, k, 5)
  | 11, 0 => some (48, k, 6)
  | 10, 0 => some (48, k, 7)
  | 12, 0 => some (48, k, 8)
  | 15, i => some (41, i, k)
  | 17, i => some (42, i, k)
  | 3, 0 => some ((hrow k).1, (hrow k).2, 0)
  | 4, 0 => some ((hrow k).1, (hrow k).2, 1)
  | 22, 0 => some (52, k, 0)
  | 23, 0 => some (52, k, 1)
  | 24, 0 => some (52, k, 2)
  | 25, 0 => some (52, k, 3)
  | 26, 0 => some (53, k, 0)
  | 27, 0 => some (53, k, 1)
  | 28, 0 => some (53, k, 2)
  | 29, 0 => some (53, k, 3)
  | 30, 0 => some (53, k, 4)
  | 32, 0 => some (53, k, 5)
  | 31, 0 => some (53, k, 6)
  | 34, i => some (43, i, k)
  | 35, 0 => match k with
    | 0 => some (44, 0, 2)
    | _ => none
  | 36, 0 => match k with
    | 0 => some (45, 0, 2)
    | _ => none
  | 37, 0 => match k with
    | 0 => some (46, 0, 2)
    | _ => none
  | 38, 0 => match k with
    | 0 => some (47, 0, 2)
    | _ => none
  | 61, 0 => match k with
    | 6 => some (62, 0, 5)
    | 7 => some (62, 0, 7)
    | 8 => some (62, 0, 8)
    | 9 => some (62, 0, 9)
    | 10 => some (62, 0, 6)
    | _ => none
  | _, _ => none
/-- .. and back -/
def lci (a b c : Nat) : Option (Nat × Nat × Nat) := match a with
  | 48 => match c with
    | 0 => some (5, 0, b)
    | 1 => some (6, 0, b)
    | 2 => some (7, 0, b)
    | 3 => some (8, 0, b)
    | 4 => some (13, 0, b)
    | 5 => some (9, 0, b)
    | 6 => some (11, 0, b)
    | 7 => some (10, 0, b)
    | 8 => some (12, 0, b)
    | _ => none
  | 41 => some (15, b, c)
  | 42 => some (17, b, c)
  | 49 => match c with
    | 0 => some (3, 0, 0)
    | 1 => some (4, 0, 0)
    | _ => none
  | 51 => match c with
    | 0 => some (3, 0, b + 1)
    | 1 => some (4, 0, b + 1)
    | _ => none
  | 52 => match c with
    | 0 => some (22, 0, b)
    | 1 => some (23, 0, b)
    | 2 => some (24, 0, b)
    | 3 => some (25, 0, b)
    | _ => none
  | 53 => match c with
    | 0 => some (26, 0, b)
    | 1 => some (27, 0, b)
    | 2 => some (28, 0, b)
    | 3 => some (29, 0, b)
    | 4 => some (30, 0, b)
    | 5 => some (32, 0, b)
    | 6 => some (31, 0, b)
    | _ => none
  | 43 => some (34, b, c)
  | 44 => match c with
    | 2 => some (35, 0, 0)
    | _ => none
  | 45 => match c with
    | 2 => some (36, 0, 0)
    | _ => none
  | 46 => match c with
    | 2 => some (37, 0, 0)
    | _ => none
  | 47 => match c with
    | 2 => some (38, 0, 0)
    | _ => none
  | 62 => match c with
    | 5 => some (61, 0, 6)
    | 6 => some (61, 0, 10)
    | 7 => some (61, 0, 7)
    | 8 => some (61, 0, 8)
    | 9 => some (61, 0, 9)
    | _ => none
  | _ => none
theorem lc_lci {s i k : Nat} {x : Nat × Nat × Nat} (h : lc s i k = some x) : lci x.1 x.2.1 x.2.2 = some (s, i, k) := by
  unfold lc at h
  split at h
  all_goals first
    | (cases h; rfl)
    | (cases h; cases k <;> rfl)
    | (split at h <;> cases h <;> rfl)
    | cases h
theorem hrow_c (k : Nat) : (hrow k).1 = 49 ∨ (hrow k).1 = 51 := by
  unfold hrow; split
  · exact Or.inl rfl
  · exact Or.inr rfl
/-- what the reference holds, laid out as the class holds it -/
def rc (m : ab_M) : ab_C := fun s i k => match lc s i k with
  | some x => mi m x.1 x.2.1 x.2.2
  | none => 0
/-- a change of a cell that the class has, too -/
theorem rc_sI {m : ab_M} {a b c s i k : Nat} {v : Int32} (h : lc s i k = some (a, b, c)) : rc (sI m a b c v) = u3 (rc m) s i k v := by
  funext s' i' k'
  rw [u3_ap]
  unfold rc
  rw [mi_sI]
  by_cases e : s' = s ∧ i' = i ∧ k' = k
  · obtain ⟨rfl, rfl, rfl⟩ := e
    rw [if_pos ⟨rfl, rfl, rfl⟩, h]
    exact if_pos ⟨rfl, rfl, rfl⟩
  · rw [if_neg e]
    cases h9 : lc s' i' k' with
    | none => rfl
    | some x =>
      refine if_neg (fun z => e ?_)
      obtain ⟨z1, z2, z3⟩ := z
      have g1 := lc_lci h9
      have g2 := lc_lci h
      rw [z1, z2, z3] at g1
      have g3 := Option.some.inj (g1.symm.trans g2)
      exact ⟨congrArg Prod.fst g3, congrArg (fun q => q.2.1) g3, congrArg (fun q => q.2.2) g3⟩
/-- .. that it has not -/
theorem rc_sN {m : ab_M} {a b c : Nat} {v : Int32} (h : lci a b c = none) : rc (sI m a b c v) = rc m := by
  funext s' i' k'
  unfold rc
  rw [mi_sI]
  cases h9 : lc s' i' k' with
  | none => rfl
  | some x =>
    refine if_neg (fun z => ?_)
    obtain ⟨z1, z2, z3⟩ := z
    have g1 := lc_lci h9
    rw [z1, z2, z3, h] at g1
    cases g1
theorem rc_sR {m : ab_M} {a b c : Nat} {v : Option (Nat × Nat)} : rc (sR m a b c v) = rc m := rfl
theorem rc_bp {m : ab_M} {a b : Nat} : rc (bp m a b) = rc m := rfl
/-- sites of cells that nobody keeps -/
def gbS (s : Nat) : Bool := s == 50 || (s == 54 || (s == 55 || (s == 56 || (s == 57 || (s == 58 || s == 60)))))
theorem lc_gb {s i k : Nat} {x : Nat × Nat × Nat} (h : lc s i k = some x) : gbS x.1 = false ∧ (x.1 = 41 ∨ x.1 = 42 ∨ x.1 = 43 ∨ x.1 = 44 ∨ x.1 = 45 ∨ x.1 = 46 ∨ x.1 = 47 ∨ x.1 = 48 ∨ x.1 = 49 ∨ x.1 = 51 ∨ x.1 = 52 ∨ x.1 = 53 ∨ x.1 = 62) := by
  unfold lc at h
  split at h
  all_goals first
    | (cases h; exact ⟨rfl, by simp⟩)
    | (cases h; rcases hrow_c k with e | e <;> simp [e, gbS])
    | (split at h <;> cases h <;> exact ⟨rfl, by simp⟩)
    | cases h
theorem rc_al {m : ab_M} {s L w : Nat} (h : ¬ (s = 41 ∨ s = 42 ∨ s = 43 ∨ s = 44 ∨ s = 45 ∨ s = 46 ∨ s = 47 ∨ s = 48 ∨ s = 49 ∨ s = 51 ∨ s = 52 ∨ s = 53 ∨ s = 62)) : rc (al m s L w) = rc m := by
  funext s' i' k'
  unfold rc
  rw [mi_al]
  cases h9 : lc s' i' k' with
  | none => rfl
  | some x =>
    show u2 (mi m) s (mc m s) (fun _ => 0) x.1 x.2.1 x.2.2 = _
    unfold u2
    rw [if_neg]
    rintro ⟨z, -⟩
    exact h (z ▸ (lc_gb h9).2)
/-- the list (s, 0) has n entries f 0 … -/
def Rls (m : ab_M) (s n : Nat) (f : Nat → Nat × Nat) : Prop := isL m (s, 0) ∧ mi m s 0 2 = nN n ∧ n ≤ mn m (ela m (s, 0)).1 (ela m (s, 0)).2 ∧ mn m (ela m (s, 0)).1 (ela m (s, 0)).2 ≤ 1000 ∧ ∀ i, i < n → mr m (ela m (s, 0)).1 (ela m (s, 0)).2 i = some (f i)
/-- the reference's cells lie well -/
def RM (m : ab_M) : Prop := RR m ∧ (Rls m 44 (np (rc m)) (fun i => (48, i)) ∧ np (rc m) ≤ 12) ∧ (Rls m 45 (nh (rc m)) hrow ∧ nh (rc m) ≤ 4) ∧ (Rls m 46 (nsc (rc m)) (fun i => (52, i)) ∧ nsc (rc m) ≤ 8) ∧ (Rls m 47 (nu (rc m)) (fun i => (53, i)) ∧ nu (rc m) ≤ 12) ∧
  (∀ i, i < 12 → mr m 48 i 9 = some (41, i) ∧ mr m 48 i 10 = some (42, i) ∧ mn m 41 i = 10 ∧ mn m 42 i = 10 ∧ mr m 53 i 7 = some (43, i) ∧ mn m 43 i = 12) ∧ (∀ i, i < 8 → mn m 52 i = 4) ∧ ∀ i, i < 4 → mn m (hrow i).1 (hrow i).2 = 2
theorem get_Rl {m : ab_M} {s n : Nat} {f : Nat → Nat × Nat} (h : Rls m s n f) (hn : n ≤ 12) {p : Int32} (hp : inb p n) : SP_Jx4a65c_get_915e3 [vA s 0, vI p] m = okV (vR (some (f p.toNatClampNeg))) m := by
  obtain ⟨h1, h2, h3, h4, h5⟩ := h
  obtain ⟨e, hl⟩ := inb_eq hp
  have hB : p.toNatClampNeg < 2147483648 := by omega
  have := e_Jx4a65c_get_915e3 (m := m) (o := (s, 0)) (i := p) h1 (by rw [e, inb_nN hB]; omega) (by rw [e]; exact nN_neg hB) (by
    show p < mi m s 0 2
    rw [h2, e, nN_lt hB (by omega)]; exact hl)
  rw [h5 _ hl] at this
  exact this
theorem get_P {m : ab_M} (h : RM m) {p : Int32} (hp : inb p (np (rc m))) : SP_Jx4a65c_get_915e3 [vA 44 0, vI p] m = okV (vA 48 p.toNatClampNeg) m := get_Rl h.2.1.1 h.2.1.2 hp
theorem get_H {m : ab_M} (h : RM m) {p : Int32} (hp : inb p (nh (rc m))) : SP_Jx4a65c_get_915e3 [vA 45 0, vI p] m = okV (vR (some (hrow p.toNatClampNeg))) m := get_Rl h.2.2.1.1 (by have := h.2.2.1.2; omega) hp
theorem get_S {m : ab_M} (h : RM m) {p : Int32} (hp : inb p (nsc (rc m))) : SP_Jx4a65c_get_915e3 [vA 46 0, vI p] m = okV (vA 52 p.toNatClampNeg) m := get_Rl h.2.2.2.1.1 (by have := h.2.2.2.1.2; omega) hp
theorem get_U {m : ab_M} (h : RM m) {p : Int32} (hp : inb p (nu (rc m))) : SP_Jx4a65c_get_915e3 [vA 47 0, vI p] m = okV (vA 53 p.toNatClampNeg) m := get_Rl h.2.2.2.2.1.1 h.2.2.2.2.1.2 hp
theorem hrow_SK (h : Nat) : SK (hrow h).1 = 100 ∧ 2 ≤ (hrow h).1 := by unfold hrow; split <;> exact ⟨rfl, Nat.le_of_ble_eq_true rfl⟩
theorem hrow_2 (h : Nat) : 2 ≤ (hrow h).1 := by
  unfold hrow
  split
  · show 2 ≤ 49; decide
  · show 2 ≤ 51; decide
noncomputable def SP_X9_isDead : List ab_V → ab_M → ab_O := fun as m => match as with
  | [this, .inl p] => gd (this = vA 62 0 ∧ (RM m) ∧ (inb p (np (rc m)))) ((okV (vI (bI (decide (rc m 13 0 p.toNatClampNeg = 0)))) m))
  | _ => none
theorem e_X9_isDead {m : ab_M} {p : Int32} (h1 : RM m) (h2 : inb p (np (rc m))) : SP_X9_isDead [vA 62 0, vI p] m = (okV (vI (bI (decide (rc m 13 0 p.toNatClampNeg = 0)))) m) := gd_pos ⟨rfl, h1, h2⟩
theorem q_X9_isDead {m : ab_M} {p : Int32} (h1 : RM m) (h2 : inb p (np (rc m))) : ∀ r : ab_R, (okV (vI (bI (decide (rc m 13 0 p.toNatClampNeg = 0)))) m) = some r → (mnc m ≤ mnc (resM r) ∧ mns m ≤ mns (resM r)) ∧ ∀ K : ab_K, Closed (T_X9_isDead SP_Jx4a65c_get_915e3) (fun r' => r' = r) K → run K (fun r' => r' = r) (T_X9_isDead SP_Jx4a65c_get_915e3) 0 [some (vA 62 0), some (vI p)] [] m := by
  intro r hr; cases hr
  refine ⟨⟨Nat.le_refl _, Nat.le_refl _⟩, fun K hK => ?_⟩
  have e1 := get_P h1 h2
  have a1 := h1.1.1
  have g1 : mi m 48 p.toNatClampNeg 4 = rc m 13 0 p.toNatClampNeg := rfl
  simp only [T_X9_isDead, a1, e1, g1, i10, Bool.false_eq_true, Bool.true_eq_false, Bool.not_true, Bool.not_false, ↓run_hit, ↓run_miss, ↓run_none, run_nil, ab_get0, ab_getS, if_true, if_false, if_pos, true_and, and_true, List.append_nil, List.nil_append, List.cons_append, List.length_cons, List.length_nil, List.take_succ_cons, List.take_zero, List.drop_succ_cons, List.drop_zero, List.reverse_cons, List.reverse_nil, List.map_nil, List.map_cons, List.sum_nil, List.sum_cons, rcv_some, rcv_999, wide_I, wide_L, wide_D, wide_R, wide_X, eq_self_iff_true, ite_true, ite_false, ↓reduceIte, Nat.reduceEqDiff, Nat.reduceLeDiff, Nat.reduceLT, Nat.reduceAdd, Nat.reduceMul, Nat.reduceBEq, decide_true, decide_false, and_self, or_self, or_true, true_or, false_or, or_false, and_false, false_and, not_false_eq_true, not_true_eq_false, Nat.zero_le, Nat.le_refl, Nat.add_eq_zero_iff, Nat.succ_ne_self, ↓s_const, ↓s_iload, ↓s_lload, ↓s_dload, ↓s_aload, ↓s_istore, ↓s_lstore, ↓s_dstore, ↓s_astore, ↓s_iinc, ↓s_bin, ↓s_div, ↓s_binL, ↓s_lcmp, ↓s_i2l, ↓s_i2d, ↓s_ddiv, ↓s_dcmpl, ↓s_goto, ↓s_ifeq, ↓s_iflt, ↓s_ifgt, ↓s_cmpeq, ↓s_cmplt, ↓s_cmpgt, ↓s_ifnull, ↓s_aeq, ↓s_pop, ↓s_dup, ↓s_dup2, ↓s_dupx1, ↓s_tab, ↓s_getI, ↓s_getR, ↓s_putI, ↓s_putZ, ↓s_putR, ↓s_ald, ↓s_ast, ↓s_zast, ↓s_lald, ↓s_last, ↓s_dald, ↓s_dast, ↓s_aald, ↓s_aast, ↓s_alen, ↓s_new, ↓s_newa, ↓s_multi, ↓s_cast, ↓s_getE, ↓s_obj, ↓s_mmin, ↓s_mmax, ↓s_hd, ↓s_call, ↓s_throw, ↓s_ret, ↓s_retL, ↓s_retD, ↓s_retA, ↓s_retV, mi_wI, mr_wI, mn_wI, mc_wI, sI_wI, u3_ap, mi_sI, mi_sR, mi_sL, mi_sD, mi_al, mi_bp, mr_sI, mr_sR, mr_sL, mr_sD, mr_al, mr_bp, ml_sI, ml_sR, ml_sL, ml_sD, ml_al, ml_bp, md_sI, md_sR, md_sL, md_sD, md_al, md_bp, mn_sI, mn_sR, mn_sL, mn_sD, mn_al, mn_bp, mc_sI, mc_sR, mc_sL, mc_sD, mc_al, mc_bp, mnc_sI, mnc_sR, mnc_sL, mnc_sD, mnc_al, mnc_bp, mns_sI, mns_sR, mns_sL, mns_sD, mns_al, mns_bp, SK_0, SK_1, SK_2, SK_3, SK_4, SK_5, SK_6, SK_7, SK_8, SK_9, SK_10, SK_11, SK_12, SK_13, SK_14, SK_15, SK_16, SK_17, SK_18, SK_19, SK_20, SK_21, SK_22, SK_23, SK_24, SK_25, SK_26, SK_27, SK_28, SK_29, SK_30, SK_31, SK_32, SK_33, SK_34, SK_35, SK_36, SK_37, SK_38, SK_39, SK_40, SK_41, SK_42, SK_43, SK_44, SK_45, SK_46, SK_47, SK_48, SK_49, SK_50, SK_51, SK_52, SK_53, SK_54, SK_55, SK_56, SK_57, SK_58, SK_59, SK_60, SK_61, SK_62, SK_63, SK_64, SK_65, st1_0, st1_1, st1_2, st1_3, st1_4, st1_5, st1_6, st1_7, st1_8, st2_0, st2_1, st2_2, st2_3, st2_4, st2_5, st2_6, st2_7, clr_I, clr_R, clr_X, clr_L, clr_D, clr_N]
  repeat' split
  all_goals simp_all only [bI, decide_true, decide_false, if_true, if_false, Bool.false_eq_true]
theorem C_X9_isDead {l : Launch} {D : va_G} {cA : Nat → ClassId} {d : Nat} (hst : l.stackTraces = false) (hd : 4 ≤ d) : ∀ (as : List ab_V) (m : ab_M), Ctr l D cA d yX9_isDead (Cond.code yX9_isDead cX9_isDead 2 (some .boolean) :: TB) as m (SP_X9_isDead as m) := by
  intro as m
  refine ctr_of2 (by decide +kernel) hst (by omega) (snd_X9_isDead (d' := 3) (hd9 := by omega) (hC_Jx4a65c_get_915e3 := C_Jx4a65c_get_915e3 hst (by omega))) mt_X9_isDead ?_
  intro r hr
  unfold SP_X9_isDead at hr
  split at hr
  · obtain ⟨hp, hr'⟩ := gd_some hr
    obtain ⟨rfl, h1, h2⟩ := hp
    have q := q_X9_isDead h1 h2 r hr'
    exact ⟨by show 2 ≤ 2; decide, q.1, q.2⟩
  · cases hr
noncomputable def SP_X9_isHead : List ab_V → ab_M → ab_O := fun as m => match as with
  | [this, .inl p] => gd (this = vA 62 0 ∧ (RM m) ∧ (inb p (np (rc m))) ∧ (inb (rc m 9 0 p.toNatClampNeg) (nh (rc m)))) ((okV (vI (bI (decide (rc m 3 0 (rc m 9 0 p.toNatClampNeg).toNatClampNeg = p)))) m))
  | _ => none
theorem e_X9_isHead {m : ab_M} {p : Int32} (h1 : RM m) (h2 : inb p (np (rc m))) (h3 : inb (rc m 9 0 p.toNatClampNeg) (nh (rc m))) : SP_X9_isHead [vA 62 0, vI p] m = (okV (vI (bI (decide (rc m 3 0 (rc m 9 0 p.toNatClampNeg).toNatClampNeg = p)))) m) := gd_pos ⟨rfl, h1, h2, h3⟩
theorem q_X9_isHead {m : ab_M} {p : Int32} (h1 : RM m) (h2 : inb p (np (rc m))) (h3 : inb (rc m 9 0 p.toNatClampNeg) (nh (rc m))) : ∀ r : ab_R, (okV (vI (bI (decide (rc m 3 0 (rc m 9 0 p.toNatClampNeg).toNatClampNeg = p)))) m) = some r → (mnc m ≤ mnc (resM r) ∧ mns m ≤ mns (resM r)) ∧ ∀ K : ab_K, Closed (T_X9_isHead SP_Jx4a65c_get_915e3) (fun r' => r' = r) K → run K (fun r' => r' = r) (T_X9_isHead SP_Jx4a65c_get_915e3) 0 [some (vA 62 0), some (vI p)] [] m := by
  intro r hr; cases hr
  refine ⟨⟨Nat.le_refl _, Nat.le_refl _⟩, fun K hK => ?_⟩
  have e1 := get_P h1 h2
  have e2 := get_H h1 h3
  have a1 := h1.1.1
  have a2 := h1.1.2.1
  have a3 := hrow_SK (rc m 9 0 p.toNatClampNeg).toNatClampNeg
  have hl : mn m (hrow (rc m 9 0 p.toNatClampNeg).toNatClampNeg).1 (hrow (rc m 9 0 p.toNatClampNeg).toNatClampNeg).2 = 2 := h1.2.2.2.2.2.2.2 _ (by have := (inb_eq h3).2; have := h1.2.2.1.2; omega)
  have e3 : rc m 3 0 (rc m 9 0 p.toNatClampNeg).toNatClampNeg = mi m (hrow (rc m 9 0 p.toNatClampNeg).toNatClampNeg).1 (hrow (rc m 9 0 p.toNatClampNeg).toNatClampNeg).2 0 := rfl
  rw [e3] at hK ⊢
  have e4 : mi m 48 p.toNatClampNeg 5 = rc m 9 0 p.toNatClampNeg := rfl
  generalize rc m 9 0 p.toNatClampNeg = h at *
  simp only [T_X9_isHead, a1, a2, e1, e4, e2, a3, hl, show inb 0 2 from by unfold inb; decide, show (0 : Int32).toNatClampNeg = 0 from rfl, i10, Bool.false_eq_true, Bool.true_eq_false, Bool.not_true, Bool.not_false, ↓run_hit, ↓run_miss, ↓run_none, run_nil, ab_get0, ab_getS, if_true, if_false, if_pos, true_and, and_true, List.append_nil, List.nil_append, List.cons_append, List.length_cons, List.length_nil, List.take_succ_cons, List.take_zero, List.drop_succ_cons, List.drop_zero, List.reverse_cons, List.reverse_nil, List.map_nil, List.map_cons, List.sum_nil, List.sum_cons, rcv_some, rcv_999, wide_I, wide_L, wide_D, wide_R, wide_X, eq_self_iff_true, ite_true, ite_false, ↓reduceIte, Nat.reduceEqDiff, Nat.reduceLeDiff, Nat.reduceLT, Nat.reduceAdd, Nat.reduceMul, Nat.reduceBEq, decide_true, decide_false, and_self, or_self, or_true, true_or, false_or, or_false, and_false, false_and, not_false_eq_true, not_true_eq_false, Nat.zero_le, Nat.le_refl, Nat.add_eq_zero_iff, Nat.succ_ne_self, ↓s_const, ↓s_iload, ↓s_lload, ↓s_dload, ↓s_aload, ↓s_istore, ↓s_lstore, ↓s_dstore, ↓s_astore, ↓s_iinc, ↓s_bin, ↓s_div, ↓s_binL, ↓s_lcmp, ↓s_i2l, ↓s_i2d, ↓s_ddiv, ↓s_dcmpl, ↓s_goto, ↓s_ifeq, ↓s_iflt, ↓s_ifgt, ↓s_cmpeq, ↓s_cmplt, ↓s_cmpgt, ↓s_ifnull, ↓s_aeq, ↓s_pop, ↓s_dup, ↓s_dup2, ↓s_dupx1, ↓s_tab, ↓s_getI, ↓s_getR, ↓s_putI, ↓s_putZ, ↓s_putR, ↓s_ald, ↓s_ast, ↓s_zast, ↓s_lald, ↓s_last, ↓s_dald, ↓s_dast, ↓s_aald, ↓s_aast, ↓s_alen, ↓s_new, ↓s_newa, ↓s_multi, ↓s_cast, ↓s_getE, ↓s_obj, ↓s_mmin, ↓s_mmax, ↓s_hd, ↓s_call, ↓s_throw, ↓s_ret, ↓s_retL, ↓s_retD, ↓s_retA, ↓s_retV, mi_wI, mr_wI, mn_wI, mc_wI, sI_wI, u3_ap, mi_sI, mi_sR, mi_sL, mi_sD, mi_al, mi_bp, mr_sI, mr_sR, mr_sL, mr_sD, mr_al, mr_bp, ml_sI, ml_sR, ml_sL, ml_sD, ml_al, ml_bp, md_sI, md_sR, md_sL, md_sD, md_al, md_bp, mn_sI, mn_sR, mn_sL, mn_sD, mn_al, mn_bp, mc_sI, mc_sR, mc_sL, mc_sD, mc_al, mc_bp, mnc_sI, mnc_sR, mnc_sL, mnc_sD, mnc_al, mnc_bp, mns_sI, mns_sR, mns_sL, mns_sD, mns_al, mns_bp, SK_0, SK_1, SK_2, SK_3, SK_4, SK_5, SK_6, SK_7, SK_8, SK_9, SK_10, SK_11, SK_12, SK_13, SK_14, SK_15, SK_16, SK_17, SK_18, SK_19, SK_20, SK_21, SK_22, SK_23, SK_24, SK_25, SK_26, SK_27, SK_28, SK_29, SK_30, SK_31, SK_32, SK_33, SK_34, SK_35, SK_36, SK_37, SK_38, SK_39, SK_40, SK_41, SK_42, SK_43, SK_44, SK_45, SK_46, SK_47, SK_48, SK_49, SK_50, SK_51, SK_52, SK_53, SK_54, SK_55, SK_56, SK_57, SK_58, SK_59, SK_60, SK_61, SK_62, SK_63, SK_64, SK_65, st1_0, st1_1, st1_2, st1_3, st1_4, st1_5, st1_6, st1_7, st1_8, st2_0, st2_1, st2_2, st2_3, st2_4, st2_5, st2_6, st2_7, clr_I, clr_R, clr_X, clr_L, clr_D, clr_N]
  repeat' split
  all_goals simp_all only [bI, decide_true, decide_false, if_true, if_false, Bool.false_eq_true]
theorem C_X9_isHead {l : Launch} {D : va_G} {cA : Nat → ClassId} {d : Nat} (hst : l.stackTraces = false) (hd : 4 ≤ d) : ∀ (as : List ab_V) (m : ab_M), Ctr l D cA d yX9_isHead (Cond.code yX9_isHead cX9_isHead 2 (some .boolean) :: TB) as m (SP_X9_isHead as m) := by
  intro as m
  refine ctr_of2 (by decide +kernel) hst (by omega) (snd_X9_isHead (d' := 3) (hd9 := by omega) (hC_Jx4a65c_get_915e3 := C_Jx4a65c_get_915e3 hst (by omega))) mt_X9_isHead ?_
  intro r hr
  unfold SP_X9_isHead at hr
  split at hr
  · obtain ⟨hp, hr'⟩ := gd_some hr
    obtain ⟨rfl, h1, h2, h3⟩ := hp
    have q := q_X9_isHead h1 h2 h3 r hr'
    exact ⟨by show 2 ≤ 2; decide, q.1, q.2⟩
  · cases hr
