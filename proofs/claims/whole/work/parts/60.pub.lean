/-! what a caller of the reference sees: refusals -/
def T0 (m M : ab_M) : Prop := RW M ∧ FR m M 0 0 ∧ rc M = rc m ∧ mi M 62 0 0 = 0
/-- behind a call: at most c cells of w slots more, the answer v; x: what is thrown, what is answered, what the reference holds then -/
def PP (m m' : ab_M) (c w : Nat) (v : Int32) (x : Int32 × Int32 × ab_C) : Prop := (FR m m' c w ∧ RW m') ∧ mi m' 62 0 0 = x.1 ∧ v = x.2.1 ∧ rc m' = x.2.2
theorem PPm {m m' : ab_M} {c w : Nat} {v : Int32} {x : Int32 × Int32 × ab_C} (h : PP m m' c w v x) : mnc m ≤ mnc m' ∧ mns m ≤ mns m' := h.1.1.2.2.1
theorem PPfin {m : ab_M} {T : ab_T} {nL c w : Nat} {as : List ab_V} {X : Int32 × Int32 × ab_C} (v : Int32) (m' : ab_M) (hp : PP m m' c w v X) (hl : (eL as).length ≤ nL) (hK : ∀ K : ab_K, Closed T (fun r' => r' = .inl ([vI v], m')) K → K 0 (entry nL as) [] m) :
    ∃ r, ((eL as).length ≤ nL ∧ (mnc m ≤ mnc (resM r) ∧ mns m ≤ mns (resM r)) ∧ Comes_to T (entry nL as) m r) ∧ ∃ (v : Int32) (m' : ab_M), (okV (vI v) m' : ab_O) = some r ∧ (PP m m' c w v X) := ⟨.inl ([vI v], m'), ⟨hl, PPm hp, hK⟩, v, m', rfl, hp⟩
theorem tw_0 {m : ab_M} {t : Int32} : mi (sI m 62 0 0 t) 62 0 0 = t := by rw [mi_sI, u3_ap, if_pos ⟨rfl, rfl, rfl⟩]
theorem PP_1 {m : ab_M} {t v : Int32} (h : RW m) : PP m (sI m 62 0 0 t) 0 0 v (t, v, rc m) := ⟨⟨FR.oI rfl, RW_sI h rfl⟩, tw_0, rfl, rc_sN rfl⟩
theorem PP_r {m M : ab_M} {t v : Int32} (h : T0 m M) : PP m (sI M 62 0 0 t) 0 0 v (t, v, rc m) := ⟨⟨h.2.1.trans (FR.oI rfl), RW_sI h.1 rfl⟩, tw_0, rfl, (rc_sN rfl).trans h.2.2.1⟩
theorem PP_0 {m M : ab_M} {v : Int32} (h : T0 m M) : PP m M 0 0 v (0, v, rc m) := ⟨⟨h.2.1, h.1⟩, h.2.2.2, rfl, h.2.2.1⟩
theorem T0_tw {m : ab_M} (h : RW m) : T0 m (sI m 62 0 0 0) := ⟨RW_sI h rfl, FR.oI rfl, rc_sN rfl, tw_0⟩
theorem sI_sI {m : ab_M} {s i k : Nat} {v w : Int32} : sI (sI m s i k v) s i k w = sI m s i k w := by
  rw [sI_eq, sI_eq, sI_eq, wI_wI]
  congr 1
  funext a b c
  rw [mi_wI, u3_ap, u3_ap, u3_ap]
  split <;> rfl
theorem st_0 {m : ab_M} (h : RW m) : ∃ M, (∀ w, SP_X9_start [vA 62 0, vI 0, vI w] m = okV (vI 0) M) ∧ T0 m M := by
  refine ⟨sI m 62 0 0 0, fun w => ?_, T0_tw h⟩
  rw [e_X9_start (m := m) (b := 0) (w := w) trivial]
  have e : rRef (sI m 62 0 0 0) 0 w = sI m 62 0 0 0 := if_pos rfl
  rw [e, tw_0]; rfl
theorem st_1 {m : ab_M} {w : Int32} (hw : 0 < w) : SP_X9_start [vA 62 0, vI 1, vI w] m = okV (vI 1) (sI m 62 0 0 w) := by
  rw [e_X9_start (m := m) (b := 1) (w := w) trivial]
  have e : rRef (sI m 62 0 0 0) 1 w = sI m 62 0 0 w := by
    unfold rRef
    rw [if_neg (by decide), if_pos tw_0, sI_sI]
  rw [e, tw_0, decide_eq_true hw]; rfl
theorem rf_0 {M : ab_M} {w : Int32} (h : mi M 62 0 0 = 0) : SP_X9_refuse [vA 62 0, vI 0, vI w] M = okV (vI 0) M := by
  rw [e_X9_refuse (m := M) (b := 0) (w := w) trivial]
  have e : rRef M 0 w = M := if_pos rfl
  rw [e, h]; rfl
theorem rf_1 {M : ab_M} {w : Int32} (h : mi M 62 0 0 = 0) (hw : 0 < w) : SP_X9_refuse [vA 62 0, vI 1, vI w] M = okV (vI 1) (sI M 62 0 0 w) := by
  rw [e_X9_refuse (m := M) (b := 1) (w := w) trivial]
  have e : rRef M 1 w = sI M 62 0 0 w := by
    unfold rRef
    rw [if_neg (by decide), if_pos h]
  rw [e, tw_0, decide_eq_true hw]; rfl
def rHas (c : ab_C) (p : Int32) : Bool := cRng p 0 (c 35 0 0 - 1)
def rHasH (c : ab_C) (p : Int32) : Bool := cRng p 0 (c 36 0 0 - 1)
def rHasS (c : ab_C) (p : Int32) : Bool := cRng p 0 (c 37 0 0 - 1)
def rHasU (c : ab_C) (p : Int32) : Bool := cRng p 0 (c 38 0 0 - 1)
theorem rng_in0 {p : Int32} {n : Nat} (hn : n < 1000) : cRng p 0 (nN n - 1) = true ↔ inb p n := by
  unfold cRng
  simp only [Bool.and_eq_true, Bool.not_eq_true', decide_eq_false_iff_not]
  have e : (nN n - 1).toInt = (n : Int) - 1 := by
    rw [Int32.toInt_sub, nN_toInt (by omega), show (1 : Int32).toInt = 1 from rfl]
    rw [Int.bmod_eq_of_le] <;> omega
  unfold inb
  rw [Int32.lt_iff_toInt_lt, Int32.lt_iff_toInt_lt, e]
  have e0 : (0 : Int32).toInt = 0 := rfl
  rw [e0]
  have e2 : p.toNatClampNeg = p.toInt.toNat := rfl
  rw [e2]
  omega
theorem rh_P {M : ab_M} {p : Int32} (h : RM M) : rHas (rc M) p = true ↔ inb p (np (rc M)) := by
  unfold rHas
  rw [show rc M 35 0 0 = nN (np (rc M)) from h.2.1.1.2.1]
  exact rng_in0 (by have := h.2.1.2; omega)
theorem rh_H {M : ab_M} {p : Int32} (h : RM M) : rHasH (rc M) p = true ↔ inb p (nh (rc M)) := by
  unfold rHasH
  rw [show rc M 36 0 0 = nN (nh (rc M)) from h.2.2.1.1.2.1]
  exact rng_in0 (by have := h.2.2.1.2; omega)
theorem rh_S {M : ab_M} {p : Int32} (h : RM M) : rHasS (rc M) p = true ↔ inb p (nsc (rc M)) := by
  unfold rHasS
  rw [show rc M 37 0 0 = nN (nsc (rc M)) from h.2.2.2.1.1.2.1]
  exact rng_in0 (by have := h.2.2.2.1.2; omega)
theorem rh_U {M : ab_M} {p : Int32} (h : RM M) : rHasU (rc M) p = true ↔ inb p (nu (rc M)) := by
  unfold rHasU
  rw [show rc M 38 0 0 = nN (nu (rc M)) from h.2.2.2.2.1.1.2.1]
  exact rng_in0 (by have := h.2.2.2.2.1.2; omega)
theorem nP {M : ab_M} {p : Int32} {b : Bool} (h : RM M) (hb : rHas (rc M) p = b) : SP_X9_isNoPerson [vA 62 0, vI p] M = okV (vI (bI (!b))) M := by
  rw [e_X9_isNoPerson h.1, ← hb]; rfl
theorem nH {M : ab_M} {p : Int32} {b : Bool} (h : RM M) (hb : rHasH (rc M) p = b) : SP_X9_isNoHouse [vA 62 0, vI p] M = okV (vI (bI (!b))) M := by
  rw [e_X9_isNoHouse h.1, ← hb]; rfl
theorem nS {M : ab_M} {p : Int32} {b : Bool} (h : RM M) (hb : rHasS (rc M) p = b) : SP_X9_isNoSecret [vA 62 0, vI p] M = okV (vI (bI (!b))) M := by
  rw [e_X9_isNoSecret h.1, ← hb]; rfl
theorem nU {M : ab_M} {p : Int32} {b : Bool} (h : RM M) (hb : rHasU (rc M) p = b) : SP_X9_isNoUtensil [vA 62 0, vI p] M = okV (vI (bI (!b))) M := by
  rw [e_X9_isNoUtensil h.1, ← hb]; rfl
theorem dP1 {M : ab_M} {p : Int32} (h : RM M) (hp : inb p (np (rc M))) (hd : rc M 13 0 p.toNatClampNeg = 0) : SP_X9_isDead [vA 62 0, vI p] M = okV (vI 1) M := by
  rw [e_X9_isDead h hp, decide_eq_true hd]; rfl
theorem dP0 {M : ab_M} {p : Int32} (h : RM M) (hp : inb p (np (rc M))) (hd : ¬ rc M 13 0 p.toNatClampNeg = 0) : SP_X9_isDead [vA 62 0, vI p] M = okV (vI 0) M := by
  rw [e_X9_isDead h hp, decide_eq_false hd]; rfl
theorem p12 : (0 : Int32) < 1 ∧ (0 : Int32) < 2 ∧ (0 : Int32) < 3 := by decide
/-- what the reference holds is sound -/
def RG (c : ab_C) : Prop := RV c ∧ AC c ∧ QC c
theorem bnt : (!true) = false := rfl
theorem bnf : (!false) = true := rfl
theorem nsz_of {s k : Nat} (h : (! (s == 44) && (! (s == 45) && (! (s == 46) && ! (s == 47)))) = true) : nsz s k = true := by unfold nsz; rw [h]; exact Bool.or_true _
/-- the sites that soundness speaks of -/
def rgS (s : Nat) : Bool := s == 3 || (s == 4 || (s == 5 || (s == 7 || (s == 9 || (s == 23 || (s == 30 || (s == 35 || (s == 36 || (s == 37 || s == 38)))))))))
theorem RG_of {c c' : ab_C} (h : RG c) (he : ∀ s i k, rgS s = true → c' s i k = c s i k) : RG c' := by
  have n1 : np c' = np c := congrArg Int32.toNatClampNeg (he 35 0 0 rfl)
  have n2 : nh c' = nh c := congrArg Int32.toNatClampNeg (he 36 0 0 rfl)
  have n3 : nsc c' = nsc c := congrArg Int32.toNatClampNeg (he 37 0 0 rfl)
  have n4 : nu c' = nu c := congrArg Int32.toNatClampNeg (he 38 0 0 rfl)
  have e5 := fun i => he 5 0 i rfl
  have e9 := fun i => he 9 0 i rfl
  have e23 := fun i => he 23 0 i rfl
  have e3 := fun i => he 3 0 i rfl
  have e4 := fun i => he 4 0 i rfl
  have e30 := fun i => he 30 0 i rfl
  have e7 := fun i => he 7 0 i rfl
  unfold RG RV AC QC at h ⊢
  simp only [n1, n2, n3, n4, e5, e9, e23, e3, e4, e30, e7]
  exact h
theorem RG_u3 {c : ab_C} {s i k : Nat} {v : Int32} (h : RG c) (hs : rgS s = false) : RG (u3 c s i k v) := RG_of h (fun a b d ha => by
  rw [u3_ap, if_neg]
  rintro ⟨rfl, -, -⟩
  rw [hs] at ha; cases ha)
/-- the fee goes up from one, in what the reference holds -/
def rPay (c : ab_C) : Nat → Int32 → Int32 → ab_C → ab_C
  | 0, _, _, a => a
  | k + 1, one, left, a => if one = -1 then a else
      if c 13 0 one.toNatClampNeg = 0 then
        (if c 5 0 one.toNatClampNeg = -1 then rPay c k (c 5 0 one.toNatClampNeg) left (u3 a 61 0 9 (a 61 0 9 + left)) else rPay c k (c 5 0 one.toNatClampNeg) left a)
      else rPay c k (c 5 0 one.toNatClampNeg) (left - (if c 5 0 one.toNatClampNeg = -1 then left else (left + 1) / 2)) (u3 a 8 0 one.toNatClampNeg (a 8 0 one.toNatClampNeg + (if c 5 0 one.toNatClampNeg = -1 then left else (left + 1) / 2)))
theorem rc_mPay (c : ab_C) : ∀ k one left m, rc (mPay c k one left m) = rPay c k one left (rc m)
  | 0, _, _, _ => rfl
  | k + 1, one, left, m => by
    unfold mPay rPay
    split
    · rfl
    · split
      · split
        · rw [rc_mPay c k, rc_sI (s := 61) (i := 0) (k := 9) rfl]; rfl
        · rw [rc_mPay c k]
      · rw [rc_mPay c k, rc_sI (s := 8) (i := 0) (k := one.toNatClampNeg) rfl]; rfl
def rGiveX (c : ab_C) (p s t : Int32) : ab_C :=
  u3 (u3 (u3 (u3 (rPay (u3 c 8 0 p.toNatClampNeg (c 8 0 p.toNatClampNeg - 5 * s)) 12 t (5 * s) (u3 c 8 0 p.toNatClampNeg (c 8 0 p.toNatClampNeg - 5 * s))) 7 0 p.toNatClampNeg s) 15 p.toNatClampNeg s.toNatClampNeg t) 17 p.toNatClampNeg s.toNatClampNeg (c 61 0 6)) 61 0 7 (c 61 0 7 + 1)
def rGive (c : ab_C) (p : Int32) : Int32 × Int32 × ab_C :=
  if rHas c p = false then (1, 0, c) else if c 13 0 p.toNatClampNeg = 0 then (2, 0, c) else if c 7 0 p.toNatClampNeg = 9 then (2, 0, c) else if c 5 0 p.toNatClampNeg = -1 then (2, 0, c) else
  if c 13 0 (c 5 0 p.toNatClampNeg).toNatClampNeg = 0 then (0, -2, c) else if c 7 0 (c 5 0 p.toNatClampNeg).toNatClampNeg < c 7 0 p.toNatClampNeg + 1 then (0, -2, c) else
  if ¬ c 7 0 p.toNatClampNeg + 1 < 7 ∧ cUnb c 12 (c 5 0 p.toNatClampNeg) = false then (0, -3, c) else if c 8 0 p.toNatClampNeg < 5 * (c 7 0 p.toNatClampNeg + 1) then (0, -4, c) else
  (0, c 7 0 p.toNatClampNeg + 1, rGiveX c p (c 7 0 p.toNatClampNeg + 1) (c 5 0 p.toNatClampNeg))
noncomputable def SP_X9_give : List ab_V → ab_M → ab_O := fun as m => chs (T_X9_give SP_X9_isNoPerson SP_X9_start SP_X9_isDead SP_Jx4a65c_get_915e3 SP_X9_refuse SP_X9_isUnbroken SP_X9_payUp) 4 as m (fun r => match as with
  | [_, .inl p] => ∃ (v : Int32) (m' : ab_M), (okV (vI v) m' : ab_O) = some r ∧ (PP m m' 0 0 v (rGive (rc m) p))
  | _ => False)
theorem w_X9_give {m : ab_M} {p : Int32} (r : ab_R) (hmono : mnc m ≤ mnc (resM r) ∧ mns m ≤ mns (resM r)) (hp : ∃ (v : Int32) (m' : ab_M), (okV (vI v) m' : ab_O) = some r ∧ (PP m m' 0 0 v (rGive (rc m) p))) (hK : ∀ K : ab_K, Closed (T_X9_give SP_X9_isNoPerson SP_X9_start SP_X9_isDead SP_Jx4a65c_get_915e3 SP_X9_refuse SP_X9_isUnbroken SP_X9_payUp) (fun r' => r' = r) K → K 0 [some (vA 62 0), some (vI p), none, none] [] m) : ∃ r, ((eL [vA 62 0, vI p]).length ≤ 4 ∧ (mnc m ≤ mnc (resM r) ∧ mns m ≤ mns (resM r)) ∧ Comes_to (T_X9_give SP_X9_isNoPerson SP_X9_start SP_X9_isDead SP_Jx4a65c_get_915e3 SP_X9_refuse SP_X9_isUnbroken SP_X9_payUp) (entry 4 [vA 62 0, vI p]) m r) ∧ ∃ (v : Int32) (m' : ab_M), (okV (vI v) m' : ab_O) = some r ∧ (PP m m' 0 0 v (rGive (rc m) p)) := ⟨r, ⟨by show 2 ≤ 4; decide, hmono, hK⟩, hp⟩
theorem q_X9_give {m : ab_M} {p : Int32} (h1 : RW m) (h2 : RG (rc m)) : ∃ r, ((eL [vA 62 0, vI p]).length ≤ 4 ∧ (mnc m ≤ mnc (resM r) ∧ mns m ≤ mns (resM r)) ∧ Comes_to (T_X9_give SP_X9_isNoPerson SP_X9_start SP_X9_isDead SP_Jx4a65c_get_915e3 SP_X9_refuse SP_X9_isUnbroken SP_X9_payUp) (entry 4 [vA 62 0, vI p]) m r) ∧ ∃ (v : Int32) (m' : ab_M), (okV (vI v) m' : ab_O) = some r ∧ (PP m m' 0 0 v (rGive (rc m) p)) := by
  have a1 := h1.1.1.1
  unfold rGive
  by_cases z1 : rHas (rc m) p = false
  · rw [if_pos z1]
    refine PPfin _ _ ((PP_1 h1)) (by show 2 ≤ 4; decide) (fun K hK => ?_)
    show K 0 [some (vA 62 0), some (vI p), none, none] [] m
    refine run_sound hK mt_X9_give (T_X9_give SP_X9_isNoPerson SP_X9_start SP_X9_isDead SP_Jx4a65c_get_915e3 SP_X9_refuse SP_X9_isUnbroken SP_X9_payUp) (fun x hx => hx) _ _ _ _ ?_
    simp only [T_X9_give, nP h1.1 z1, bnf, bI_t, st_1 p12.1, i10, Bool.false_eq_true, Bool.true_eq_false, Bool.not_true, Bool.not_false, ↓run_hit, ↓run_miss, ↓run_none, run_nil, ab_get0, ab_getS, if_true, if_false, if_pos, true_and, and_true, List.append_nil, List.nil_append, List.cons_append, List.length_cons, List.length_nil, List.take_succ_cons, List.take_zero, List.drop_succ_cons, List.drop_zero, List.reverse_cons, List.reverse_nil, List.map_nil, List.map_cons, List.sum_nil, List.sum_cons, rcv_some, rcv_999, wide_I, wide_L, wide_D, wide_R, wide_X, eq_self_iff_true, ite_true, ite_false, ↓reduceIte, Nat.reduceEqDiff, Nat.reduceLeDiff, Nat.reduceLT, Nat.reduceAdd, Nat.reduceMul, Nat.reduceBEq, decide_true, decide_false, and_self, or_self, or_true, true_or, false_or, or_false, and_false, false_and, not_false_eq_true, not_true_eq_false, Nat.zero_le, Nat.le_refl, Nat.add_eq_zero_iff, Nat.succ_ne_self, ↓s_const, ↓s_iload, ↓s_lload, ↓s_dload, ↓s_aload, ↓s_istore, ↓s_lstore, ↓s_dstore, ↓s_astore, ↓s_iinc, ↓s_bin, ↓s_div, ↓s_binL, ↓s_lcmp, ↓s_i2l, ↓s_i2d, ↓s_ddiv, ↓s_dcmpl, ↓s_goto, ↓s_ifeq, ↓s_iflt, ↓s_ifgt, ↓s_cmpeq, ↓s_cmplt, ↓s_cmpgt, ↓s_ifnull, ↓s_aeq, ↓s_pop, ↓s_dup, ↓s_dup2, ↓s_dupx1, ↓s_tab, ↓s_getI, ↓s_getR, ↓s_putI, ↓s_putZ, ↓s_putR, ↓s_ald, ↓s_ast, ↓s_zast, ↓s_lald, ↓s_last, ↓s_dald, ↓s_dast, ↓s_aald, ↓s_aast, ↓s_alen, ↓s_new, ↓s_newa, ↓s_multi, ↓s_cast, ↓s_getE, ↓s_obj, ↓s_mmin, ↓s_mmax, ↓s_hd, ↓s_call, ↓s_throw, ↓s_ret, ↓s_retL, ↓s_retD, ↓s_retA, ↓s_retV, mi_wI, mr_wI, mn_wI, mc_wI, sI_wI, u3_ap, mi_sI, mi_sR, mi_sL, mi_sD, mi_al, mi_bp, mr_sI, mr_sR, mr_sL, mr_sD, mr_al, mr_bp, ml_sI, ml_sR, ml_sL, ml_sD, ml_al, ml_bp, md_sI, md_sR, md_sL, md_sD, md_al, md_bp, mn_sI, mn_sR, mn_sL, mn_sD, mn_al, mn_bp, mc_sI, mc_sR, mc_sL, mc_sD, mc_al, mc_bp, mnc_sI, mnc_sR, mnc_sL, mnc_sD, mnc_al, mnc_bp, mns_sI, mns_sR, mns_sL, mns_sD, mns_al, mns_bp, SK_0, SK_1, SK_2, SK_3, SK_4, SK_5, SK_6, SK_7, SK_8, SK_9, SK_10, SK_11, SK_12, SK_13, SK_14, SK_15, SK_16, SK_17, SK_18, SK_19, SK_20, SK_21, SK_22, SK_23, SK_24, SK_25, SK_26, SK_27, SK_28, SK_29, SK_30, SK_31, SK_32, SK_33, SK_34, SK_35, SK_36, SK_37, SK_38, SK_39, SK_40, SK_41, SK_42, SK_43, SK_44, SK_45, SK_46, SK_47, SK_48, SK_49, SK_50, SK_51, SK_52, SK_53, SK_54, SK_55, SK_56, SK_57, SK_58, SK_59, SK_60, SK_61, SK_62, SK_63, SK_64, SK_65, st1_0, st1_1, st1_2, st1_3, st1_4, st1_5, st1_6, st1_7, st1_8, st2_0, st2_1, st2_2, st2_3, st2_4, st2_5, st2_6, st2_7, clr_I, clr_R, clr_X, clr_L, clr_D, clr_N]
  rw [if_neg z1]
  have y1 : rHas (rc m) p = true := by simpa using z1
  have hin := (rh_P h1.1).mp y1
  have hi := (inb_eq hin).2
  have h12 := h1.1.2.1.2
  obtain ⟨M, eM, hM⟩ := st_0 h1
  obtain ⟨hW, hF, hR, hT⟩ := id hM
  have b1 := hW.1.1.1
  have gp := get_P hW.1 (p := p) (by rw [hR]; exact hin)
  have q13 : ∀ i, mi M 48 i 4 = rc m 13 0 i := fun i => by rw [← hR]; rfl
  have q7 : ∀ i, mi M 48 i 2 = rc m 7 0 i := fun i => by rw [← hR]; rfl
  have q5 : ∀ i, mi M 48 i 0 = rc m 5 0 i := fun i => by rw [← hR]; rfl
  have q8 : ∀ i, mi M 48 i 3 = rc m 8 0 i := fun i => by rw [← hR]; rfl
  by_cases z2 : rc m 13 0 p.toNatClampNeg = 0
  · rw [if_pos z2]
    refine PPfin _ _ ((PP_r hM)) (by show 2 ≤ 4; decide) (fun K hK => ?_)
    show K 0 [some (vA 62 0), some (vI p), none, none] [] m
    refine run_sound hK mt_X9_give (T_X9_give SP_X9_isNoPerson SP_X9_start SP_X9_isDead SP_Jx4a65c_get_915e3 SP_X9_refuse SP_X9_isUnbroken SP_X9_payUp) (fun x hx => hx) _ _ _ _ ?_
    simp only [T_X9_give, nP h1.1 y1, bnt, bI_f, eM, dP1 hW.1 (p := p) (by rw [hR]; exact hin) (by rw [hR]; exact z2), rf_1 hT p12.2.1, i10, Bool.false_eq_true, Bool.true_eq_false, Bool.not_true, Bool.not_false, ↓run_hit, ↓run_miss, ↓run_none, run_nil, ab_get0, ab_getS, if_true, if_false, if_pos, true_and, and_true, List.append_nil, List.nil_append, List.cons_append, List.length_cons, List.length_nil, List.take_succ_cons, List.take_zero, List.drop_succ_cons, List.drop_zero, List.reverse_cons, List.reverse_nil, List.map_nil, List.map_cons, List.sum_nil, List.sum_cons, rcv_some, rcv_999, wide_I, wide_L, wide_D, wide_R, wide_X, eq_self_iff_true, ite_true, ite_false, ↓reduceIte, Nat.reduceEqDiff, Nat.reduceLeDiff, Nat.reduceLT, Nat.reduceAdd, Nat.reduceMul, Nat.reduceBEq, decide_true, decide_false, and_self, or_self, or_true, true_or, false_or, or_false, and_false, false_and, not_false_eq_true, not_true_eq_false, Nat.zero_le, Nat.le_refl, Nat.add_eq_zero_iff, Nat.succ_ne_self, ↓s_const, ↓s_iload, ↓s_lload, ↓s_dload, ↓s_aload, ↓s_istore, ↓s_lstore, ↓s_dstore, ↓s_astore, ↓s_iinc, ↓s_bin, ↓s_div, ↓s_binL, ↓s_lcmp, ↓s_i2l, ↓s_i2d, ↓s_ddiv, ↓s_dcmpl, ↓s_goto, ↓s_ifeq, ↓s_iflt, ↓s_ifgt, ↓s_cmpeq, ↓s_cmplt, ↓s_cmpgt, ↓s_ifnull, ↓s_aeq, ↓s_pop, ↓s_dup, ↓s_dup2, ↓s_dupx1, ↓s_tab, ↓s_getI, ↓s_getR, ↓s_putI, ↓s_putZ, ↓s_putR, ↓s_ald, ↓s_ast, ↓s_zast, ↓s_lald, ↓s_last, ↓s_dald, ↓s_dast, ↓s_aald, ↓s_aast, ↓s_alen, ↓s_new, ↓s_newa, ↓s_multi, ↓s_cast, ↓s_getE, ↓s_obj, ↓s_mmin, ↓s_mmax, ↓s_hd, ↓s_call, ↓s_throw, ↓s_ret, ↓s_retL, ↓s_retD, ↓s_retA, ↓s_retV, mi_wI, mr_wI, mn_wI, mc_wI, sI_wI, u3_ap, mi_sI, mi_sR, mi_sL, mi_sD, mi_al, mi_bp, mr_sI, mr_sR, mr_sL, mr_sD, mr_al, mr_bp, ml_sI, ml_sR, ml_sL, ml_sD, ml_al, ml_bp, md_sI, md_sR, md_sL, md_sD, md_al, md_bp, mn_sI, mn_sR, mn_sL, mn_sD, mn_al, mn_bp, mc_sI, mc_sR, mc_sL, mc_sD, mc_al, mc_bp, mnc_sI, mnc_sR, mnc_sL, mnc_sD, mnc_al, mnc_bp, mns_sI, mns_sR, mns_sL, mns_sD, mns_al, mns_bp, SK_0, SK_1, SK_2, SK_3, SK_4, SK_5, SK_6, SK_7, SK_8, SK_9, SK_10, SK_11, SK_12, SK_13, SK_14, SK_15, SK_16, SK_17, SK_18, SK_19, SK_20, SK_21, SK_22, SK_23, SK_24, SK_25, SK_26, SK_27, SK_28, SK_29, SK_30, SK_31, SK_32, SK_33, SK_34, SK_35, SK_36, SK_37, SK_38, SK_39, SK_40, SK_41, SK_42, SK_43, SK_44, SK_45, SK_46, SK_47, SK_48, SK_49, SK_50, SK_51, SK_52, SK_53, SK_54, SK_55, SK_56, SK_57, SK_58, SK_59, SK_60, SK_61, SK_62, SK_63, SK_64, SK_65, st1_0, st1_1, st1_2, st1_3, st1_4, st1_5, st1_6, st1_7, st1_8, st2_0, st2_1, st2_2, st2_3, st2_4, st2_5, st2_6, st2_7, clr_I, clr_R, clr_X, clr_L, clr_D, clr_N]
  rw [if_neg z2]
  have d1 := dP0 hW.1 (p := p) (by rw [hR]; exact hin) (by rw [hR]; exact z2)
  by_cases z3 : rc m 7 0 p.toNatClampNeg = 9
  · rw [if_pos z3]
    refine PPfin _ _ ((PP_r hM)) (by show 2 ≤ 4; decide) (fun K hK => ?_)
    show K 0 [some (vA 62 0), some (vI p), none, none] [] m
    refine run_sound hK mt_X9_give (T_X9_give SP_X9_isNoPerson SP_X9_start SP_X9_isDead SP_Jx4a65c_get_915e3 SP_X9_refuse SP_X9_isUnbroken SP_X9_payUp) (fun x hx => hx) _ _ _ _ ?_
    simp only [T_X9_give, nP h1.1 y1, bnt, bI_f, eM, d1, b1, gp, q7, z3, rf_1 hT p12.2.1, i10, Bool.false_eq_true, Bool.true_eq_false, Bool.not_true, Bool.not_false, ↓run_hit, ↓run_miss, ↓run_none, run_nil, ab_get0, ab_getS, if_true, if_false, if_pos, true_and, and_true, List.append_nil, List.nil_append, List.cons_append, List.length_cons, List.length_nil, List.take_succ_cons, List.take_zero, List.drop_succ_cons, List.drop_zero, List.reverse_cons, List.reverse_nil, List.map_nil, List.map_cons, List.sum_nil, List.sum_cons, rcv_some, rcv_999, wide_I, wide_L, wide_D, wide_R, wide_X, eq_self_iff_true, ite_true, ite_false, ↓reduceIte, Nat.reduceEqDiff, Nat.reduceLeDiff, Nat.reduceLT, Nat.reduceAdd, Nat.reduceMul, Nat.reduceBEq, decide_true, decide_false, and_self, or_self, or_true, true_or, false_or, or_false, and_false, false_and, not_false_eq_true, not_true_eq_false, Nat.zero_le, Nat.le_refl, Nat.add_eq_zero_iff, Nat.succ_ne_self, ↓s_const, ↓s_iload, ↓s_lload, ↓s_dload, ↓s_aload, ↓s_istore, ↓s_lstore, ↓s_dstore, ↓s_astore, ↓s_iinc, ↓s_bin, ↓s_div, ↓s_binL, ↓s_lcmp, ↓s_i2l, ↓s_i2d, ↓s_ddiv, ↓s_dcmpl, ↓s_goto, ↓s_ifeq, ↓s_iflt, ↓s_ifgt, ↓s_cmpeq, ↓s_cmplt, ↓s_cmpgt, ↓s_ifnull, ↓s_aeq, ↓s_pop, ↓s_dup, ↓s_dup2, ↓s_dupx1, ↓s_tab, ↓s_getI, ↓s_getR, ↓s_putI, ↓s_putZ, ↓s_putR, ↓s_ald, ↓s_ast, ↓s_zast, ↓s_lald, ↓s_last, ↓s_dald, ↓s_dast, ↓s_aald, ↓s_aast, ↓s_alen, ↓s_new, ↓s_newa, ↓s_multi, ↓s_cast, ↓s_getE, ↓s_obj, ↓s_mmin, ↓s_mmax, ↓s_hd, ↓s_call, ↓s_throw, ↓s_ret, ↓s_retL, ↓s_retD, ↓s_retA, ↓s_retV, mi_wI, mr_wI, mn_wI, mc_wI, sI_wI, u3_ap, mi_sI, mi_sR, mi_sL, mi_sD, mi_al, mi_bp, mr_sI, mr_sR, mr_sL, mr_sD, mr_al, mr_bp, ml_sI, ml_sR, ml_sL, ml_sD, ml_al, ml_bp, md_sI, md_sR, md_sL, md_sD, md_al, md_bp, mn_sI, mn_sR, mn_sL, mn_sD, mn_al, mn_bp, mc_sI, mc_sR, mc_sL, mc_sD, mc_al, mc_bp, mnc_sI, mnc_sR, mnc_sL, mnc_sD, mnc_al, mnc_bp, mns_sI, mns_sR, mns_sL, mns_sD, mns_al, mns_bp, SK_0, SK_1, SK_2, SK_3, SK_4, SK_5, SK_6, SK_7, SK_8, SK_9, SK_10, SK_11, SK_12, SK_13, SK_14, SK_15, SK_16, SK_17, SK_18, SK_19, SK_20, SK_21, SK_22, SK_23, SK_24, SK_25, SK_26, SK_27, SK_28, SK_29, SK_30, SK_31, SK_32, SK_33, SK_34, SK_35, SK_36, SK_37, SK_38, SK_39, SK_40, SK_41, SK_42, SK_43, SK_44, SK_45, SK_46, SK_47, SK_48, SK_49, SK_50, SK_51, SK_52, SK_53, SK_54, SK_55, SK_56, SK_57, SK_58, SK_59, SK_60, SK_61, SK_62, SK_63, SK_64, SK_65, st1_0, st1_1, st1_2, st1_3, st1_4, st1_5, st1_6, st1_7, st1_8, st2_0, st2_1, st2_2, st2_3, st2_4, st2_5, st2_6, st2_7, clr_I, clr_R, clr_X, clr_L, clr_D, clr_N]
  rw [if_neg z3]
  by_cases z4 : rc m 5 0 p.toNatClampNeg = -1
  · rw [if_pos z4]
    refine PPfin _ _ ((PP_r hM)) (by show 2 ≤ 4; decide) (fun K hK => ?_)
    show K 0 [some (vA 62 0), some (vI p), none, none] [] m
    refine run_sound hK mt_X9_give (T_X9_give SP_X9_isNoPerson SP_X9_start SP_X9_isDead SP_Jx4a65c_get_915e3 SP_X9_refuse SP_X9_isUnbroken SP_X9_payUp) (fun x hx => hx) _ _ _ _ ?_
    simp only [T_X9_give, nP h1.1 y1, bnt, bI_f, eM, d1, b1, gp, q7, z3, q5, z4, rf_1 hT p12.2.1, i10, Bool.false_eq_true, Bool.true_eq_false, Bool.not_true, Bool.not_false, ↓run_hit, ↓run_miss, ↓run_none, run_nil, ab_get0, ab_getS, if_true, if_false, if_pos, true_and, and_true, List.append_nil, List.nil_append, List.cons_append, List.length_cons, List.length_nil, List.take_succ_cons, List.take_zero, List.drop_succ_cons, List.drop_zero, List.reverse_cons, List.reverse_nil, List.map_nil, List.map_cons, List.sum_nil, List.sum_cons, rcv_some, rcv_999, wide_I, wide_L, wide_D, wide_R, wide_X, eq_self_iff_true, ite_true, ite_false, ↓reduceIte, Nat.reduceEqDiff, Nat.reduceLeDiff, Nat.reduceLT, Nat.reduceAdd, Nat.reduceMul, Nat.reduceBEq, decide_true, decide_false, and_self, or_self, or_true, true_or, false_or, or_false, and_false, false_and, not_false_eq_true, not_true_eq_false, Nat.zero_le, Nat.le_refl, Nat.add_eq_zero_iff, Nat.succ_ne_self, ↓s_const, ↓s_iload, ↓s_lload, ↓s_dload, ↓s_aload, ↓s_istore, ↓s_lstore, ↓s_dstore, ↓s_astore, ↓s_iinc, ↓s_bin, ↓s_div, ↓s_binL, ↓s_lcmp, ↓s_i2l, ↓s_i2d, ↓s_ddiv, ↓s_dcmpl, ↓s_goto, ↓s_ifeq, ↓s_iflt, ↓s_ifgt, ↓s_cmpeq, ↓s_cmplt, ↓s_cmpgt, ↓s_ifnull, ↓s_aeq, ↓s_pop, ↓s_dup, ↓s_dup2, ↓s_dupx1, ↓s_tab, ↓s_getI, ↓s_getR, ↓s_putI, ↓s_putZ, ↓s_putR, ↓s_ald, ↓s_ast, ↓s_zast, ↓s_lald, ↓s_last, ↓s_dald, ↓s_dast, ↓s_aald, ↓s_aast, ↓s_alen, ↓s_new, ↓s_newa, ↓s_multi, ↓s_cast, ↓s_getE, ↓s_obj, ↓s_mmin, ↓s_mmax, ↓s_hd, ↓s_call, ↓s_throw, ↓s_ret, ↓s_retL, ↓s_retD, ↓s_retA, ↓s_retV, mi_wI, mr_wI, mn_wI, mc_wI, sI_wI, u3_ap, mi_sI, mi_sR, mi_sL, mi_sD, mi_al, mi_bp, mr_sI, mr_sR, mr_sL, mr_sD, mr_al, mr_bp, ml_sI, ml_sR, ml_sL, ml_sD, ml_al, ml_bp, md_sI, md_sR, md_sL, md_sD, md_al, md_bp, mn_sI, mn_sR, mn_sL, mn_sD, mn_al, mn_bp, mc_sI, mc_sR, mc_sL, mc_sD, mc_al, mc_bp, mnc_sI, mnc_sR, mnc_sL, mnc_sD, mnc_al, mnc_bp, mns_sI, mns_sR, mns_sL, mns_sD, mns_al, mns_bp, SK_0, SK_1, SK_2, SK_3, SK_4, SK_5, SK_6, SK_7, SK_8, SK_9, SK_10, SK_11, SK_12, SK_13, SK_14, SK_15, SK_16, SK_17, SK_18, SK_19, SK_20, SK_21, SK_22, SK_23, SK_24, SK_25, SK_26, SK_27, SK_28, SK_29, SK_30, SK_31, SK_32, SK_33, SK_34, SK_35, SK_36, SK_37, SK_38, SK_39, SK_40, SK_41, SK_42, SK_43, SK_44, SK_45, SK_46, SK_47, SK_48, SK_49, SK_50, SK_51, SK_52, SK_53, SK_54, SK_55, SK_56, SK_57, SK_58, SK_59, SK_60, SK_61, SK_62, SK_63, SK_64, SK_65, st1_0, st1_1, st1_2, st1_3, st1_4, st1_5, st1_6, st1_7, st1_8, st2_0, st2_1, st2_2, st2_3, st2_4, st2_5, st2_6, st2_7, clr_I, clr_R, clr_X, clr_L, clr_D, clr_N]
  rw [if_neg z4]
  have htn := (h2.1.1 _ hi).resolve_left z4
  have hti := (inb_eq htn).2
  have gt := get_P hW.1 (p := rc m 5 0 p.toNatClampNeg) (by rw [hR]; exact htn)
  by_cases z5 : rc m 13 0 (rc m 5 0 p.toNatClampNeg).toNatClampNeg = 0
  · rw [if_pos z5]
    refine PPfin _ _ ((PP_0 hM)) (by show 2 ≤ 4; decide) (fun K hK => ?_)
    show K 0 [some (vA 62 0), some (vI p), none, none] [] m
    refine run_sound hK mt_X9_give (T_X9_give SP_X9_isNoPerson SP_X9_start SP_X9_isDead SP_Jx4a65c_get_915e3 SP_X9_refuse SP_X9_isUnbroken SP_X9_payUp) (fun x hx => hx) _ _ _ _ ?_
    simp only [T_X9_give, nP h1.1 y1, bnt, bI_f, eM, d1, b1, gp, q7, z3, q5, z4, rf_0 hT, dP1 hW.1 (p := rc m 5 0 p.toNatClampNeg) (by rw [hR]; exact htn) (by rw [hR]; exact z5), i10, Bool.false_eq_true, Bool.true_eq_false, Bool.not_true, Bool.not_false, ↓run_hit, ↓run_miss, ↓run_none, run_nil, ab_get0, ab_getS, if_true, if_false, if_pos, true_and, and_true, List.append_nil, List.nil_append, List.cons_append, List.length_cons, List.length_nil, List.take_succ_cons, List.take_zero, List.drop_succ_cons, List.drop_zero, List.reverse_cons, List.reverse_nil, List.map_nil, List.map_cons, List.sum_nil, List.sum_cons, rcv_some, rcv_999, wide_I, wide_L, wide_D, wide_R, wide_X, eq_self_iff_true, ite_true, ite_false, ↓reduceIte, Nat.reduceEqDiff, Nat.reduceLeDiff, Nat.reduceLT, Nat.reduceAdd, Nat.reduceMul, Nat.reduceBEq, decide_true, decide_false, and_self, or_self, or_true, true_or, false_or, or_false, and_false, false_and, not_false_eq_true, not_true_eq_false, Nat.zero_le, Nat.le_refl, Nat.add_eq_zero_iff, Nat.succ_ne_self, ↓s_const, ↓s_iload, ↓s_lload, ↓s_dload, ↓s_aload, ↓s_istore, ↓s_lstore, ↓s_dstore, ↓s_astore, ↓s_iinc, ↓s_bin, ↓s_div, ↓s_binL, ↓s_lcmp, ↓s_i2l, ↓s_i2d, ↓s_ddiv, ↓s_dcmpl, ↓s_goto, ↓s_ifeq, ↓s_iflt, ↓s_ifgt, ↓s_cmpeq, ↓s_cmplt, ↓s_cmpgt, ↓s_ifnull, ↓s_aeq, ↓s_pop, ↓s_dup, ↓s_dup2, ↓s_dupx1, ↓s_tab, ↓s_getI, ↓s_getR, ↓s_putI, ↓s_putZ, ↓s_putR, ↓s_ald, ↓s_ast, ↓s_zast, ↓s_lald, ↓s_last, ↓s_dald, ↓s_dast, ↓s_aald, ↓s_aast, ↓s_alen, ↓s_new, ↓s_newa, ↓s_multi, ↓s_cast, ↓s_getE, ↓s_obj, ↓s_mmin, ↓s_mmax, ↓s_hd, ↓s_call, ↓s_throw, ↓s_ret, ↓s_retL, ↓s_retD, ↓s_retA, ↓s_retV, mi_wI, mr_wI, mn_wI, mc_wI, sI_wI, u3_ap, mi_sI, mi_sR, mi_sL, mi_sD, mi_al, mi_bp, mr_sI, mr_sR, mr_sL, mr_sD, mr_al, mr_bp, ml_sI, ml_sR, ml_sL, ml_sD, ml_al, ml_bp, md_sI, md_sR, md_sL, md_sD, md_al, md_bp, mn_sI, mn_sR, mn_sL, mn_sD, mn_al, mn_bp, mc_sI, mc_sR, mc_sL, mc_sD, mc_al, mc_bp, mnc_sI, mnc_sR, mnc_sL, mnc_sD, mnc_al, mnc_bp, mns_sI, mns_sR, mns_sL, mns_sD, mns_al, mns_bp, SK_0, SK_1, SK_2, SK_3, SK_4, SK_5, SK_6, SK_7, SK_8, SK_9, SK_10, SK_11, SK_12, SK_13, SK_14, SK_15, SK_16, SK_17, SK_18, SK_19, SK_20, SK_21, SK_22, SK_23, SK_24, SK_25, SK_26, SK_27, SK_28, SK_29, SK_30, SK_31, SK_32, SK_33, SK_34, SK_35, SK_36, SK_37, SK_38, SK_39, SK_40, SK_41, SK_42, SK_43, SK_44, SK_45, SK_46, SK_47, SK_48, SK_49, SK_50, SK_51, SK_52, SK_53, SK_54, SK_55, SK_56, SK_57, SK_58, SK_59, SK_60, SK_61, SK_62, SK_63, SK_64, SK_65, st1_0, st1_1, st1_2, st1_3, st1_4, st1_5, st1_6, st1_7, st1_8, st2_0, st2_1, st2_2, st2_3, st2_4, st2_5, st2_6, st2_7, clr_I, clr_R, clr_X, clr_L, clr_D, clr_N]
  rw [if_neg z5]
  have d2 := dP0 hW.1 (p := rc m 5 0 p.toNatClampNeg) (by rw [hR]; exact htn) (by rw [hR]; exact z5)
  by_cases z6 : rc m 7 0 (rc m 5 0 p.toNatClampNeg).toNatClampNeg < rc m 7 0 p.toNatClampNeg + 1
  · rw [if_pos z6]
    refine PPfin _ _ ((PP_0 hM)) (by show 2 ≤ 4; decide) (fun K hK => ?_)
    show K 0 [some (vA 62 0), some (vI p), none, none] [] m
    refine run_sound hK mt_X9_give (T_X9_give SP_X9_isNoPerson SP_X9_start SP_X9_isDead SP_Jx4a65c_get_915e3 SP_X9_refuse SP_X9_isUnbroken SP_X9_payUp) (fun x hx => hx) _ _ _ _ ?_
    simp only [T_X9_give, nP h1.1 y1, bnt, bI_f, eM, d1, b1, gp, q7, z3, q5, z4, rf_0 hT, d2, gt, z6, i10, Bool.false_eq_true, Bool.true_eq_false, Bool.not_true, Bool.not_false, ↓run_hit, ↓run_miss, ↓run_none, run_nil, ab_get0, ab_getS, if_true, if_false, if_pos, true_and, and_true, List.append_nil, List.nil_append, List.cons_append, List.length_cons, List.length_nil, List.take_succ_cons, List.take_zero, List.drop_succ_cons, List.drop_zero, List.reverse_cons, List.reverse_nil, List.map_nil, List.map_cons, List.sum_nil, List.sum_cons, rcv_some, rcv_999, wide_I, wide_L, wide_D, wide_R, wide_X, eq_self_iff_true, ite_true, ite_false, ↓reduceIte, Nat.reduceEqDiff, Nat.reduceLeDiff, Nat.reduceLT, Nat.reduceAdd, Nat.reduceMul, Nat.reduceBEq, decide_true, decide_false, and_self, or_self, or_true, true_or, false_or, or_false, and_false, false_and, not_false_eq_true, not_true_eq_false, Nat.zero_le, Nat.le_refl, Nat.add_eq_zero_iff, Nat.succ_ne_self, ↓s_const, ↓s_iload, ↓s_lload, ↓s_dload, ↓s_aload, ↓s_istore, ↓s_lstore, ↓s_dstore, ↓s_astore, ↓s_iinc, ↓s_bin, ↓s_div, ↓s_binL, ↓s_lcmp, ↓s_i2l, ↓s_i2d, ↓s_ddiv, ↓s_dcmpl, ↓s_goto, ↓s_ifeq, ↓s_iflt, ↓s_ifgt, ↓s_cmpeq, ↓s_cmplt, ↓s_cmpgt, ↓s_ifnull, ↓s_aeq, ↓s_pop, ↓s_dup, ↓s_dup2, ↓s_dupx1, ↓s_tab, ↓s_getI, ↓s_getR, ↓s_putI, ↓s_putZ, ↓s_putR, ↓s_ald, ↓s_ast, ↓s_zast, ↓s_lald, ↓s_last, ↓s_dald, ↓s_dast, ↓s_aald, ↓s_aast, ↓s_alen, ↓s_new, ↓s_newa, ↓s_multi, ↓s_cast, ↓s_getE, ↓s_obj, ↓s_mmin, ↓s_mmax, ↓s_hd, ↓s_call, ↓s_throw, ↓s_ret, ↓s_retL, ↓s_retD, ↓s_retA, ↓s_retV, mi_wI, mr_wI, mn_wI, mc_wI, sI_wI, u3_ap, mi_sI, mi_sR, mi_sL, mi_sD, mi_al, mi_bp, mr_sI, mr_sR, mr_sL, mr_sD, mr_al, mr_bp, ml_sI, ml_sR, ml_sL, ml_sD, ml_al, ml_bp, md_sI, md_sR, md_sL, md_sD, md_al, md_bp, mn_sI, mn_sR, mn_sL, mn_sD, mn_al, mn_bp, mc_sI, mc_sR, mc_sL, mc_sD, mc_al, mc_bp, mnc_sI, mnc_sR, mnc_sL, mnc_sD, mnc_al, mnc_bp, mns_sI, mns_sR, mns_sL, mns_sD, mns_al, mns_bp, SK_0, SK_1, SK_2, SK_3, SK_4, SK_5, SK_6, SK_7, SK_8, SK_9, SK_10, SK_11, SK_12, SK_13, SK_14, SK_15, SK_16, SK_17, SK_18, SK_19, SK_20, SK_21, SK_22, SK_23, SK_24, SK_25, SK_26, SK_27, SK_28, SK_29, SK_30, SK_31, SK_32, SK_33, SK_34, SK_35, SK_36, SK_37, SK_38, SK_39, SK_40, SK_41, SK_42, SK_43, SK_44, SK_45, SK_46, SK_47, SK_48, SK_49, SK_50, SK_51, SK_52, SK_53, SK_54, SK_55, SK_56, SK_57, SK_58, SK_59, SK_60, SK_61, SK_62, SK_63, SK_64, SK_65, st1_0, st1_1, st1_2, st1_3, st1_4, st1_5, st1_6, st1_7, st1_8, st2_0, st2_1, st2_2, st2_3, st2_4, st2_5, st2_6, st2_7, clr_I, clr_R, clr_X, clr_L, clr_D, clr_N]
  rw [if_neg z6]
  have u1 := e_X9_isUnbroken (m := M) (p := rc m 5 0 p.toNatClampNeg) hW.1 (by rw [hR]; exact h2.1) (by rw [hR]; exact h2.2.1) (Or.inr (by rw [hR]; exact htn))
  rw [hR] at u1
  by_cases z7 : ¬ rc m 7 0 p.toNatClampNeg + 1 < 7 ∧ cUnb (rc m) 12 (rc m 5 0 p.toNatClampNeg) = false
  · rw [if_pos z7]
    obtain ⟨z8, z9⟩ := z7
    rw [z9] at u1
    refine PPfin _ _ ((PP_0 hM)) (by show 2 ≤ 4; decide) (fun K hK => ?_)
    show K 0 [some (vA 62 0), some (vI p), none, none] [] m
    refine run_sound hK mt_X9_give (T_X9_give SP_X9_isNoPerson SP_X9_start SP_X9_isDead SP_Jx4a65c_get_915e3 SP_X9_refuse SP_X9_isUnbroken SP_X9_payUp) (fun x hx => hx) _ _ _ _ ?_
    simp only [T_X9_give, nP h1.1 y1, bnt, bI_f, eM, d1, b1, gp, q7, z3, q5, z4, rf_0 hT, d2, gt, z6, z8, u1, i10, Bool.false_eq_true, Bool.true_eq_false, Bool.not_true, Bool.not_false, ↓run_hit, ↓run_miss, ↓run_none, run_nil, ab_get0, ab_getS, if_true, if_false, if_pos, true_and, and_true, List.append_nil, List.nil_append, List.cons_append, List.length_cons, List.length_nil, List.take_succ_cons, List.take_zero, List.drop_succ_cons, List.drop_zero, List.reverse_cons, List.reverse_nil, List.map_nil, List.map_cons, List.sum_nil, List.sum_cons, rcv_some, rcv_999, wide_I, wide_L, wide_D, wide_R, wide_X, eq_self_iff_true, ite_true, ite_false, ↓reduceIte, Nat.reduceEqDiff, Nat.reduceLeDiff, Nat.reduceLT, Nat.reduceAdd, Nat.reduceMul, Nat.reduceBEq, decide_true, decide_false, and_self, or_self, or_true, true_or, false_or, or_false, and_false, false_and, not_false_eq_true, not_true_eq_false, Nat.zero_le, Nat.le_refl, Nat.add_eq_zero_iff, Nat.succ_ne_self, ↓s_const, ↓s_iload, ↓s_lload, ↓s_dload, ↓s_aload, ↓s_istore, ↓s_lstore, ↓s_dstore, ↓s_astore, ↓s_iinc, ↓s_bin, ↓s_div, ↓s_binL, ↓s_lcmp, ↓s_i2l, ↓s_i2d, ↓s_ddiv, ↓s_dcmpl, ↓s_goto, ↓s_ifeq, ↓s_iflt, ↓s_ifgt, ↓s_cmpeq, ↓s_cmplt, ↓s_cmpgt, ↓s_ifnull, ↓s_aeq, ↓s_pop, ↓s_dup, ↓s_dup2, ↓s_dupx1, ↓s_tab, ↓s_getI, ↓s_getR, ↓s_putI, ↓s_putZ, ↓s_putR, ↓s_ald, ↓s_ast, ↓s_zast, ↓s_lald, ↓s_last, ↓s_dald, ↓s_dast, ↓s_aald, ↓s_aast, ↓s_alen, ↓s_new, ↓s_newa, ↓s_multi, ↓s_cast, ↓s_getE, ↓s_obj, ↓s_mmin, ↓s_mmax, ↓s_hd, ↓s_call, ↓s_throw, ↓s_ret, ↓s_retL, ↓s_retD, ↓s_retA, ↓s_retV, mi_wI, mr_wI, mn_wI, mc_wI, sI_wI, u3_ap, mi_sI, mi_sR, mi_sL, mi_sD, mi_al, mi_bp, mr_sI, mr_sR, mr_sL, mr_sD, mr_al, mr_bp, ml_sI, ml_sR, ml_sL, ml_sD, ml_al, ml_bp, md_sI, md_sR, md_sL, md_sD, md_al, md_bp, mn_sI, mn_sR, mn_sL, mn_sD, mn_al, mn_bp, mc_sI, mc_sR, mc_sL, mc_sD, mc_al, mc_bp, mnc_sI, mnc_sR, mnc_sL, mnc_sD, mnc_al, mnc_bp, mns_sI, mns_sR, mns_sL, mns_sD, mns_al, mns_bp, SK_0, SK_1, SK_2, SK_3, SK_4, SK_5, SK_6, SK_7, SK_8, SK_9, SK_10, SK_11, SK_12, SK_13, SK_14, SK_15, SK_16, SK_17, SK_18, SK_19, SK_20, SK_21, SK_22, SK_23, SK_24, SK_25, SK_26, SK_27, SK_28, SK_29, SK_30, SK_31, SK_32, SK_33, SK_34, SK_35, SK_36, SK_37, SK_38, SK_39, SK_40, SK_41, SK_42, SK_43, SK_44, SK_45, SK_46, SK_47, SK_48, SK_49, SK_50, SK_51, SK_52, SK_53, SK_54, SK_55, SK_56, SK_57, SK_58, SK_59, SK_60, SK_61, SK_62, SK_63, SK_64, SK_65, st1_0, st1_1, st1_2, st1_3, st1_4, st1_5, st1_6, st1_7, st1_8, st2_0, st2_1, st2_2, st2_3, st2_4, st2_5, st2_6, st2_7, clr_I, clr_R, clr_X, clr_L, clr_D, clr_N]
  rw [if_neg z7]
  have h9 : ∀ (i : Nat), i < np (rc m) → inb (rc m 7 0 i) 10 := h2.1.2.2.2.2.2
  have hs10 : inb (rc m 7 0 p.toNatClampNeg + 1) 10 := by
    obtain ⟨e, hl⟩ := inb_eq (h9 _ hi)
    have hne : (rc m 7 0 p.toNatClampNeg).toNatClampNeg ≠ 9 := fun z => z3 (by rw [e, z]; rfl)
    rw [e, nN_succ, inb_nN (by omega)]; omega
  obtain ⟨c1, c2, c3, c4, c5, c6⟩ := hW.1.2.2.2.2.2.1 p.toNatClampNeg (by omega)
  have r147 : ∀ (K : ab_K) (R : ab_R → Prop), Closed (T_X9_give SP_X9_isNoPerson SP_X9_start SP_X9_isDead SP_Jx4a65c_get_915e3 SP_X9_refuse SP_X9_isUnbroken SP_X9_payUp) R K → K 147 [some (vA 62 0), some (vI p), some (vA 48 p.toNatClampNeg), some (vI (rc m 7 0 p.toNatClampNeg + 1))] [] M → K 0 [some (vA 62 0), some (vI p), none, none] [] m := by
    intro K R hK hk
    by_cases z8 : rc m 7 0 p.toNatClampNeg + 1 < 7
    · refine run_sound hK mt_X9_give (((T_X9_give SP_X9_isNoPerson SP_X9_start SP_X9_isDead SP_Jx4a65c_get_915e3 SP_X9_refuse SP_X9_isUnbroken SP_X9_payUp).drop 0).take 73) (fun x hx => List.mem_of_mem_drop (List.mem_of_mem_take hx)) _ _ _ _ ?_
      simp only [T_X9_give, List.take_succ_cons, List.take_zero, List.drop_succ_cons, List.drop_zero, nP h1.1 y1, bnt, bI_f, eM, d1, b1, gp, q7, z3, q5, z4, rf_0 hT, d2, gt, z6, z8, i10, Bool.false_eq_true, Bool.true_eq_false, Bool.not_true, Bool.not_false, ↓run_hit, ↓run_miss, ↓run_none, run_nil, ab_get0, ab_getS, if_true, if_false, if_pos, true_and, and_true, List.append_nil, List.nil_append, List.cons_append, List.length_cons, List.length_nil, List.take_succ_cons, List.take_zero, List.drop_succ_cons, List.drop_zero, List.reverse_cons, List.reverse_nil, List.map_nil, List.map_cons, List.sum_nil, List.sum_cons, rcv_some, rcv_999, wide_I, wide_L, wide_D, wide_R, wide_X, eq_self_iff_true, ite_true, ite_false, ↓reduceIte, Nat.reduceEqDiff, Nat.reduceLeDiff, Nat.reduceLT, Nat.reduceAdd, Nat.reduceMul, Nat.reduceBEq, decide_true, decide_false, and_self, or_self, or_true, true_or, false_or, or_false, and_false, false_and, not_false_eq_true, not_true_eq_false, Nat.zero_le, Nat.le_refl, Nat.add_eq_zero_iff, Nat.succ_ne_self, ↓s_const, ↓s_iload, ↓s_lload, ↓s_dload, ↓s_aload, ↓s_istore, ↓s_lstore, ↓s_dstore, ↓s_astore, ↓s_iinc, ↓s_bin, ↓s_div, ↓s_binL, ↓s_lcmp, ↓s_i2l, ↓s_i2d, ↓s_ddiv, ↓s_dcmpl, ↓s_goto, ↓s_ifeq, ↓s_iflt, ↓s_ifgt, ↓s_cmpeq, ↓s_cmplt, ↓s_cmpgt, ↓s_ifnull, ↓s_aeq, ↓s_pop, ↓s_dup, ↓s_dup2, ↓s_dupx1, ↓s_tab, ↓s_getI, ↓s_getR, ↓s_putI, ↓s_putZ, ↓s_putR, ↓s_ald, ↓s_ast, ↓s_zast, ↓s_lald, ↓s_last, ↓s_dald, ↓s_dast, ↓s_aald, ↓s_aast, ↓s_alen, ↓s_new, ↓s_newa, ↓s_multi, ↓s_cast, ↓s_getE, ↓s_obj, ↓s_mmin, ↓s_mmax, ↓s_hd, ↓s_call, ↓s_throw, ↓s_ret, ↓s_retL, ↓s_retD, ↓s_retA, ↓s_retV, mi_wI, mr_wI, mn_wI, mc_wI, sI_wI, u3_ap, mi_sI, mi_sR, mi_sL, mi_sD, mi_al, mi_bp, mr_sI, mr_sR, mr_sL, mr_sD, mr_al, mr_bp, ml_sI, ml_sR, ml_sL, ml_sD, ml_al, ml_bp, md_sI, md_sR, md_sL, md_sD, md_al, md_bp, mn_sI, mn_sR, mn_sL, mn_sD, mn_al, mn_bp, mc_sI, mc_sR, mc_sL, mc_sD, mc_al, mc_bp, mnc_sI, mnc_sR, mnc_sL, mnc_sD, mnc_al, mnc_bp, mns_sI, mns_sR, mns_sL, mns_sD, mns_al, mns_bp, SK_0, SK_1, SK_2, SK_3, SK_4, SK_5, SK_6, SK_7, SK_8, SK_9, SK_10, SK_11, SK_12, SK_13, SK_14, SK_15, SK_16, SK_17, SK_18, SK_19, SK_20, SK_21, SK_22, SK_23, SK_24, SK_25, SK_26, SK_27, SK_28, SK_29, SK_30, SK_31, SK_32, SK_33, SK_34, SK_35, SK_36, SK_37, SK_38, SK_39, SK_40, SK_41, SK_42, SK_43, SK_44, SK_45, SK_46, SK_47, SK_48, SK_49, SK_50, SK_51, SK_52, SK_53, SK_54, SK_55, SK_56, SK_57, SK_58, SK_59, SK_60, SK_61, SK_62, SK_63, SK_64, SK_65, st1_0, st1_1, st1_2, st1_3, st1_4, st1_5, st1_6, st1_7, st1_8, st2_0, st2_1, st2_2, st2_3, st2_4, st2_5, st2_6, st2_7, clr_I, clr_R, clr_X, clr_L, clr_D, clr_N]
      exact hk
    · have z9 : cUnb (rc m) 12 (rc m 5 0 p.toNatClampNeg) = true := by
        cases h : cUnb (rc m) 12 (rc m 5 0 p.toNatClampNeg) with
        | true => rfl
        | false => exact absurd ⟨z8, h⟩ z7
      rw [z9] at u1
      refine run_sound hK mt_X9_give (((T_X9_give SP_X9_isNoPerson SP_X9_start SP_X9_isDead SP_Jx4a65c_get_915e3 SP_X9_refuse SP_X9_isUnbroken SP_X9_payUp).drop 0).take 73) (fun x hx => List.mem_of_mem_drop (List.mem_of_mem_take hx)) _ _ _ _ ?_
      simp only [T_X9_give, List.take_succ_cons, List.take_zero, List.drop_succ_cons, List.drop_zero, nP h1.1 y1, bnt, bI_f, eM, d1, b1, gp, q7, z3, q5, z4, rf_0 hT, d2, gt, z6, z8, u1, bI_t, i10, Bool.false_eq_true, Bool.true_eq_false, Bool.not_true, Bool.not_false, ↓run_hit, ↓run_miss, ↓run_none, run_nil, ab_get0, ab_getS, if_true, if_false, if_pos, true_and, and_true, List.append_nil, List.nil_append, List.cons_append, List.length_cons, List.length_nil, List.take_succ_cons, List.take_zero, List.drop_succ_cons, List.drop_zero, List.reverse_cons, List.reverse_nil, List.map_nil, List.map_cons, List.sum_nil, List.sum_cons, rcv_some, rcv_999, wide_I, wide_L, wide_D, wide_R, wide_X, eq_self_iff_true, ite_true, ite_false, ↓reduceIte, Nat.reduceEqDiff, Nat.reduceLeDiff, Nat.reduceLT, Nat.reduceAdd, Nat.reduceMul, Nat.reduceBEq, decide_true, decide_false, and_self, or_self, or_true, true_or, false_or, or_false, and_false, false_and, not_false_eq_true, not_true_eq_false, Nat.zero_le, Nat.le_refl, Nat.add_eq_zero_iff, Nat.succ_ne_self, ↓s_const, ↓s_iload, ↓s_lload, ↓s_dload, ↓s_aload, ↓s_istore, ↓s_lstore, ↓s_dstore, ↓s_astore, ↓s_iinc, ↓s_bin, ↓s_div, ↓s_binL, ↓s_lcmp, ↓s_i2l, ↓s_i2d, ↓s_ddiv, ↓s_dcmpl, ↓s_goto, ↓s_ifeq, ↓s_iflt, ↓s_ifgt, ↓s_cmpeq, ↓s_cmplt, ↓s_cmpgt, ↓s_ifnull, ↓s_aeq, ↓s_pop, ↓s_dup, ↓s_dup2, ↓s_dupx1, ↓s_tab, ↓s_getI, ↓s_getR, ↓s_putI, ↓s_putZ, ↓s_putR, ↓s_ald, ↓s_ast, ↓s_zast, ↓s_lald, ↓s_last, ↓s_dald, ↓s_dast, ↓s_aald, ↓s_aast, ↓s_alen, ↓s_new, ↓s_newa, ↓s_multi, ↓s_cast, ↓s_getE, ↓s_obj, ↓s_mmin, ↓s_mmax, ↓s_hd, ↓s_call, ↓s_throw, ↓s_ret, ↓s_retL, ↓s_retD, ↓s_retA, ↓s_retV, mi_wI, mr_wI, mn_wI, mc_wI, sI_wI, u3_ap, mi_sI, mi_sR, mi_sL, mi_sD, mi_al, mi_bp, mr_sI, mr_sR, mr_sL, mr_sD, mr_al, mr_bp, ml_sI, ml_sR, ml_sL, ml_sD, ml_al, ml_bp, md_sI, md_sR, md_sL, md_sD, md_al, md_bp, mn_sI, mn_sR, mn_sL, mn_sD, mn_al, mn_bp, mc_sI, mc_sR, mc_sL, mc_sD, mc_al, mc_bp, mnc_sI, mnc_sR, mnc_sL, mnc_sD, mnc_al, mnc_bp, mns_sI, mns_sR, mns_sL, mns_sD, mns_al, mns_bp, SK_0, SK_1, SK_2, SK_3, SK_4, SK_5, SK_6, SK_7, SK_8, SK_9, SK_10, SK_11, SK_12, SK_13, SK_14, SK_15, SK_16, SK_17, SK_18, SK_19, SK_20, SK_21, SK_22, SK_23, SK_24, SK_25, SK_26, SK_27, SK_28, SK_29, SK_30, SK_31, SK_32, SK_33, SK_34, SK_35, SK_36, SK_37, SK_38, SK_39, SK_40, SK_41, SK_42, SK_43, SK_44, SK_45, SK_46, SK_47, SK_48, SK_49, SK_50, SK_51, SK_52, SK_53, SK_54, SK_55, SK_56, SK_57, SK_58, SK_59, SK_60, SK_61, SK_62, SK_63, SK_64, SK_65, st1_0, st1_1, st1_2, st1_3, st1_4, st1_5, st1_6, st1_7, st1_8, st2_0, st2_1, st2_2, st2_3, st2_4, st2_5, st2_6, st2_7, clr_I, clr_R, clr_X, clr_L, clr_D, clr_N]
      exact hk
  by_cases z10 : rc m 8 0 p.toNatClampNeg < 5 * (rc m 7 0 p.toNatClampNeg + 1)
  · rw [if_pos z10]
    refine PPfin _ _ (PP_0 hM) (by show 2 ≤ 4; decide) (fun K hK => r147 K _ hK ?_)
    refine run_sound hK mt_X9_give (((T_X9_give SP_X9_isNoPerson SP_X9_start SP_X9_isDead SP_Jx4a65c_get_915e3 SP_X9_refuse SP_X9_isUnbroken SP_X9_payUp).drop 73).take 46) (fun x hx => List.mem_of_mem_drop (List.mem_of_mem_take hx)) _ _ _ _ ?_
    simp only [T_X9_give, List.take_succ_cons, List.take_zero, List.drop_succ_cons, List.drop_zero, q8, z10, i10, Bool.false_eq_true, Bool.true_eq_false, Bool.not_true, Bool.not_false, ↓run_hit, ↓run_miss, ↓run_none, run_nil, ab_get0, ab_getS, if_true, if_false, if_pos, true_and, and_true, List.append_nil, List.nil_append, List.cons_append, List.length_cons, List.length_nil, List.take_succ_cons, List.take_zero, List.drop_succ_cons, List.drop_zero, List.reverse_cons, List.reverse_nil, List.map_nil, List.map_cons, List.sum_nil, List.sum_cons, rcv_some, rcv_999, wide_I, wide_L, wide_D, wide_R, wide_X, eq_self_iff_true, ite_true, ite_false, ↓reduceIte, Nat.reduceEqDiff, Nat.reduceLeDiff, Nat.reduceLT, Nat.reduceAdd, Nat.reduceMul, Nat.reduceBEq, decide_true, decide_false, and_self, or_self, or_true, true_or, false_or, or_false, and_false, false_and, not_false_eq_true, not_true_eq_false, Nat.zero_le, Nat.le_refl, Nat.add_eq_zero_iff, Nat.succ_ne_self, ↓s_const, ↓s_iload, ↓s_lload, ↓s_dload, ↓s_aload, ↓s_istore, ↓s_lstore, ↓s_dstore, ↓s_astore, ↓s_iinc, ↓s_bin, ↓s_div, ↓s_binL, ↓s_lcmp, ↓s_i2l, ↓s_i2d, ↓s_ddiv, ↓s_dcmpl, ↓s_goto, ↓s_ifeq, ↓s_iflt, ↓s_ifgt, ↓s_cmpeq, ↓s_cmplt, ↓s_cmpgt, ↓s_ifnull, ↓s_aeq, ↓s_pop, ↓s_dup, ↓s_dup2, ↓s_dupx1, ↓s_tab, ↓s_getI, ↓s_getR, ↓s_putI, ↓s_putZ, ↓s_putR, ↓s_ald, ↓s_ast, ↓s_zast, ↓s_lald, ↓s_last, ↓s_dald, ↓s_dast, ↓s_aald, ↓s_aast, ↓s_alen, ↓s_new, ↓s_newa, ↓s_multi, ↓s_cast, ↓s_getE, ↓s_obj, ↓s_mmin, ↓s_mmax, ↓s_hd, ↓s_call, ↓s_throw, ↓s_ret, ↓s_retL, ↓s_retD, ↓s_retA, ↓s_retV, mi_wI, mr_wI, mn_wI, mc_wI, sI_wI, u3_ap, mi_sI, mi_sR, mi_sL, mi_sD, mi_al, mi_bp, mr_sI, mr_sR, mr_sL, mr_sD, mr_al, mr_bp, ml_sI, ml_sR, ml_sL, ml_sD, ml_al, ml_bp, md_sI, md_sR, md_sL, md_sD, md_al, md_bp, mn_sI, mn_sR, mn_sL, mn_sD, mn_al, mn_bp, mc_sI, mc_sR, mc_sL, mc_sD, mc_al, mc_bp, mnc_sI, mnc_sR, mnc_sL, mnc_sD, mnc_al, mnc_bp, mns_sI, mns_sR, mns_sL, mns_sD, mns_al, mns_bp, SK_0, SK_1, SK_2, SK_3, SK_4, SK_5, SK_6, SK_7, SK_8, SK_9, SK_10, SK_11, SK_12, SK_13, SK_14, SK_15, SK_16, SK_17, SK_18, SK_19, SK_20, SK_21, SK_22, SK_23, SK_24, SK_25, SK_26, SK_27, SK_28, SK_29, SK_30, SK_31, SK_32, SK_33, SK_34, SK_35, SK_36, SK_37, SK_38, SK_39, SK_40, SK_41, SK_42, SK_43, SK_44, SK_45, SK_46, SK_47, SK_48, SK_49, SK_50, SK_51, SK_52, SK_53, SK_54, SK_55, SK_56, SK_57, SK_58, SK_59, SK_60, SK_61, SK_62, SK_63, SK_64, SK_65, st1_0, st1_1, st1_2, st1_3, st1_4, st1_5, st1_6, st1_7, st1_8, st2_0, st2_1, st2_2, st2_3, st2_4, st2_5, st2_6, st2_7, clr_I, clr_R, clr_X, clr_L, clr_D, clr_N]
  rw [if_neg z10]
  -- the fee
  have hW2 : RW (sI M 48 p.toNatClampNeg 3 (rc m 8 0 p.toNatClampNeg - 5 * (rc m 7 0 p.toNatClampNeg + 1))) := RW_sI hW rfl
  have hR2 : rc (sI M 48 p.toNatClampNeg 3 (rc m 8 0 p.toNatClampNeg - 5 * (rc m 7 0 p.toNatClampNeg + 1))) = u3 (rc m) 8 0 p.toNatClampNeg (rc m 8 0 p.toNatClampNeg - 5 * (rc m 7 0 p.toNatClampNeg + 1)) := by rw [rc_sI (s := 8) (i := 0) (k := p.toNatClampNeg) rfl, hR]
  have hG2 : RG (u3 (rc m) 8 0 p.toNatClampNeg (rc m 8 0 p.toNatClampNeg - 5 * (rc m 7 0 p.toNatClampNeg + 1))) := RG_u3 h2 rfl
  have hF2 : FR m (sI M 48 p.toNatClampNeg 3 (rc m 8 0 p.toNatClampNeg - 5 * (rc m 7 0 p.toNatClampNeg + 1))) 0 0 := hF.trans (FR.oI rfl)
  have hn2 : np (u3 (rc m) 8 0 p.toNatClampNeg (rc m 8 0 p.toNatClampNeg - 5 * (rc m 7 0 p.toNatClampNeg + 1))) = np (rc m) := congrArg Int32.toNatClampNeg (by rw [u3_ap, if_neg (fun z => absurd z.1 (by decide))])
  have f1 : ∀ i k, ¬ k = 3 → mi (sI M 48 p.toNatClampNeg 3 (rc m 8 0 p.toNatClampNeg - 5 * (rc m 7 0 p.toNatClampNeg + 1))) 48 i k = mi M 48 i k := fun i k hk => by rw [mi_sI, u3_ap, if_neg (fun z => hk z.2.2)]
  have f2 : ∀ k, mi (sI M 48 p.toNatClampNeg 3 (rc m 8 0 p.toNatClampNeg - 5 * (rc m 7 0 p.toNatClampNeg + 1))) 62 0 k = mi M 62 0 k := fun k => by rw [mi_sI, u3_ap, if_neg (fun z => absurd z.1 (by decide))]
  have f3 : mr (sI M 48 p.toNatClampNeg 3 (rc m 8 0 p.toNatClampNeg - 5 * (rc m 7 0 p.toNatClampNeg + 1))) = mr M := rfl
  have f4 : mn (sI M 48 p.toNatClampNeg 3 (rc m 8 0 p.toNatClampNeg - 5 * (rc m 7 0 p.toNatClampNeg + 1))) = mn M := rfl
  generalize hm2 : sI M 48 p.toNatClampNeg 3 (rc m 8 0 p.toNatClampNeg - 5 * (rc m 7 0 p.toNatClampNeg + 1)) = m2 at *
  have py := e_X9_payUp (m := m2) (f := 5 * (rc m 7 0 p.toNatClampNeg + 1)) (p := rc m 5 0 p.toNatClampNeg) hW2 (by rw [hR2]; exact hG2.1) (by rw [hR2]; exact hG2.2.1) (Or.inr (by rw [hR2, hn2]; exact htn))
  have sk := mPay_k (c := rc m2) (m := m2) 12 (rc m 5 0 p.toNatClampNeg) (5 * (rc m 7 0 p.toNatClampNeg + 1)) m2 SI.refl
  have rk := rc_mPay (rc m2) 12 (rc m 5 0 p.toNatClampNeg) (5 * (rc m 7 0 p.toNatClampNeg + 1)) m2
  generalize mPay (rc m2) 12 (rc m 5 0 p.toNatClampNeg) (5 * (rc m 7 0 p.toNatClampNeg + 1)) m2 = M2 at *
  have w5 : ∀ i, mi M2 48 i 0 = rc m 5 0 i := fun i => (sk.2 48 i 0 rfl).trans ((f1 i 0 (by decide)).trans (q5 i))
  have w62 : ∀ k, ¬ k = 9 → mi M2 62 0 k = mi M 62 0 k := fun k hk => (sk.2 62 0 k (by
    cases h : xPay 62 k with
    | false => rfl
    | true =>
      simp only [xPay, xo, List.any_cons, List.any_nil, Bool.or_false, Bool.or_eq_true, Bool.and_eq_true, beq_iff_eq] at h
      omega)).trans (f2 k)
  have q61 : mi M 62 0 5 = rc m 61 0 6 := by rw [← hR]; rfl
  have q67 : mi M 62 0 7 = rc m 61 0 7 := by rw [← hR]; rfl
  have wr : mr M2 = mr M := sk.smr.trans f3
  have wn : mn M2 = mn M := sk.smn.trans f4
  have hW3 : RW M2 := sk.sRW xPay_O hW2
  have hF3 : FR m M2 0 0 := hF2.trans (sk.sFR xPay_O)
  have hR3 : rc M2 = rPay (u3 (rc m) 8 0 p.toNatClampNeg (rc m 8 0 p.toNatClampNeg - 5 * (rc m 7 0 p.toNatClampNeg + 1))) 12 (rc m 5 0 p.toNatClampNeg) (5 * (rc m 7 0 p.toNatClampNeg + 1)) (u3 (rc m) 8 0 p.toNatClampNeg (rc m 8 0 p.toNatClampNeg - 5 * (rc m 7 0 p.toNatClampNeg + 1))) := by rw [rk, hR2]
  refine PPfin (rc m 7 0 p.toNatClampNeg + 1) (sI (sI (sI (sI M2 48 p.toNatClampNeg 2 (rc m 7 0 p.toNatClampNeg + 1)) 41 p.toNatClampNeg (rc m 7 0 p.toNatClampNeg + 1).toNatClampNeg (rc m 5 0 p.toNatClampNeg)) 42 p.toNatClampNeg (rc m 7 0 p.toNatClampNeg + 1).toNatClampNeg (rc m 61 0 6)) 62 0 7 (rc m 61 0 7 + 1)) ⟨⟨?_, ?_⟩, ?_, rfl, ?_⟩ (by show 2 ≤ 4; decide) (fun K hK => r147 K _ hK ?_)
  · exact hF3.trans ((FR.oI rfl).trans ((FR.oI rfl).trans ((FR.oI rfl).trans (FR.oI rfl))))
  · exact RW_sI (RW_sI (RW_sI (RW_sI hW3 rfl) (nsz_of rfl)) (nsz_of rfl)) rfl
  · rw [mi_sI, u3_ap, if_neg (fun z => absurd z.2.2 (by decide)), mi_sI, u3_ap, if_neg (fun z => absurd z.1 (by decide)), mi_sI, u3_ap, if_neg (fun z => absurd z.1 (by decide)), mi_sI, u3_ap, if_neg (fun z => absurd z.1 (by decide)), w62 0 (by decide)]
    exact hT
  · rw [rc_sI (s := 61) (i := 0) (k := 7) rfl, rc_sI (s := 17) (i := p.toNatClampNeg) (k := (rc m 7 0 p.toNatClampNeg + 1).toNatClampNeg) rfl, rc_sI (s := 15) (i := p.toNatClampNeg) (k := (rc m 7 0 p.toNatClampNeg + 1).toNatClampNeg) rfl, rc_sI (s := 7) (i := 0) (k := p.toNatClampNeg) rfl, hR3]
    rfl
  · refine run_sound hK mt_X9_give (((T_X9_give SP_X9_isNoPerson SP_X9_start SP_X9_isDead SP_Jx4a65c_get_915e3 SP_X9_refuse SP_X9_isUnbroken SP_X9_payUp).drop 73).take 46) (fun x hx => List.mem_of_mem_drop (List.mem_of_mem_take hx)) _ _ _ _ ?_
    simp only [T_X9_give, List.take_succ_cons, List.take_zero, List.drop_succ_cons, List.drop_zero, q8, z10, hm2, f1 _ 0 (by decide), q5, py, w5, wr, wn, c1, c2, c3, c4, hs10, w62 5 (by decide), w62 7 (by decide), q61, q67, i10, Bool.false_eq_true, Bool.true_eq_false, Bool.not_true, Bool.not_false, ↓run_hit, ↓run_miss, ↓run_none, run_nil, ab_get0, ab_getS, if_true, if_false, if_pos, true_and, and_true, List.append_nil, List.nil_append, List.cons_append, List.length_cons, List.length_nil, List.take_succ_cons, List.take_zero, List.drop_succ_cons, List.drop_zero, List.reverse_cons, List.reverse_nil, List.map_nil, List.map_cons, List.sum_nil, List.sum_cons, rcv_some, rcv_999, wide_I, wide_L, wide_D, wide_R, wide_X, eq_self_iff_true, ite_true, ite_false, ↓reduceIte, Nat.reduceEqDiff, Nat.reduceLeDiff, Nat.reduceLT, Nat.reduceAdd, Nat.reduceMul, Nat.reduceBEq, decide_true, decide_false, and_self, or_self, or_true, true_or, false_or, or_false, and_false, false_and, not_false_eq_true, not_true_eq_false, Nat.zero_le, Nat.le_refl, Nat.add_eq_zero_iff, Nat.succ_ne_self, ↓s_const, ↓s_iload, ↓s_lload, ↓s_dload, ↓s_aload, ↓s_istore, ↓s_lstore, ↓s_dstore, ↓s_astore, ↓s_iinc, ↓s_bin, ↓s_div, ↓s_binL, ↓s_lcmp, ↓s_i2l, ↓s_i2d, ↓s_ddiv, ↓s_dcmpl, ↓s_goto, ↓s_ifeq, ↓s_iflt, ↓s_ifgt, ↓s_cmpeq, ↓s_cmplt, ↓s_cmpgt, ↓s_ifnull, ↓s_aeq, ↓s_pop, ↓s_dup, ↓s_dup2, ↓s_dupx1, ↓s_tab, ↓s_getI, ↓s_getR, ↓s_putI, ↓s_putZ, ↓s_putR, ↓s_ald, ↓s_ast, ↓s_zast, ↓s_lald, ↓s_last, ↓s_dald, ↓s_dast, ↓s_aald, ↓s_aast, ↓s_alen, ↓s_new, ↓s_newa, ↓s_multi, ↓s_cast, ↓s_getE, ↓s_obj, ↓s_mmin, ↓s_mmax, ↓s_hd, ↓s_call, ↓s_throw, ↓s_ret, ↓s_retL, ↓s_retD, ↓s_retA, ↓s_retV, mi_wI, mr_wI, mn_wI, mc_wI, sI_wI, u3_ap, mi_sI, mi_sR, mi_sL, mi_sD, mi_al, mi_bp, mr_sI, mr_sR, mr_sL, mr_sD, mr_al, mr_bp, ml_sI, ml_sR, ml_sL, ml_sD, ml_al, ml_bp, md_sI, md_sR, md_sL, md_sD, md_al, md_bp, mn_sI, mn_sR, mn_sL, mn_sD, mn_al, mn_bp, mc_sI, mc_sR, mc_sL, mc_sD, mc_al, mc_bp, mnc_sI, mnc_sR, mnc_sL, mnc_sD, mnc_al, mnc_bp, mns_sI, mns_sR, mns_sL, mns_sD, mns_al, mns_bp, SK_0, SK_1, SK_2, SK_3, SK_4, SK_5, SK_6, SK_7, SK_8, SK_9, SK_10, SK_11, SK_12, SK_13, SK_14, SK_15, SK_16, SK_17, SK_18, SK_19, SK_20, SK_21, SK_22, SK_23, SK_24, SK_25, SK_26, SK_27, SK_28, SK_29, SK_30, SK_31, SK_32, SK_33, SK_34, SK_35, SK_36, SK_37, SK_38, SK_39, SK_40, SK_41, SK_42, SK_43, SK_44, SK_45, SK_46, SK_47, SK_48, SK_49, SK_50, SK_51, SK_52, SK_53, SK_54, SK_55, SK_56, SK_57, SK_58, SK_59, SK_60, SK_61, SK_62, SK_63, SK_64, SK_65, st1_0, st1_1, st1_2, st1_3, st1_4, st1_5, st1_6, st1_7, st1_8, st2_0, st2_1, st2_2, st2_3, st2_4, st2_5, st2_6, st2_7, clr_I, clr_R, clr_X, clr_L, clr_D, clr_N]
theorem e_X9_give {m : ab_M} {p : Int32} (h1 : RW m) (h2 : RG (rc m)) : ∃ (v : Int32) (m' : ab_M), SP_X9_give [vA 62 0, vI p] m = (okV (vI v) m' : ab_O) ∧ (PP m m' 0 0 v (rGive (rc m) p)) := by
  obtain ⟨r, h8, v, m', h7, h9⟩ := chs_ok (q_X9_give (m := m) (p := p) h1 h2)
  exact ⟨v, m', h8.trans h7.symm, h9⟩
theorem C_X9_give {l : Launch} {D : va_G} {cA : Nat → ClassId} {d : Nat} (hst : l.stackTraces = false) (hd : 6 ≤ d) : ∀ (as : List ab_V) (m : ab_M), Ctr l D cA d yX9_give (Cond.code yX9_give cX9_give 4 (some .int) :: TB) as m (SP_X9_give as m) := fun as m => ctr_chs (by decide +kernel) hst (by omega) (snd_X9_give (d' := 5) (hd9 := by omega) (hC_X9_isNoPerson := C_X9_isNoPerson hst (by omega)) (hC_X9_start := C_X9_start hst (by omega)) (hC_X9_isDead := C_X9_isDead hst (by omega)) (hC_Jx4a65c_get_915e3 := C_Jx4a65c_get_915e3 hst (by omega)) (hC_X9_refuse := C_X9_refuse hst (by omega)) (hC_X9_isUnbroken := C_X9_isUnbroken hst (by omega)) (hC_X9_payUp := C_X9_payUp hst (by omega)))
