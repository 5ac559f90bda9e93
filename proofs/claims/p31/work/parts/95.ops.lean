/-! a whole row changed; lessons, revocations -/
def wS (s : Nat) (f : Nat → Int32) (c : ab_C) : ab_C := fun a i q => if a = s ∧ i = 0 then f q else c a i q
theorem wS_at {s : Nat} {f : Nat → Int32} {c : ab_C} {q : Nat} : wS s f c s 0 q = f q := if_pos ⟨rfl, rfl⟩
theorem wS_ne {s : Nat} {f : Nat → Int32} {c : ab_C} {a i q : Nat} (h : a ≠ s) : wS s f c a i q = c a i q := if_neg (fun z => h z.1)
theorem EQ_w {c r : ab_C} {s : Nat} {f : Nat → Int32} (h : EQ c r) (hs : eqS s = true) (h7 : s = 7 → ∀ i k, i < np r → 1 ≤ k → k < 10 → ¬ f i < nN k → ¬ r 7 0 i < nN k) : EQ (wS s f c) (wS s f r) := by
  have hn := eqS_ne hs
  have n1 : np (wS s f r) = np r := congrArg Int32.toNatClampNeg (wS_ne (a := 35) (by omega))
  have n4 : nu (wS s f r) = nu r := congrArg Int32.toNatClampNeg (wS_ne (a := 38) (by omega))
  refine ⟨fun t ht => ?_, ⟨?_, ?_, ?_, ?_⟩, ⟨?_, ?_, ?_, ?_, ?_⟩, fun a k ha h1 h9 hk => ?_, fun u k hu hk => ?_⟩
  · funext k
    by_cases e : t = s
    · subst e; rw [wS_at, wS_at]
    · rw [wS_ne e, wS_ne e]; exact congrFun (h.st t ht) k
  all_goals first
    | (rw [wS_ne (by omega), wS_ne (by omega)]; first | exact h.c35 | exact h.c36 | exact h.c37 | exact h.c38 | exact h.d6 | exact h.d7 | exact h.d8 | exact h.d9 | exact h.d10)
    | skip
  · rw [n1] at ha
    rw [wS_ne (by omega), wS_ne (by omega), wS_ne (by omega), wS_ne (by omega)]
    refine h.held ha h1 h9 ?_
    by_cases e : s = 7
    · subst e
      rw [wS_at] at hk
      exact h7 rfl a k ha h1 h9 hk
    · rw [wS_ne (fun z => e z.symm)] at hk
      exact hk
  · rw [n4] at hu
    rw [n1, wS_ne (by omega), wS_ne (by omega)]
    exact h.seen hu hk
theorem INV_w {n : Nat} {r : ab_C} {s : Nat} {f : Nat → Int32} (h : INV n r) (hs : eqS s = true) (h12 : s ≠ 12) (hG : RG (wS s f r)) (hz : ∀ q, ¬ rngS r s q → f q = 0) (hb : s = 13 ∨ s = 24 ∨ s = 25 ∨ s = 32 → ∀ q, f q = 0 ∨ f q = 1) (hk : s ≠ 29) : INV n (wS s f r) := by
  have hn := eqS_ne hs
  have n1 : np (wS s f r) = np r := congrArg Int32.toNatClampNeg (wS_ne (a := 35) (by omega))
  have n2 : nh (wS s f r) = nh r := congrArg Int32.toNatClampNeg (wS_ne (a := 36) (by omega))
  have n3 : nsc (wS s f r) = nsc r := congrArg Int32.toNatClampNeg (wS_ne (a := 37) (by omega))
  have n4 : nu (wS s f r) = nu r := congrArg Int32.toNatClampNeg (wS_ne (a := 38) (by omega))
  obtain ⟨z1, z2, z3, z4⟩ := h.z0
  refine ⟨⟨?_, hG, ⟨fun t j a b d => ?_, fun t j a b d => ?_, fun t j a b d => ?_, fun t j a b d => ?_⟩, ?_⟩, fun t ht j => ?_, ?_, ?_, fun j => ?_⟩
  · unfold CN
    rw [n1, n2, n3, n4, wS_ne (by omega), wS_ne (by omega), wS_ne (by omega), wS_ne (by omega)]
    exact h.cn
  · rw [n1] at d
    by_cases e : t = s
    · subst e; rw [wS_at]; exact hz j (fun w => by have := w.1 a b; omega)
    · rw [wS_ne e]; exact z1 t j a b d
  · rw [n2] at d
    by_cases e : t = s
    · subst e; rw [wS_at]; exact hz j (fun w => by have := w.2.1 (by omega); omega)
    · rw [wS_ne e]; exact z2 t j a b d
  · rw [n3] at d
    by_cases e : t = s
    · subst e; rw [wS_at]; exact hz j (fun w => by have := w.2.2.1 a b; omega)
    · rw [wS_ne e]; exact z3 t j a b d
  · rw [n4] at d
    by_cases e : t = s
    · subst e; rw [wS_at]; exact hz j (fun w => by have := w.2.2.2 a b; omega)
    · rw [wS_ne e]; exact z4 t j a b d
  · unfold FO
    rw [n1]
    simp only [wS_ne (Ne.symm h12)]
    exact h.fo
  · by_cases e : t = s
    · subst e; rw [wS_at]; exact hb ht j
    · rw [wS_ne e]; exact h.b01 t ht j
  · rw [n1, n2]; exact h.hz
  · unfold DY
    rw [wS_ne (by omega)]
    exact h.dy
  · rw [wS_ne (Ne.symm hk)]; exact h.rk j
theorem ST_w {n : Nat} {c r : ab_C} {s : Nat} {f : Nat → Int32} (h : ST n c r) (hs : eqS s = true) (h12 : s ≠ 12) (h7 : s = 7 → ∀ i k, i < np r → 1 ≤ k → k < 10 → ¬ f i < nN k → ¬ r 7 0 i < nN k) (hG : RG (wS s f r)) (hz : ∀ q, ¬ rngS r s q → f q = 0) (hb : s = 13 ∨ s = 24 ∨ s = 25 ∨ s = 32 → ∀ q, f q = 0 ∨ f q = 1) (hk : s ≠ 29) : ST n (wS s f c) (wS s f r) := by
  have hn := eqS_ne hs
  refine ⟨EQ_w h.1 hs h7, INV_w h.2.1 hs h12 hG hz hb hk, fun i hi => ?_, fun i hi => ?_⟩
  · rw [wS_ne (by omega)]; exact h.2.2.1 i hi
  · rw [wS_ne (by omega)]; exact h.2.2.2 i hi
theorem RG_w7 {c : ab_C} {f : Nat → Int32} (h : RG c) (hf : ∀ i, i < np c → inb (f i) 10) : RG (wS 7 f c) := by
  obtain ⟨⟨r1, r2, r3, r4, r5, r6⟩, hA, hQ⟩ := h
  exact ⟨⟨r1, r2, r3, r4, r5, hf⟩, hA, hQ⟩
theorem RG_w5 {c : ab_C} {f : Nat → Int32} (h : RG c) (hf : ∀ i, i < np c → f i = -1 ∨ inb (f i) (np c)) (hA : AC (wS 5 f c)) : RG (wS 5 f c) := by
  obtain ⟨⟨r1, r2, r3, r4, r5, r6⟩, -, hQ⟩ := h
  exact ⟨⟨hf, r2, r3, r4, r5, r6⟩, hA, hQ⟩
theorem rPay_at {c : ab_C} {s i q : Nat} (h8 : s ≠ 8) (h9 : ¬ (s = 61 ∧ q = 9)) : ∀ k one left (a : ab_C), rPay c k one left a s i q = a s i q := by
  intro k
  induction k with
  | zero => intro one left a; rfl
  | succ k ih =>
    intro one left a
    unfold rPay
    split
    · rfl
    · split
      · split
        · rw [ih, u3_ap, if_neg (fun z => h9 ⟨z.1, z.2.2⟩)]
        · exact ih _ _ _
      · rw [ih, u3_ap, if_neg (fun z => h8 z.1)]
def kG (c : ab_C) (p : Int32) : Int32 × Int32 × ab_C := if c 8 0 p.toNatClampNeg < 5 * (c 7 0 p.toNatClampNeg + 1) then (0, -4, c) else (0, c 7 0 p.toNatClampNeg + 1, cGive c p)
def kGive (c : ab_C) (p : Int32) : Int32 × Int32 × ab_C := if cHas c p = true then (if c 13 0 p.toNatClampNeg = 0 then (2, 0, c) else if c 7 0 p.toNatClampNeg < 9 then (if c 5 0 p.toNatClampNeg = -1 then (2, 0, c) else if c 13 0 (c 5 0 p.toNatClampNeg).toNatClampNeg = 0 then (0, -2, c) else if cHolds c (c 5 0 p.toNatClampNeg) (c 7 0 p.toNatClampNeg + 1) = true then (if c 7 0 p.toNatClampNeg + 1 < 7 then kG c p else if cUnb c 12 (c 5 0 p.toNatClampNeg) = true then kG c p else (0, -3, c)) else (0, -2, c)) else (2, 0, c)) else (1, 0, c)
theorem o_give {m : ab_M} {p : Int32} (h1 : CI m) (h2 : CV (mi m)) : SP_X6_give [vA 61 0, vI p] m = kout cd2 (kGive (mi m) p) m := by
  rw [e_X6_give h1 h2]
  simp only [kGive, kG, oGive, kout_i, kout_0, kout_e t10, kout_e t20, cd2_1, cd2_2]
  rfl
theorem give_ST {n : Nat} {c r : ab_C} (h : ST n c r) {p : Int32} (hp : inb p (np r)) (h7 : r 7 0 p.toNatClampNeg < 9) (h5 : ¬ r 5 0 p.toNatClampNeg = -1) : ST n (cGive c p) (rGiveX r p (r 7 0 p.toNatClampNeg + 1) (r 5 0 p.toNatClampNeg)) := by
  have hpl := (inb_eq hp).2
  have h12 := h.2.1.cn.1.2
  obtain ⟨q, hq, e7⟩ := nN_ex (h.2.1.rv.2.2.2.2.2 _ hpl)
  have hq9 : q < 9 := by
    rw [e7, show ((9 : Int32) = nN 9) from rfl, nN_lt (by omega) (by omega)] at h7
    exact h7
  have ht := (h.2.1.rv.1 _ hpl).resolve_left h5
  obtain ⟨rk, hrk⟩ := h.2.1.rg.2.1
  unfold cGive rGiveX
  rw [rI_s h 8 _ rfl, rI_s h 7 _ rfl, rI_s h 5 _ rfl]
  have s0 := ST_8 (v := r 8 0 p.toNatClampNeg - 5 * (r 7 0 p.toNatClampNeg + 1)) h hpl
  have e0 : ∀ s i k, s ≠ 8 → u3 r 8 0 p.toNatClampNeg (r 8 0 p.toNatClampNeg - 5 * (r 7 0 p.toNatClampNeg + 1)) s i k = r s i k := fun s i k hs => by rw [u3_ap, if_neg (fun z => hs z.1)]
  have s1 : ST n (cShareFee (u3 c 8 0 p.toNatClampNeg (r 8 0 p.toNatClampNeg - 5 * (r 7 0 p.toNatClampNeg + 1))) (r 5 0 p.toNatClampNeg) (5 * (r 7 0 p.toNatClampNeg + 1))) (rPay (u3 r 8 0 p.toNatClampNeg (r 8 0 p.toNatClampNeg - 5 * (r 7 0 p.toNatClampNeg + 1))) 12 (r 5 0 p.toNatClampNeg) (5 * (r 7 0 p.toNatClampNeg + 1)) (u3 r 8 0 p.toNatClampNeg (r 8 0 p.toNatClampNeg - 5 * (r 7 0 p.toNatClampNeg + 1)))) :=
    pay_ST s0.2.1.rv (rk := rk) (fun i hi hne => (hrk i hi).2 hne) 12 _ _ _ _ s0 rfl (fun _ => rfl) (fun _ => rfl) h5 ht (hrk _ (inb_eq ht).2).1
  have eB : ∀ s i k, s ≠ 8 → ¬ (s = 61 ∧ k = 9) → rPay (u3 r 8 0 p.toNatClampNeg (r 8 0 p.toNatClampNeg - 5 * (r 7 0 p.toNatClampNeg + 1))) 12 (r 5 0 p.toNatClampNeg) (5 * (r 7 0 p.toNatClampNeg + 1)) (u3 r 8 0 p.toNatClampNeg (r 8 0 p.toNatClampNeg - 5 * (r 7 0 p.toNatClampNeg + 1))) s i k = r s i k := fun s i k h8 h9 => (rPay_at h8 h9 _ _ _ _).trans (e0 s i k h8)
  generalize rPay (u3 r 8 0 p.toNatClampNeg (r 8 0 p.toNatClampNeg - 5 * (r 7 0 p.toNatClampNeg + 1))) 12 (r 5 0 p.toNatClampNeg) (5 * (r 7 0 p.toNatClampNeg + 1)) (u3 r 8 0 p.toNatClampNeg (r 8 0 p.toNatClampNeg - 5 * (r 7 0 p.toNatClampNeg + 1))) = B at *
  generalize cShareFee (u3 c 8 0 p.toNatClampNeg (r 8 0 p.toNatClampNeg - 5 * (r 7 0 p.toNatClampNeg + 1))) (r 5 0 p.toNatClampNeg) (5 * (r 7 0 p.toNatClampNeg + 1)) = A at *
  have e61 : A 61 0 6 = r 61 0 6 := s1.1.d6.trans (eB 61 0 6 (by decide) (by decide))
  have e617 : A 61 0 7 = r 61 0 7 := s1.1.d7.trans (eB 61 0 7 (by decide) (by decide))
  have eA7 : A 7 0 p.toNatClampNeg = nN q := by rw [rI_s s1 7 _ rfl, eB 7 0 _ (by decide) (by omega), e7]
  have eT : (nN q + 1).toNatClampNeg = q + 1 := by rw [nN_succ, nN_nat (by omega)]
  have hnpB : np B = np r := congrArg Int32.toNatClampNeg (eB 35 0 0 (by decide) (by decide))
  have s2 := ST_raise (p := p.toNatClampNeg) (k := q + 1) (t := r 5 0 p.toNatClampNeg) (d := r 61 0 6) s1 (by omega) ⟨by omega, by omega⟩ (fun z hz1 hz9 hzk => by
    rw [eB 7 0 _ (by decide) (by omega), e7, nN_lt (by omega) (by omega)]; omega)
  unfold cRaise
  rw [e61, eA7, e7, eT, nN_succ]
  have e8 : u3 (u3 (u3 A 7 0 p.toNatClampNeg (nN (q + 1))) 15 p.toNatClampNeg (q + 1) (r 5 0 p.toNatClampNeg)) 17 p.toNatClampNeg (q + 1) (r 61 0 6) 61 0 7 = r 61 0 7 := by
    rw [u3_ap, if_neg (by omega), u3_ap, if_neg (by omega), u3_ap, if_neg (by omega)]
    exact e617
  rw [e8]
  exact ST_61 s2 (by decide)
theorem g_give {n : Nat} {c r : ab_C} (h : ST n c r) (p : Int32) : AG (n + 1) (kGive c p) (rGive r p) := by
  refine AG_b (h.1.has h.2.1 p) (fun e => AG_p (live_p h) (fun _ => AG_no h t20) (fun _ => ?_)) (AG_no h t10)
  have hp := has_in h.2.1 e
  have hpl := (inb_eq hp).2
  obtain ⟨q, hq, e7⟩ := nN_ex (h.2.1.rv.2.2.2.2.2 _ hpl)
  have h9 : (c 7 0 p.toNatClampNeg < 9) ↔ ¬ r 7 0 p.toNatClampNeg = 9 := by
    rw [rI_s h 7 _ rfl, e7, show ((9 : Int32) = nN 9) from rfl, nN_lt (by omega) (by omega), nN_inj (by omega) (by omega)]
    omega
  refine AG_n h9 (fun z9 => AG_p (by rw [rI_s h 5 _ rfl]) (fun _ => AG_no h t20) (fun z5 => AG_p (by rw [rI_s h 5 _ rfl, rI_s h 13 _ rfl]) (fun _ => AG_ok h rfl) (fun _ => ?_))) (fun _ => AG_no h t20)
  have h7 : r 7 0 p.toNatClampNeg < 9 := by have := h9.mpr z9; rw [rI_s h 7 _ rfl] at this; exact this
  have hG : AG (n + 1) (kG c p) (if r 8 0 p.toNatClampNeg < 5 * (r 7 0 p.toNatClampNeg + 1) then (0, -4, r) else (0, r 7 0 p.toNatClampNeg + 1, rGiveX r p (r 7 0 p.toNatClampNeg + 1) (r 5 0 p.toNatClampNeg))) :=
    AG_p (by rw [rI_s h 8 _ rfl, rI_s h 7 _ rfl]) (fun _ => AG_ok h rfl) (fun _ => AG_do (congrArg (fun x => x + 1) (rI_s h 7 _ rfl)) (give_ST h hp h7 z5))
  refine AG_n (by rw [rI_s h 5 _ rfl, rI_s h 7 _ rfl]; exact cHolds_iff h) (fun _ => ?_) (fun _ => AG_ok h rfl)
  rw [rI_s h 7 _ rfl, rI_s h 5 _ rfl, cUnb_cg h.1]
  by_cases z1 : r 7 0 p.toNatClampNeg + 1 < 7
  · rw [if_pos z1, if_neg (show ¬ (¬ r 7 0 p.toNatClampNeg + 1 < 7 ∧ cUnb r 12 (r 5 0 p.toNatClampNeg) = false) from fun z => z.1 z1)]
    exact hG
  · rw [if_neg z1]
    cases z2 : cUnb r 12 (r 5 0 p.toNatClampNeg) with
    | true =>
      rw [if_pos rfl, if_neg (show ¬ (¬ r 7 0 p.toNatClampNeg + 1 < 7 ∧ true = false) from fun z => by cases z.2)]
      exact hG
    | false =>
      rw [if_neg (show ¬ false = true by decide), if_pos (show ¬ r 7 0 p.toNatClampNeg + 1 < 7 ∧ false = false from ⟨z1, rfl⟩)]
      exact AG_ok h rfl
/-! revocation -/
def kRev (c : ab_C) (p s : Int32) : Int32 × Int32 × ab_C := if cHas c p = true then (if cRng s 1 9 = true then (if cHolds c p s = true then (if c 15 p.toNatClampNeg s.toNatClampNeg = -1 then (3, 0, c) else (0, (cFall c p s).1, cRevoke c p s)) else (3, 0, c)) else (2, 0, c)) else (1, 0, c)
theorem o_revoke {m : ab_M} {p s : Int32} (h1 : CI m) (h2 : CV (mi m)) : SP_X6_revoke [vA 61 0, vI p, vI s] m = kout cd3 (kRev (mi m) p s) m := by
  rw [e_X6_revoke h1 h2]
  simp only [kRev, kout_i, kout_0, kout_e t10, kout_e t20, kout_e t30, cd3_1, cd3_2, cd3_3]
theorem fApply_w (c : ab_C) : ∀ k, fo fApply c k = wS 7 (fun q => if q < k then c 2 0 q else c 7 0 q) c := by
  intro k
  induction k with
  | zero =>
    funext a i q
    show c a i q = _
    unfold wS
    split
    · next e => obtain ⟨rfl, rfl⟩ := e; show c 7 0 q = if q < 0 then c 2 0 q else c 7 0 q; rw [if_neg (show ¬ q < 0 by omega)]
    · rfl
  | succ k ih =>
    show fApply k (fo fApply c k) = _
    rw [ih]
    unfold fApply
    funext a i q
    rw [u3_ap, wS_ne (show (2 : Nat) ≠ 7 by decide)]
    by_cases e : a = 7 ∧ i = 0 ∧ q = k
    · obtain ⟨rfl, rfl, rfl⟩ := e
      rw [if_pos ⟨rfl, rfl, rfl⟩, wS_at, if_pos (by omega)]
    · rw [if_neg e]
      unfold wS
      by_cases e2 : a = 7 ∧ i = 0
      · rw [if_pos e2, if_pos e2]
        show (if q < k then c 2 0 q else c 7 0 q) = if q < k + 1 then c 2 0 q else c 7 0 q
        by_cases e3 : q < k
        · rw [if_pos e3, if_pos (show q < k + 1 by omega)]
        · rw [if_neg e3, if_neg (show ¬ q < k + 1 from fun z => e ⟨e2.1, e2.2, by omega⟩)]
      · rw [if_neg e2, if_neg e2]
theorem fRst_w (v : Nat → Nat) (c : ab_C) : ∀ k, fo (fRst v) c k = wS 7 (fun q => if q < k then nN (v q) else c 7 0 q) c := by
  intro k
  induction k with
  | zero =>
    funext a i q
    show c a i q = _
    unfold wS
    split
    · next e => obtain ⟨rfl, rfl⟩ := e; show c 7 0 q = if q < 0 then nN (v q) else c 7 0 q; rw [if_neg (show ¬ q < 0 by omega)]
    · rfl
  | succ k ih =>
    show fRst v k (fo (fRst v) c k) = _
    rw [ih]
    unfold fRst
    funext a i q
    rw [u3_ap]
    by_cases e : a = 7 ∧ i = 0 ∧ q = k
    · obtain ⟨rfl, rfl, rfl⟩ := e
      rw [if_pos ⟨rfl, rfl, rfl⟩, wS_at, if_pos (by omega)]
    · rw [if_neg e]
      unfold wS
      by_cases e2 : a = 7 ∧ i = 0
      · rw [if_pos e2, if_pos e2]
        show (if q < k then nN (v q) else c 7 0 q) = if q < k + 1 then nN (v q) else c 7 0 q
        by_cases e3 : q < k
        · rw [if_pos e3, if_pos (show q < k + 1 by omega)]
        · rw [if_neg e3, if_neg (show ¬ q < k + 1 from fun z => e ⟨e2.1, e2.2, by omega⟩)]
      · rw [if_neg e2, if_neg e2]
theorem g_revoke {n : Nat} {c r : ab_C} (h : ST n c r) (p s : Int32) : AG (n + 1) (kRev c p s) (rRev r p s) := by
  refine AG_b (h.1.has h.2.1 p) (fun e => AG_b rfl (fun e2 => AG_n (cHolds_iff h) (fun e3 => ?_) (fun _ => AG_no h t30)) (AG_no h t20)) (AG_no h t10)
  have hp := has_in h.2.1 e
  have hpl := (inb_eq hp).2
  have h12 := h.2.1.cn.1.2
  have hr7 := h.2.1.rv.2.2.2.2.2
  obtain ⟨k, h1, h9, rfl⟩ := rng_ex1 e2
  refine AG_p (by rw [nN_nat (show k < 2147483648 by omega), (h.1.held hpl h1 h9 e3).1]) (fun _ => AG_no h t30) (fun _ => ?_)
  have hF := cFall_eq h.1 h.2.1 hp e2 e3
  have hDP := fall_DP h hp e2
  have hS0 := AD_DP h hDP
  unfold cRevoke rRevX
  rw [hF] at hDP hS0 ⊢
  refine AG_do rfl ?_
  rw [nN_nat (show k < 2147483648 by omega)]
  have hwp : k ≤ w0 r p.toNatClampNeg := by
    unfold w0
    rw [if_pos hpl]
    obtain ⟨e', hl⟩ := inb_eq (hr7 _ hpl)
    rw [e', nN_lt (by omega) (by omega)] at e3
    omega
  have hG := rFall_GD (c := r) 12 p.toNatClampNeg k (w0 r) hpl h1 hwp (Nat.le_trans (cnw_n _ _ _) h12)
  rw [nN_nat (show k < 2147483648 by omega)] at hDP hS0
  generalize rFall r 12 p.toNatClampNeg k (w0 r) = v at *
  have hv9 : ∀ i, v i ≤ 9 := fun i => Nat.le_trans (hG.1 i) (w0_9 hr7 i)
  have eA : cApply (kc c v) = wS 7 (fun q => if q < np r then nN (v q) else r 7 0 q) (kc c v) := by
    unfold cApply
    rw [kc_np, h.1.gnp, fApply_w]
    refine congrArg (fun f => wS 7 f (kc c v)) (funext fun q => ?_)
    by_cases z : q < np r
    · rw [if_pos z, if_pos z, kc_at (by rw [h.1.gnp]; exact z)]
    · rw [if_neg z, if_neg z, kc_ne (by decide), rI_s h 7 _ rfl]
  have eB : fo (fRst v) r (np r) = wS 7 (fun q => if q < np r then nN (v q) else r 7 0 q) r := fRst_w v r (np r)
  have hS : ST n (cApply (kc c v)) (fo (fRst v) r (np r)) := by
    rw [eA, eB]
    refine ST_w hS0 rfl (by decide) (fun _ i q hi hq1 hq9 hf => ?_) (RG_w7 h.2.1.rg (fun i hi => ?_)) (fun q hq => ?_) (by omega) (by decide)
    · rw [if_pos hi, nN_lt (by have := hv9 i; omega) (by omega)] at hf
      obtain ⟨e', hl⟩ := inb_eq (hr7 i hi)
      rw [e', nN_lt (by omega) (by omega)]
      have := hG.1 i
      unfold w0 at this
      rw [if_pos hi] at this
      omega
    · rw [if_pos hi, inb_nN (by have := hv9 i; omega)]
      have := hv9 i
      omega
    · have hq2 : ¬ q < np r := fun z => hq (rg_p (by decide) (by decide) z)
      rw [if_neg hq2]
      exact h.2.1.z0.1 7 q (by decide) (by decide) (by omega)
  rw [hS.1.d8]
  exact ST_61 hS (by decide)

