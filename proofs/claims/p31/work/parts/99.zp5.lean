/-! p31: the law's calls of the class -/
def LSt (L : Nat) (xs : Nat → Int32) (M : ab_M) (n : Nat) (m : ab_M) (r : ab_C) : Prop := m.2 = M.2 ∧ CR m ∧ ST n (mi m) r ∧ mn m 0 0 = L ∧ ∀ j, mi m 0 0 j = xs j
section LAWC
variable {L : Nat} {xs : Nat → Int32} {M : ab_M} {n : Nat} {m : ab_M} {r : ab_C}
theorem LSt.ci (h : LSt L xs M n m r) : CI m := by
  have := CI_EQ (m := m) h.2.1 h.2.2.1.1 h.2.2.1.2.1
  exact this
theorem LSt.cv (h : LSt L xs M n m r) : CV (mi m) := h.2.2.1.cv
theorem LSt.iv (h : LSt L xs M n m r) : INV n r := h.2.2.1.2.1
theorem LSt.n12 (h : LSt L xs M n m r) : np r ≤ 12 := h.iv.cn.1.2
theorem LSt.up {n' : Nat} (h : LSt L xs M n m r) (hn : n ≤ n') : LSt L xs M n' m r := ⟨h.1, h.2.1, h.2.2.1.up hn, h.2.2.2⟩
theorem act (h : LSt L xs M n m r) {n' : Nat} {X Y : Int32 × Int32 × ab_C} {cd : Int32 → String} (hA : AG n' X Y) (hF : CF (mi m) X.2.2) (h0 : Y.1 = 0) : kout cd X m = okV (vI Y.2.1) (wI m X.2.2) ∧ LSt L xs M n' (wI m X.2.2) Y.2.2 := by
  obtain ⟨a1, a2, a3⟩ := hA
  have hx : X.1 = 0 := a1.trans h0
  refine ⟨?_, h.1, h.2.1, a3, h.2.2.2.1, fun j => (hF 0 0 j (by omega) (by omega)).trans (h.2.2.2.2 j)⟩
  unfold kout
  rw [if_pos hx, a2 hx]
theorem hasP (h : LSt L xs M n m r) {p : Nat} (hp : p < np r) : rHas r (nN p) = true := by
  have := h.n12
  unfold rHas
  rw [h.iv.cn.1.1]
  exact (rng_in0 (n := np r) (by omega)).mpr (by rw [inb_nN (by omega)]; exact hp)
theorem hasC (h : LSt L xs M n m r) {p : Nat} (hp : p < np r) : cHas (mi m) (nN p) = true := by rw [h.2.2.1.1.has h.iv]; exact hasP h hp
theorem inP (h : LSt L xs M n m r) {p : Nat} (hp : p < np r) : inb (nN p) (np r) := by
  have := h.n12
  rw [inb_nN (by omega)]; exact hp
theorem rng_c {w : Nat} {a b : Nat} (h1 : a ≤ w) (h2 : w ≤ b) (hb : b < 1000) : cRng (nN w) (nN a) (nN b) = true := by
  unfold cRng
  rw [Bool.and_eq_true, Bool.not_eq_true', Bool.not_eq_true', decide_eq_false_iff_not, decide_eq_false_iff_not, nN_lt (by omega) (by omega), nN_lt (by omega) (by omega)]
  omega
theorem rng_l {w : Nat} {A B : Int32} {a b : Nat} (hA : A = nN a) (hB : B = nN b) (h1 : a ≤ w) (h2 : w ≤ b) (hb : b < 1000) : cRng (nN w) A B = true := by
  rw [hA, hB]
  exact rng_c h1 h2 hb
theorem a_ofP (h : LSt L xs M n m r) {p w : Nat} (hp : p < np r) (hw : w < 12) : SP_X6_ofPerson [vA 61 0, vI (nN p), vI (nN w)] m = okV (vI (rOfP r (nN p) w)) m := by
  rw [e_X6_ofPerson h.ci h.cv, if_pos (hasC h hp), if_pos (rng_l (A := 0) (B := 11) (a := 0) (b := 11) rfl rfl (Nat.zero_le _) (by omega) (by decide)), nN_nat (by omega), cOfP_eq h.2.2.1.1 h.iv (inP h hp) w hw]
theorem a_of0 (h : LSt L xs M n m r) {p : Nat} (hp : p < np r) : SP_X6_ofPerson [vA 61 0, vI (nN p), vI 0] m = okV (vI (r 5 0 p)) m := by
  have := h.n12
  refine (a_ofP h (w := 0) hp (by decide)).trans ?_
  show okV (vI (r 5 0 (nN p).toNatClampNeg)) m = _
  rw [nN_nat (by omega)]
theorem a_of2 (h : LSt L xs M n m r) {p : Nat} (hp : p < np r) : SP_X6_ofPerson [vA 61 0, vI (nN p), vI 2] m = okV (vI (r 7 0 p)) m := by
  have := h.n12
  refine (a_ofP h (w := 2) hp (by decide)).trans ?_
  show okV (vI (r 7 0 (nN p).toNatClampNeg)) m = _
  rw [nN_nat (by omega)]
theorem a_of3 (h : LSt L xs M n m r) {p : Nat} (hp : p < np r) : SP_X6_ofPerson [vA 61 0, vI (nN p), vI 3] m = okV (vI (r 8 0 p)) m := by
  have := h.n12
  refine (a_ofP h (w := 3) hp (by decide)).trans ?_
  show okV (vI (r 8 0 (nN p).toNatClampNeg)) m = _
  rw [nN_nat (by omega)]
theorem a_of4 (h : LSt L xs M n m r) {p : Nat} (hp : p < np r) : SP_X6_ofPerson [vA 61 0, vI (nN p), vI 4] m = okV (vI (z01 (r 13 0 p))) m := by
  have := h.n12
  refine (a_ofP h (w := 4) hp (by decide)).trans ?_
  show okV (vI (z01 (r 13 0 (nN p).toNatClampNeg))) m = _
  rw [nN_nat (by omega)]
theorem a_of8 (h : LSt L xs M n m r) {p : Nat} (hp : p < np r) : SP_X6_ofPerson [vA 61 0, vI (nN p), vI 8] m = okV (vI (rPupils r (nN p))) m := a_ofP h (w := 8) hp (by decide)
theorem a_giv (h : LSt L xs M n m r) {p s : Nat} {b : Int32} (hp : p < np r) (h1 : 1 ≤ s) (h9 : s < 10) : SP_X6_giver [vA 61 0, vI (nN p), vI (nN s), vI b] m = okV (vI (if r 7 0 p < nN s then -1 else if b = 0 then r 15 p s else r 17 p s)) m := by
  have := h.n12
  rw [e_X6_giver h.ci, if_pos (hasC h hp), if_pos (rng_l (A := 1) (B := 9) (a := 1) (b := 9) rfl rfl h1 (by omega) (by decide)), cGiv_eq h.2.2.1.1 (inP h hp) (rng_l (A := 1) (B := 9) (a := 1) (b := 9) rfl rfl h1 (by omega) (by decide))]
  unfold rGv
  rw [nN_nat (by omega), nN_nat (by omega)]
theorem a_ofH (h : LSt L xs M n m r) (hh : nh r = 1) {w : Nat} (hw : w < 5) : SP_X6_ofHouse [vA 61 0, vI 0, vI (nN w)] m = okV (vI (rOfH r 0 (nN w))) m := by
  have hi : inb 0 (nh r) := by rw [hh]; exact inb_0 (by decide)
  have hc : cHasH (mi m) 0 = true := by
    rw [h.2.2.1.1.hasH h.iv]
    unfold rHasH
    rw [h.iv.cn.2.1.1]
    exact (rng_in0 (n := nh r) (by omega)).mpr hi
  rw [e_X6_ofHouse h.ci h.cv, if_pos hc, if_pos (rng_l (A := 0) (B := 4) (a := 0) (b := 4) rfl rfl (Nat.zero_le _) (by omega) (by decide)), nN_nat (by omega), cOfH_eq h.2.2.1.1 h.iv hi w hw]
theorem a_ofH0 (h : LSt L xs M n m r) (hh : nh r = 1) : SP_X6_ofHouse [vA 61 0, vI 0, vI 0] m = okV (vI (r 3 0 0)) m := (a_ofH h hh (w := 0) (by decide)).trans (by rw [show nN 0 = (0 : Int32) from rfl, rOfH_0]; rfl)
theorem a_ofH2 (h : LSt L xs M n m r) (hh : nh r = 1) : SP_X6_ofHouse [vA 61 0, vI 0, vI 2] m = okV (vI (rTh r 0).1) m := (a_ofH h hh (w := 2) (by decide)).trans (by rw [show nN 2 = (2 : Int32) from rfl, rOfH_2])
theorem a_ofH4 (h : LSt L xs M n m r) (hh : nh r = 1) : SP_X6_ofHouse [vA 61 0, vI 0, vI 4] m = okV (vI (if r 3 0 0 = -1 then -1 else rNext r 0 (r 3 0 0))) m := (a_ofH h hh (w := 4) (by decide)).trans (by rw [show nN 4 = (4 : Int32) from rfl, rOfH_4]; rfl)
theorem a_many (h : LSt L xs M n m r) {w : Nat} (hw : w < 14) : SP_X6_many [vA 61 0, vI (nN w)] m = okV (vI (rMany r w)) m := by
  rw [e_X6_many h.ci, if_pos (rng_l (A := 0) (B := 13) (a := 0) (b := 13) rfl rfl (Nat.zero_le _) (by omega) (by decide)), nN_nat (by omega), cMany_eq h.2.2.1.1 h.iv w hw]
theorem a_many0 (h : LSt L xs M n m r) : SP_X6_many [vA 61 0, vI 0] m = okV (vI (r 61 0 6)) m := a_many h (w := 0) (by decide)
theorem a_many3 (h : LSt L xs M n m r) : SP_X6_many [vA 61 0, vI 3] m = okV (vI (nN (nh r))) m := a_many h (w := 3) (by decide)
theorem a_many6 (h : LSt L xs M n m r) : SP_X6_many [vA 61 0, vI 6] m = okV (vI (nN (nu r))) m := a_many h (w := 6) (by decide)
theorem a_many9 (h : LSt L xs M n m r) : SP_X6_many [vA 61 0, vI 9] m = okV (vI (rCt r).2.1) m := a_many h (w := 9) (by decide)
theorem a_many12 (h : LSt L xs M n m r) : SP_X6_many [vA 61 0, vI 12] m = okV (vI (r 61 0 9)) m := a_many h (w := 12) (by decide)
theorem a_lose (h : LSt L xs M n m r) (hs : nsc r = 0) {p : Nat} (hp : p < np r) : SP_X6_wouldLose [vA 61 0, vI (nN p)] m = okV (vI 0) m := by
  have := h.n12
  rw [e_X6_wouldLose h.ci, if_pos (hasC h hp), nN_nat (by omega)]
  by_cases z : mi m 13 0 p = 0
  · rw [if_pos z]
  · rw [if_neg z]
    rw [rI_s h.2.2.1 13 _ rfl] at z
    rw [cLostWith_eq h.2.2.1.1 h.iv (inP h hp) (by rw [nN_nat (by omega)]; exact z)]
    unfold rLosing
    rw [hs]
    rfl
theorem a_dig (h : LSt L xs M n m r) (hn : n ≤ 600) : ∃ m', SP_X6_digest [vA 61 0] m = okV (vL (rDigest r)) m' ∧ LSt L xs M n m' r := by
  obtain ⟨d1, d2⟩ := digest_eq h.2.2.1 hn
  refine ⟨wI m (cDg2 (mi m)).2, by rw [e_X6_digest h.ci h.cv, d1], h.1, h.2.1, d2, h.2.2.2.1, fun j => ?_⟩
  exact (cf_dg2 0 0 j (by omega) (by omega)).trans (h.2.2.2.2 j)
/-! what changes -/
theorem x_give (h : LSt L xs M n m r) (p : Int32) (h0 : (rGive r p).1 = 0) : ∃ m', SP_X6_give [vA 61 0, vI p] m = okV (vI (rGive r p).2.1) m' ∧ LSt L xs M (n + 1) m' (rGive r p).2.2 := by
  obtain ⟨a, b⟩ := act h (cd := cd2) (g_give h.2.2.1 p) cf_give h0
  exact ⟨_, (o_give h.ci h.cv).trans a, b⟩
theorem x_pass (h : LSt L xs M n m r) (hn : n ≤ 600) {D : Nat} (h1 : 1 ≤ D) (h9 : D ≤ 90) : ∃ (v : Int32) (m' : ab_M), SP_X6_pass [vA 61 0, vI (nN D)] m = okV (vI v) m' ∧ LSt L xs M (n + 1) m' (rPassX r (nN D)) := by
  have e : rPass r (nN D) = (0, rPassX r (nN D) 61 0 6, rPassX r (nN D)) := by
    unfold rPass
    rw [if_neg (by rw [rng_l (A := 1) (B := 90) (a := 1) (b := 90) rfl rfl h1 h9 (by decide)]; decide)]
  have hA := g_pass h.2.2.1 hn (nN D)
  rw [e] at hA
  obtain ⟨a, b⟩ := act h (cd := cd1) hA cf_pass rfl
  exact ⟨_, _, (o_pass h.ci).trans a, b⟩
theorem x_die (h : LSt L xs M n m r) {p : Nat} (hp : p < np r) (hl : ¬ r 13 0 p = 0) : ∃ (v : Int32) (m' : ab_M), SP_X6_die [vA 61 0, vI (nN p)] m = okV (vI v) m' ∧ LSt L xs M (n + 1) m' (rDieX r (nN p)) := by
  have := h.n12
  have e : ∃ v, rDie r (nN p) = (0, v, rDieX r (nN p)) := by
    unfold rDie
    rw [if_neg (by rw [hasP h hp]; decide), nN_nat (by omega), if_neg hl]
    exact ⟨_, rfl⟩
  obtain ⟨v, e⟩ := e
  have hA := g_die h.2.2.1 (nN p)
  rw [e] at hA
  obtain ⟨a, b⟩ := act h (cd := cd2) hA cf_die rfl
  exact ⟨_, _, (o_die h.ci h.cv).trans a, b⟩
theorem x_rev (h : LSt L xs M n m r) {p s : Nat} (hp : p < np r) (h1 : 1 ≤ s) (h9 : s < 10) (hh : ¬ r 7 0 p < nN s) (hg : ¬ r 15 p s = -1) : ∃ (v : Int32) (m' : ab_M), SP_X6_revoke [vA 61 0, vI (nN p), vI (nN s)] m = okV (vI v) m' ∧ LSt L xs M (n + 1) m' (rRevX r (nN p) (nN s)) := by
  have := h.n12
  have e : ∃ v, rRev r (nN p) (nN s) = (0, v, rRevX r (nN p) (nN s)) := by
    unfold rRev
    rw [if_neg (by rw [hasP h hp]; decide), if_neg (by rw [rng_l (A := 1) (B := 9) (a := 1) (b := 9) rfl rfl h1 (by omega) (by decide)]; decide), nN_nat (by omega), nN_nat (by omega), if_neg hh, if_neg hg]
    exact ⟨_, rfl⟩
  obtain ⟨v, e⟩ := e
  have hA := g_revoke h.2.2.1 (nN p) (nN s)
  rw [e] at hA
  obtain ⟨a, b⟩ := act h (cd := cd3) hA cf_revoke rfl
  exact ⟨_, _, (o_revoke h.ci h.cv).trans a, b⟩
theorem x_ute (h : LSt L xs M n m r) {p k t q : Nat} (hp : p < np r) (hk : k < 4) (ht : t < 10) (h1 : 1 ≤ q) (h9 : q < 10) (hl : ¬ r 13 0 p = 0) (hu : ¬ nu r = 12) (hc : ¬ r 8 0 p < nN (4 * q)) : ∃ (v : Int32) (m' : ab_M), SP_X6_utensil [vA 61 0, vI (nN p), vI (nN k), vI (-1), vI (nN t), vI (nN q)] m = okV (vI v) m' ∧ LSt L xs M (n + 1) m' (rUteX r (nN p) (nN k) (-1) (nN t) (nN q)) := by
  have := h.n12
  have h4 : (4 : Int32) * nN q = nN (4 * q) := nN_mul (a := 4)
  have e : ∃ v, rUte r (nN p) (nN k) (-1) (nN t) (nN q) = (0, v, rUteX r (nN p) (nN k) (-1) (nN t) (nN q)) := by
    unfold rUte
    rw [if_neg (by rw [hasP h hp]; decide), if_neg (by rw [rng_l (A := 0) (B := 3) (a := 0) (b := 3) rfl rfl (Nat.zero_le _) (by omega) (by decide)]; decide), if_neg (by decide), if_neg (by rw [rng_l (A := 0) (B := 9) (a := 0) (b := 9) rfl rfl (Nat.zero_le _) (by omega) (by decide)]; decide), if_neg (by rw [rng_l (A := 1) (B := 9) (a := 1) (b := 9) rfl rfl h1 (by omega) (by decide)]; decide), if_neg hu, nN_nat (show p < 2147483648 by omega), if_neg hl, h4, if_neg hc]
    exact ⟨_, rfl⟩
  obtain ⟨v, e⟩ := e
  have hA := g_utensil h.2.2.1 (nN p) (nN k) (-1) (nN t) (nN q)
  rw [e] at hA
  obtain ⟨a, b⟩ := act h (cd := cd3) hA cf_utensil rfl
  exact ⟨_, _, (o_utensil h.ci).trans a, b⟩
theorem x_hold (h : LSt L xs M n m r) (hn : n ≤ 600) {p g : Nat} (hp : p < np r) (hg : g < np r) (hne : g ≠ p) (hlp : ¬ r 13 0 p = 0) (hlg : ¬ r 13 0 g = 0) (hc : ¬ r 8 0 p < 3) : ∃ (v : Int32) (m' : ab_M), SP_X6_hold [vA 61 0, vI (nN p), vI (sB (nN g))] m = okV (vI v) m' ∧ LSt L xs M (n + 1) m' (rHoldX r (nN p) (sB (nN g))) := by
  have := h.n12
  have hN : rNoCo r (nN p) (sB (nN g)) = false := by
    unfold rNoCo
    have k1 : ∀ g, g < 12 → ¬ sB (nN g) < 1 := by decide +kernel
    have k2 : ∀ N, N ≤ 12 → ∀ g, g < N → sB (nN g) < 1 <<< (nN N &&& 31) := by decide +kernel
    rw [decide_eq_false (k1 g (by omega)), decide_eq_true (k2 (np r) h.n12 g hg), bc_sB g (by omega), inS_sB (by omega) (by omega), decide_eq_false (Ne.symm hne)]
    rfl
  have hS : rSad r (nN p) (sB (nN g)) (np r) 0 = false := by
    have key : ∀ k i, i + k ≤ np r → rSad r (nN p) (sB (nN g)) k i = false := by
      intro k
      induction k with
      | zero => intro i _; rfl
      | succ k ih =>
        intro i hi
        unfold rSad
        by_cases e : i = p
        · rw [if_pos (by rw [e]), e, if_neg hlp]
          exact ih (p + 1) (by omega)
        · rw [if_neg (by rw [nN_inj (by omega) (by omega)]; exact e)]
          by_cases e2 : i = g
          · rw [if_pos (by rw [inS_sB (by omega) (by omega)]; exact decide_eq_true e2), e2, if_neg hlg]
            exact ih (g + 1) (by omega)
          · rw [if_neg (by rw [inS_sB (by omega) (by omega), decide_eq_false e2]; decide)]
            exact ih (i + 1) (by omega)
    exact key (np r) 0 (by omega)
  have e : ∃ v, rHold r (nN p) (sB (nN g)) = (0, v, rHoldX r (nN p) (sB (nN g))) := by
    unfold rHold
    rw [if_neg (by rw [hasP h hp]; decide), if_neg (by rw [hN]; decide), if_neg (by rw [hS]; decide), nN_nat (by omega), bc_sB g (by omega), show (3 : Int32) * 1 = 3 from rfl, if_neg hc]
    exact ⟨_, rfl⟩
  obtain ⟨v, e⟩ := e
  have hA := g_hold h.2.2.1 hn (nN p) (sB (nN g))
  rw [e] at hA
  obtain ⟨a, b⟩ := act h (cd := cd3) hA cf_hold rfl
  exact ⟨_, _, (o_hold h.ci h.cv).trans a, b⟩
theorem x_fou (h : LSt L xs M n m r) (h0 : np r = 0) : ∃ (v : Int32) (m' : ab_M), SP_X6_person [vA 61 0, vI (-1), vI (-1)] m = okV (vI v) m' ∧ LSt L xs M (n + 1) m' (rFouX r (-1)) := by
  have e : ∃ v, rPerson r (-1) (-1) = (0, v, rFouX r (-1)) := by
    unfold rPerson
    rw [if_neg (fun z => z.1 h0), if_neg (fun z => z.1 rfl), if_neg (by omega), if_neg (fun z => z.1 h0), if_pos h0]
    exact ⟨_, rfl⟩
  obtain ⟨v, e⟩ := e
  have hA := g_person h.2.2.1 (-1) (-1)
  rw [e] at hA
  obtain ⟨a, b⟩ := act h (cd := cd2) hA cf_person rfl
  have hz := h.iv.hz h0
  exact ⟨_, _, (o_person h.ci (Or.inl (by rw [h.2.2.1.1.gnh, hz]; decide))).trans a, b⟩
theorem x_per (h : LSt L xs M n m r) {t : Nat} {k : Int32} (h1 : 1 ≤ np r) (h2 : np r < 12) (ht : t < np r) (hl : ¬ r 13 0 t = 0) (hk : k = -1 ∨ ∃ j, j < np r ∧ k = nN j) : ∃ (v : Int32) (m' : ab_M), SP_X6_person [vA 61 0, vI (nN t), vI k] m = okV (vI v) m' ∧ LSt L xs M (n + 1) m' (rPerX r (nN t) k (r 9 0 t)) := by
  have e : ∃ v, rPerson r (nN t) k = (0, v, rPerX r (nN t) k (r 9 0 t)) := by
    unfold rPerson
    rw [if_neg (fun z => by rw [hasP h ht] at z; cases z.2), if_neg (fun z => by
      rcases hk with z1 | ⟨j, z1, z2⟩
      · exact z.1 z1
      · have := z.2
        rw [z2, hasP h z1] at this
        cases this), if_neg (by omega), nN_nat (by omega), if_neg (fun z => hl z.2), if_neg (by omega)]
    exact ⟨_, rfl⟩
  obtain ⟨v, e⟩ := e
  have hA := g_person h.2.2.1 (nN t) k
  rw [e] at hA
  obtain ⟨a, b⟩ := act h (cd := cd2) hA cf_person rfl
  refine ⟨_, _, (o_person h.ci (Or.inr (fun z => ?_))).trans a, b⟩
  have : np r = 0 := by
    unfold np
    rw [← h.2.2.1.1.c35, z]
    rfl
  omega
end LAWC
