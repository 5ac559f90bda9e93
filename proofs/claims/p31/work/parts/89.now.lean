/-! the plan of a company; who may be one -/
theorem i_m3 (S : Int32) (m : Nat) : S - 3 * nN m + (-3) = S - 3 * nN (m + 1) := by
  rw [← nN_succ]
  simp only [Int32.mul_add, Int32.mul_one, Int32.sub_eq_add_neg, Int32.neg_add]
  ac_rfl
theorem fRw_cnt {r : ab_C} {u : Nat} {g : Int32} {S : Int32} : ∀ m, fo (fRw r u g) S m = S - 3 * nN (bcnt (fun k => inS g (nN k) && rSeen r u k) m) := by
  intro m
  induction m with
  | zero => show S = S - 3 * 0; rw [Int32.mul_zero, Int32.sub_zero]
  | succ m ih =>
    show fRw r u g m (fo (fRw r u g) S m) = _
    rw [ih, bcnt_s]
    unfold fRw
    cases z1 : inS g (nN m) with
    | false => simp only [Bool.false_eq_true, if_false, Bool.false_and]
    | true =>
      cases z2 : rSeen r u m with
      | false => simp only [Bool.false_eq_true, if_false, if_true, Bool.and_false]
      | true => simp only [if_true, Bool.and_true]; exact i_m3 _ _
theorem worth_eq {c r : ab_C} {n u : Nat} {g : Int32} (h : EQ c r) (hi : INV n r) (hn : n ≤ 600) (hu : u < nu r) : r 29 0 u - 3 * bc (cSeenBy c (nN u) (c 61 0 6) &&& g) = rWorth r u g := by
  have h12 := hi.cn.1.2
  unfold rWorth
  rw [fRw_cnt, cSeenBy_bt h hi hn hu, bc_of (fun i h1 h2 => by rw [b_and, bset_bt h2 _ (by omega), decide_eq_false (by omega)]; rfl)]
  refine congrArg (fun x => r 29 0 u - 3 * nN x) ?_
  have e : 12 = np r + (12 - np r) := by omega
  rw [e]
  refine bcnt_cut (12 - np r) (fun i hi => ?_) (fun i h1 h2 => ?_)
  · rw [b_and, bset_bt (by omega) _ (by omega), decide_eq_true hi, Bool.true_and, inS_bt (by omega), Bool.and_comm]
  · rw [b_and, bset_bt (by omega) _ (by omega), decide_eq_false (by omega)]; rfl
theorem fVal_at {c : ab_C} {h g d s : Int32} : ∀ k, (∀ x y z, ¬ ((x = 20 ∨ x = 21) ∧ z < k) → fo (fVal h g d s) c k x y z = c x y z) ∧ ∀ i, i < k → i < 2147483648 → fo (fVal h g d s) c k 20 0 i = c 29 0 i - 3 * bc (cSeenBy c (nN i) d &&& g) ∧ fo (fVal h g d s) c k 21 0 i = bI (cCan c (nN i) h s) := by
  intro k
  induction k with
  | zero => exact ⟨fun _ _ _ _ => rfl, fun i hi => by omega⟩
  | succ k ih =>
    obtain ⟨a1, a2⟩ := ih
    have e : fo (fVal h g d s) c (k + 1) = fVal h g d s k (fo (fVal h g d s) c k) := rfl
    rw [e]
    generalize fo (fVal h g d s) c k = a at *
    have hs : cSeenBy a (nN k) d = cSeenBy c (nN k) d := by
      unfold cSeenBy
      refine fo_congr _ (fun i b _ => ?_)
      simp only [fSeenBy]
      rw [a1 34 _ _ (by omega)]
    unfold fVal
    refine ⟨fun x y z hx => ?_, fun i hi hB => ?_⟩
    · rw [u3_ap, if_neg (by omega), u3_ap, if_neg (by omega)]
      exact a1 x y z (by omega)
    · rw [u3_ap, if_neg (by omega), u3_ap, u3_ap]
      by_cases e2 : i = k
      · subst e2
        rw [if_pos ⟨rfl, rfl, rfl⟩, if_pos ⟨rfl, rfl, rfl⟩, hs, a1 29 _ _ (by omega)]
        refine ⟨rfl, ?_⟩
        unfold cCan
        simp only [u3_ap]
        rw [a1 30 _ _ (by omega), a1 32 _ _ (by omega), a1 27 _ _ (by omega)]
        simp
      · rw [if_neg (fun z => e2 z.2.2), if_neg (fun z => e2 z.2.2), u3_ap, if_neg (by omega)]
        exact a2 i (by omega) hB
theorem EV_base {c r : ab_C} {n : Nat} {g h : Int32} (hE : EQ c r) (hi : INV n r) (hn : n ≤ 600) : EV r g h (cBest0 c h g (c 61 0 6) (cSeason (c 61 0 6))) := by
  have hu := hi.cn.2.2.2.2
  have e0 : nu (cBest0 c h g (c 61 0 6) (cSeason (c 61 0 6))) = nu r := by
    unfold nu
    rw [cBest0_at (by decide) (by decide) (by decide)]
    exact hE.gnu
  refine ⟨e0, fun i hir => ?_, fun i => ?_⟩
  · have hiB : i < 2147483648 := by omega
    obtain ⟨-, f2⟩ := fVal_at (c := c) (h := h) (g := g) (d := c 61 0 6) (s := cSeason (c 61 0 6)) (nu c)
    obtain ⟨f3, f4⟩ := f2 i (by rw [hE.gnu]; exact hir) hiB
    have g1 : cBest0 c h g (c 61 0 6) (cSeason (c 61 0 6)) 20 0 i = rWorth r i g := by
      unfold cBest0
      rw [u3_ap, if_neg (by omega), f3, hE.st 29 rfl]
      exact worth_eq hE hi hn hir
    have g2 : cBest0 c h g (c 61 0 6) (cSeason (c 61 0 6)) 21 0 i = bI (cCan c (nN i) h (cSeason (c 61 0 6))) := by
      unfold cBest0
      rw [u3_ap, if_neg (by omega), f4]
    refine ⟨g1, fun kd hkd => ?_⟩
    rw [g2, cBest0_at (by decide) (by decide) (by decide), hE.st 26 rfl, bI0]
    unfold cCan rCan
    rw [nN_nat hiB, hE.st 30 rfl, hE.st 32 rfl, hE.st 27 rfl, hE.d6]
    generalize r 27 0 i = x27
    generalize cSeason (r 61 0 6) = sn
    by_cases z1 : r 26 0 i = nN kd
    · simp only [z1, decide_true, Bool.true_and, and_true]
      cases decide (r 30 0 i = h) <;> cases decide (r 32 0 i = 0) <;> cases decide (x27 = -1) <;> cases decide (x27 = sn) <;> simp
    · simp [z1]
  · rw [cBest0_at (by decide) (by decide) (by decide), hE.st 28 rfl]
theorem half_bd : ∀ N, N < 145 → (-1000 ≤ (-6 * (nN N / 2)).toInt ∧ (-6 * (nN N / 2)).toInt ≤ 0) := by decide +kernel
theorem rQuarrels_bd {r : ab_C} {n : Nat} (hi : INV n r) (s : Int32) : bd (-6 * rQuarrels r s) (-1000) 0 := by
  have h12 := hi.cn.1.2
  have : ∀ m, m ≤ np r → ∃ N, N ≤ 12 * m ∧ fo (fQuarrels r s) 0 m = nN N := by
    intro m
    induction m with
    | zero => intro _; exact ⟨0, Nat.le_refl _, rfl⟩
    | succ m ih =>
      intro hm
      obtain ⟨N, hN, e⟩ := ih (by omega)
      show ∃ N, N ≤ 12 * (m + 1) ∧ fQuarrels r s m (fo (fQuarrels r s) 0 m) = nN N
      rw [e]
      unfold fQuarrels
      split
      · rw [bc_of (fun i h1 h2 => by rw [b_and, hi.fo.2 m i (by omega)]; rfl), nN_add]
        exact ⟨_, by have := bcnt_le (bt (r 12 0 m &&& s)) 12; omega, rfl⟩
      · exact ⟨N, by omega, rfl⟩
  obtain ⟨N, hN, e⟩ := this (np r) (Nat.le_refl _)
  unfold rQuarrels
  rw [e]
  exact half_bd N (by omega)
theorem cQuarrels_cg {c r : ab_C} (hn : np c = np r) (h12 : ∀ i, c 12 0 i = r 12 0 i) (s : Int32) : cQuarrels c s = rQuarrels r s := by
  unfold cQuarrels rQuarrels
  rw [hn]
  refine congrArg (fun x => x / 2) (fo_congr _ (fun i a _ => ?_))
  simp only [fQuarrels, h12]
theorem cNow_eq {c r : ab_C} {n : Nat} {g h : Int32} (hE : EQ c r) (hi : INV n r) (hn : n ≤ 600) : (∀ q, q < 4 → cNow c h g 18 0 q = (rBest r h g 4 (fun _ => 0)).2 q) ∧ cNow c h g 40 0 6 = rWorthP r h g := by
  have hV := EV_base (g := g) (h := h) hE hi hn
  have e40 : cBest0 c h g (c 61 0 6) (cSeason (c 61 0 6)) 40 0 6 = -1000000 := by
    unfold cBest0
    rw [u3_ap, if_pos ⟨rfl, rfl, rfl⟩]
  have eQ : cQuarrels (cBest0 c h g (c 61 0 6) (cSeason (c 61 0 6))) (g ||| sB h) = rQuarrels r (g ||| sB h) := by
    refine cQuarrels_cg ?_ (fun i => ?_) _
    · unfold np
      rw [cBest0_at (by decide) (by decide) (by decide)]
      exact hE.gnp
    · rw [cBest0_at (by decide) (by decide) (by decide), hE.st 12 rfl]
  have hW := rQuarrels_bd hi (g ||| sB h)
  unfold cNow cBest
  rw [eQ]
  generalize cBest0 c h g (c 61 0 6) (cSeason (c 61 0 6)) = a at *
  have hB := cChoose_BS (h := h) (g := g) hi hW 4 (Nat.le_refl _) (-6 * rQuarrels r (g ||| sB h)) a (fun _ => 0) (fun q => a 18 0 q) (-1000000) hV (fun q hq => by omega) (Int32.add_zero _).symm ⟨fun _ _ => rfl, e40⟩
  have hF := rB_bd (h := h) (g := g) hi 4 (fun _ => 0)
  have hlt : (-1000000 : Int32) < -6 * rQuarrels r (g ||| sB h) + rB r h g 4 (fun _ => 0) 4 := by
    rw [Int32.lt_iff_toInt_lt, sl_add hW hF, show (-1000000 : Int32).toInt = -1000000 from by decide]
    obtain ⟨a1, a2⟩ := hW
    obtain ⟨b1, b2⟩ := hF
    omega
  unfold sl at hB
  rw [if_pos hlt] at hB
  rw [rBest_rB 4 (Nat.le_refl _)]
  refine ⟨hB.1, hB.2.trans ?_⟩
  unfold rWorthP
  rw [rBest_rB 4 (Nat.le_refl _), Int32.neg_mul, Int32.sub_eq_add_neg, Int32.add_comm]
theorem cNow_at {c : ab_C} {h g : Int32} {x y z : Nat} (h1 : x ≠ 18) (h2 : x ≠ 19) (h3 : x ≠ 20) (h4 : x ≠ 21) (h5 : x ≠ 40) : cNow c h g x y z = c x y z := cBest_at h1 h2 h3 h4 h5
/-! companies -/
theorem two_np : ∀ n, n ≤ 12 → (1 : Int32) <<< (nN n &&& 31) = nN (2 ^ n) := by decide +kernel
theorem bc_pos0 : ∀ a, a < 64 → ∀ b, b < 64 → (decide (bc (nN (64 * a + b)) < 1) = decide (64 * a + b = 0)) := by decide +kernel
theorem bc_pos {x : Nat} (hx : x < 4096) : decide (bc (nN x) < 1) = decide (x = 0) := by
  have := bc_pos0 (x / 64) (by omega) (x % 64) (by omega)
  rwa [Nat.div_add_mod] at this
def Sub (g : Int32) (n : Nat) : Prop := ∀ i, n ≤ i → bt g i = false
theorem Sub_lt {g : Int32} {n : Nat} (hn : n ≤ 12) (h : Sub g n) : ∃ x, x < 2 ^ n ∧ g = nN x := by
  obtain ⟨x, hx, rfl⟩ := small_of (x := g) (fun i h1 _ => h i (by omega))
  refine ⟨x, Nat.lt_pow_two_of_testBit _ (fun i hi => ?_), rfl⟩
  by_cases e : i < 32
  · rw [← bt_nN e]; exact h i hi
  · exact Nat.testBit_lt_two_pow (Nat.lt_of_lt_of_le hx (Nat.le_trans (show 4096 ≤ 2 ^ 12 by decide) (Nat.pow_le_pow_right (by decide) (by omega))))
theorem company_eq {c r : ab_C} {n : Nat} (hE : EQ c r) (hi : INV n r) (h g : Int32) : cCompany c h g = ! rNoCo r h g := by
  have h12 := hi.cn.1.2
  have hp2 : 2 ^ np r ≤ 4096 := Nat.pow_le_pow_right (n := 2) (by decide) h12
  unfold cCompany rNoCo
  rw [two_np _ h12]
  have hall : ∀ i, i < 32 → bt (g &&& (cAll c ^^^ (-1))) i = (bt g i && ! decide (i < np r)) := fun i h32 => by
    rw [b_and, b_xor, b_m1 i h32, cAll_bt hE hi h32, Bool.xor_true]
  by_cases hs : g &&& (cAll c ^^^ (-1)) = 0
  · have hS : Sub g (np r) := fun i hin => by
      by_cases h32 : i < 32
      · have := hall i h32
        rw [hs, b_0, decide_eq_false (by omega), Bool.not_false, Bool.and_true] at this
        exact this.symm
      · exact b_big (by omega)
    obtain ⟨x, hx, rfl⟩ := Sub_lt h12 hS
    rw [bc_pos (by omega), decide_eq_true hs, Bool.true_and]
    have e1 : decide (nN x < 1) = decide (x = 0) := by
      have := nN_lt (a := x) (b := 1) (by omega) (by decide)
      refine decide_eq_decide.mpr ?_
      rw [show ((nN x < 1) = (x < 1)) from this]
      omega
    have e2 : decide (nN x < nN (2 ^ np r)) = true := decide_eq_true (by rw [nN_lt (by omega) (by omega)]; exact hx)
    rw [e1, e2]
    cases decide (x = 0) <;> cases decide (4 < bc (nN x)) <;> cases inS (nN x) h <;> rfl
  · rw [decide_eq_false hs, Bool.false_and, Bool.and_false]
    by_cases z1 : g < 1
    · rw [decide_eq_true z1]; rfl
    · by_cases z2 : g < nN (2 ^ np r)
      · exfalso
        refine hs (b_ext (fun i h32 => ?_))
        rw [hall i h32, b_0]
        have hg := inb_lt (p := g) (x := nN (2 ^ np r)) (n := 2 ^ np r) (L := 2 ^ np r) (by
          rw [decide_eq_true z2, Bool.and_true, decide_eq_false (fun z => z1 (by
            rw [Int32.lt_iff_toInt_lt] at *
            have e0 : (0 : Int32).toInt = 0 := rfl
            have e1 : (1 : Int32).toInt = 1 := rfl
            omega))]
          rfl) rfl (Nat.le_refl _) (by omega)
        obtain ⟨e, hl⟩ := inb_eq hg
        by_cases e3 : i < np r
        · rw [decide_eq_true e3]; cases bt g i <;> rfl
        · rw [e, bt_nN h32, Nat.testBit_lt_two_pow (Nat.lt_of_lt_of_le hl (Nat.pow_le_pow_right (by decide) (by omega)))]; rfl
      · rw [decide_eq_false z2, Bool.not_false, Bool.true_or, Bool.or_true]; rfl
theorem company_sub {c r : ab_C} {n : Nat} (hE : EQ c r) (hi : INV n r) {h g : Int32} (hc : cCompany c h g = true) : Sub g (np r) := by
  unfold cCompany at hc
  simp only [Bool.and_eq_true, decide_eq_true_eq] at hc
  intro i hin
  by_cases h32 : i < 32
  · have : bt (g &&& (cAll c ^^^ (-1))) i = (bt g i && ! decide (i < np r)) := by rw [b_and, b_xor, b_m1 i h32, cAll_bt hE hi h32, Bool.xor_true]
    rw [hc.2.1, b_0, decide_eq_false (by omega), Bool.not_false, Bool.and_true] at this
    exact this.symm
  · exact b_big (by omega)
theorem cAL_eq {c r : ab_C} {h : Nat} {g : Int32} (hE : EQ c r) (hh : h < 12) : ∀ k i, i + k ≤ 12 → cAL c (g ||| sB (nN h)) k i = ! rSad r (nN h) g k i := by
  intro k
  induction k with
  | zero => intro i _; rfl
  | succ k ih =>
    intro i hi
    unfold cAL rSad
    rw [ih (i + 1) (by omega), inS_bt (by omega), b_or, sB_bt (by omega) (by omega), hE.st 13 rfl, inS_bt (by omega)]
    simp only [nN_inj (show i < 2147483648 by omega) (show h < 2147483648 by omega)]
    by_cases e : i = h
    · simp only [e, decide_true, Bool.or_true, if_true]
      split <;> rfl
    · simp only [e, decide_false, Bool.or_false, if_false]
      cases bt g i with
      | true => simp only [if_true]; split <;> rfl
      | false => simp only [Bool.false_eq_true, if_false]
theorem allLive_eq {c r : ab_C} {n : Nat} {h g : Int32} (hE : EQ c r) (hi : INV n r) (hh : inb h (np r)) : cAllLive c h g = ! rSad r h g (np r) 0 := by
  obtain ⟨j, hj, rfl⟩ := nN_ex hh
  have h12 := hi.cn.1.2
  unfold cAllLive
  rw [hE.gnp]
  exact cAL_eq hE (by omega) _ _ (by omega)

