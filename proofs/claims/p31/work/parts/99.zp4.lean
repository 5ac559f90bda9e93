/-! p31: gatherings, people -/
theorem fo_one {σ : Type} {f : Nat → σ → σ} {s : σ} {j m : Nat} (h : ∀ i a, i < m → i ≠ j → f i a = a) : ∀ n, n ≤ m → fo f s n = if j < n then f j s else s
  | 0, _ => rfl
  | n + 1, hn => by
    show f n (fo f s n) = _
    rw [fo_one h n (by omega)]
    by_cases e : n = j
    · rw [e, if_neg (by omega), if_pos (by omega)]
    · rw [h _ _ (by omega) e]
      by_cases e2 : j < n
      · rw [if_pos e2, if_pos (by omega)]
      · rw [if_neg e2, if_neg (by omega)]
theorem bc_sB : ∀ g, g < 12 → bc (sB (nN g)) = 1 := by decide +kernel
theorem inS_sB {g k : Nat} (hg : g < 12) (hk : k < 32) : inS (sB (nN g)) (nN k) = decide (k = g) := by
  rw [inS_bt hk, sB_bt (by omega) hk]
theorem due_nN (w : Int32) : ∃ e, e < 2147483648 ∧ rDue w = nN e := by
  unfold rDue
  have : ∃ v, v < 2147483648 ∧ (if 0 < w then w else 0) = nN v := by
    split
    · next h =>
      rw [Int32.lt_iff_toInt_lt] at h
      have e0 : (0 : Int32).toInt = 0 := rfl
      have hb := Int32.toInt_lt w
      refine ⟨w.toInt.toNat, by omega, ?_⟩
      apply Int32.toInt_inj.mp
      rw [nN_toInt (by omega)]
      omega
    · exact ⟨0, by decide, rfl⟩
  obtain ⟨v, hv, e⟩ := this
  rw [e, show (5 : Int32) = nN 5 from rfl, nN_div hv (by decide)]
  exact ⟨v / 5, by omega, rfl⟩
theorem gf_nN {a b : Nat} (ha : a < 2147483648) (hb : b < 2147483648) : rGf (nN a) (nN b) = nN (if a < b then a else b) := by
  unfold rGf
  by_cases h : a < b
  · rw [if_pos h, if_pos (by rw [nN_lt ha hb]; exact h)]
  · rw [if_neg h, if_neg (by rw [nN_lt ha hb]; exact h)]
theorem hold2_at {c : ab_C} {h g : Int32} {x y z : Nat} (h31 : x ≠ 31) (h34 : x ≠ 34) : rHold2 c h g x y z = rHold1 c h g x y z := by
  unfold rHold2
  refine fo_cell (fun i a => ?_) 4
  unfold fRsh
  split
  · rfl
  · refine (fo_cell (fun k b => ?_) _).trans (u3_o h31)
    unfold fRseen
    split
    · exact u3_o h34
    · rfl
theorem hold_J {N n p g : Nat} {r : ab_C} (hN : 1 ≤ N) (hJ : JJ N n r) (hI : INV n r) (hn : n ≤ 600) (hp : p < N) (hg : g < N) (hgp : g ≠ p) (hc : ¬ r 8 0 p < 3) : JJ N n (rHoldX r (nN p) (sB (nN g))) ∧ (rCt (rHoldX r (nN p) (sB (nN g)))).2.1 = (rCt r).2.1 + (-3) := by
  have h12 := hI.cn.1.2
  obtain ⟨⟨a1, a2, a3⟩, b, c, hd, h4, w, f, gb⟩ := id hJ
  have ep : (nN p).toNatClampNeg = p := nN_nat (by omega)
  have hwp := sS_le (w := w) N hp
  have hwg := sS_le (w := w) N hg
  have hle : 3 ≤ w p := by
    rw [f p hp, show (3 : Int32) = nN 3 from rfl, nN_lt (by omega) (by decide)] at hc
    omega
  obtain ⟨E, hE, eE⟩ := due_nN (rWorthP r (nN p) (sB (nN g)))
  have h3 : (3 : Int32) * 1 = 3 := rfl
  have hv : r 8 0 p - 3 = nN (w p - 3) := by rw [f p hp, show (3 : Int32) = nN 3 from rfl, nN_sub hle]
  have o1 : ∀ s i q, s ≠ 8 → s ≠ 10 → ¬ (s = 61 ∧ q = 10) → rHold1 r (nN p) (sB (nN g)) s i q = r s i q := fun s i q z8 z10 z61 => rHold1_at z8 z10 (by omega)
  have o1c : ∀ q, rHold1 r (nN p) (sB (nN g)) 8 0 q = if q = p then nN (w p - 3) else r 8 0 q := fun q => by
    unfold rHold1
    rw [u3_o (by decide), u3_o (by decide), ep, bc_sB g (by omega), h3, hv, u3_2]
  have hX : rHoldX r (nN p) (sB (nN g)) = fRgift (nN p) (sB (nN g)) (nN E) g (rHold2 r (nN p) (sB (nN g))) := by
    unfold rHoldX
    rw [eE, fo_one (j := g) (m := np r) (fun i a hi hne => ?_) (np r) (Nat.le_refl _), if_pos (by omega)]
    unfold fRgift
    rw [if_neg]
    rw [inS_sB (by omega) (by omega)]
    simpa using hne
  have o2 : ∀ s i q, s ≠ 8 → s ≠ 10 → s ≠ 31 → s ≠ 34 → ¬ (s = 61 ∧ q = 10) → rHold2 r (nN p) (sB (nN g)) s i q = r s i q := fun s i q z8 z10 z31 z34 z61 => (hold2_at z31 z34).trans (o1 s i q z8 z10 z61)
  have o2c : ∀ q, rHold2 r (nN p) (sB (nN g)) 8 0 q = if q = p then nN (w p - 3) else r 8 0 q := fun q => (hold2_at (by decide) (by decide)).trans (o1c q)
  rw [hX]
  generalize rHold2 r (nN p) (sB (nN g)) = B at *
  clear hX
  have hB8 : ∀ i, i < N → B 8 0 i = nN (updN w p (w p - 3) i) := fun i hi => by
    rw [o2c]
    unfold updN
    split
    · rfl
    · exact f i hi
  have hs1 := sS_upd (w := w) (p := p) (x := w p - 3) N
  rw [if_pos hp, if_pos hp] at hs1
  have hBg := hB8 g hg
  rw [updN_ne _ hgp] at hBg
  have hgf : rGf (nN E) (B 8 0 g) = nN (if E < w g then E else w g) := by rw [hBg, gf_nN hE (by omega)]
  have hm : (if E < w g then E else w g) ≤ w g := by split <;> omega
  generalize (if E < w g then E else w g) = m at *
  have hin : inS (sB (nN g)) (nN g) = true := by rw [inS_sB (by omega) (by omega)]; simp
  have hF : fRgift (nN p) (sB (nN g)) (nN E) g B = u3 (u3 B 8 0 g (nN (w g - m))) 8 0 p (nN (w p - 3 + m)) := by
    unfold fRgift
    rw [if_pos hin, ep, hgf, hBg, nN_sub hm, u3_2, if_neg (Ne.symm hgp), hB8 p hp, updN_p, nN_add]
  rw [hF]
  have o : ∀ s i q, s ≠ 8 → s ≠ 10 → s ≠ 31 → s ≠ 34 → ¬ (s = 61 ∧ q = 10) → u3 (u3 B 8 0 g (nN (w g - m))) 8 0 p (nN (w p - 3 + m)) s i q = r s i q := fun s i q z8 z10 z31 z34 z61 => by
    rw [u3_o z8, u3_o z8, o2 s i q z8 z10 z31 z34 z61]
  have o8 : ∀ i, i < N → u3 (u3 B 8 0 g (nN (w g - m))) 8 0 p (nN (w p - 3 + m)) 8 0 i = nN (updN (updN (updN w p (w p - 3)) g (w g - m)) p (w p - 3 + m) i) := fun i hi => by
    rw [u3_2]
    by_cases e : i = p
    · rw [if_pos e, e, updN_p]
    · rw [if_neg e, updN_ne _ e, u3_2]
      by_cases e2 : i = g
      · rw [if_pos e2, e2, updN_p]
      · rw [if_neg e2, updN_ne _ e2]
        exact hB8 i hi
  have hs2 := sS_upd (w := updN w p (w p - 3)) (p := g) (x := w g - m) N
  rw [if_pos hg, if_pos hg, updN_ne _ hgp] at hs2
  have hs3 := sS_upd (w := updN (updN w p (w p - 3)) g (w g - m)) (p := p) (x := w p - 3 + m) N
  rw [if_pos hp, if_pos hp, updN_ne _ (Ne.symm hgp), updN_p] at hs3
  generalize u3 (u3 B 8 0 g (nN (w g - m))) 8 0 p (nN (w p - 3 + m)) = R at *
  have n1 : np R = N := (congrArg Int32.toNatClampNeg (o 35 0 0 (by decide) (by decide) (by decide) (by decide) (by omega))).trans a1
  refine ⟨JJ_cg hN hJ (o 35 0 0 (by decide) (by decide) (by decide) (by decide) (by omega)) (o 36 0 0 (by decide) (by decide) (by decide) (by decide) (by omega)) (o 37 0 0 (by decide) (by decide) (by decide) (by decide) (by omega)) (fun i _ => o 7 0 i (by decide) (by decide) (by decide) (by decide) (by omega)) (fun i s _ _ _ => ⟨o 15 i s (by decide) (by decide) (by decide) (by decide) (by omega), o 17 i s (by decide) (by decide) (by decide) (by decide) (by omega)⟩) (by unfold dayN; rw [o 61 0 6 (by decide) (by decide) (by decide) (by decide) (by omega)]; exact Nat.le_refl _) (o 3 0 0 (by decide) (by decide) (by decide) (by decide) (by omega)) (o 4 0 0 (by decide) (by decide) (by decide) (by decide) (by omega)) (fun i _ => o 13 0 i (by decide) (by decide) (by decide) (by decide) (by omega)) ⟨_, o8, by omega⟩, ?_⟩
  rw [CO.sum (B := 0) n1 o8, CO.sum (B := 0) a1 f]
  have e : sS w N = sS (updN (updN (updN w p (w p - 3)) g (w g - m)) p (w p - 3 + m)) N + 3 := by omega
  rw [e, ← nN_add, show nN 3 = (3 : Int32) from rfl, Int32.add_assoc, show (3 : Int32) + -3 = 0 from rfl, Int32.add_zero]
/-! people come -/
/-- while the school is written: all live, all but the first have a teacher; who was given a step in this round, has K + 1 at most, the others K -/
def WI (N i K : Nat) (r : ab_C) : Prop := (∀ j, j < N → ¬ r 13 0 j = 0) ∧ ∀ j, 1 ≤ j → j < N → ¬ r 5 0 j = -1 ∧ (r 7 0 j).toNatClampNeg ≤ (if j < i then K + 1 else K)
theorem per_J {N n t : Nat} {k : Int32} {r : ab_C} (hN : 1 ≤ N) (hN2 : N < 12) (hJ : JJ N n r) (hI : INV n r) (ht : t < N) (hW : WI N 0 0 r) : JJ (N + 1) (n + 1) (rPerX r (nN t) k (r 9 0 t)) ∧ WI (N + 1) 0 0 (rPerX r (nN t) k (r 9 0 t)) := by
  obtain ⟨⟨a1, a2, a3⟩, b, c, hd, h4, w, f, g⟩ := id hJ
  have e1 : ∀ a i q, a ≠ 15 → a ≠ 17 → rPerX r (nN t) k (r 9 0 t) a i q = perX r (nN t) k (r 9 0 t) 0 N a i q := fun a i q z1 z2 => by rw [per_r hI a i q z1 z2, a1]
  have e15 : ∀ a i q, i ≠ N → (a = 15 ∨ a = 17) → rPerX r (nN t) k (r 9 0 t) a i q = r a i q := fun a i q z1 z2 => per_r15 a i q (by rw [a1]; exact z1) z2
  obtain ⟨v5, v9, v7, v13, v12⟩ := perX_5 (c := r) (t := nN t) (k := k) (h := r 9 0 t) (s := 0) (m := N)
  have p35 : perX r (nN t) k (r 9 0 t) 0 N 35 0 0 = nN (N + 1) := u3_in
  have p8 : perX r (nN t) k (r 9 0 t) 0 N 8 0 N = 60 := by
    unfold perX
    rw [u3_o (by decide), u3_o (by decide), u3_in]
  have oj : ∀ a q, a ≠ 15 → a ≠ 17 → a ≠ 35 → q ≠ N → rPerX r (nN t) k (r 9 0 t) a 0 q = r a 0 q := fun a q z15 z17 z35 hq => by rw [e1 _ _ _ z15 z17, perX_j z35 hq]
  have oe : ∀ a i q, a ≠ 15 → a ≠ 17 → a < 5 ∨ 13 < a → a ≠ 35 → rPerX r (nN t) k (r 9 0 t) a i q = r a i q := fun a i q z15 z17 z5 z35 => by rw [e1 _ _ _ z15 z17, perX_e z5 z35]
  have w5 := (e1 5 0 N (by decide) (by decide)).trans v5
  have w7 := (e1 7 0 N (by decide) (by decide)).trans v7
  have w13 := (e1 13 0 N (by decide) (by decide)).trans v13
  have w8 := (e1 8 0 N (by decide) (by decide)).trans p8
  have w35 := (e1 35 0 0 (by decide) (by decide)).trans p35
  generalize rPerX r (nN t) k (r 9 0 t) = R at *
  have n1 : np R = N + 1 := by
    show (R 35 0 0).toNatClampNeg = _
    rw [w35, nN_nat (by omega)]
  have o8 : ∀ i, i < N + 1 → R 8 0 i = nN (updN w N 60 i) := fun i hi => by
    by_cases e : i = N
    · rw [e, updN_p]; exact w8
    · rw [updN_ne _ e, oj 8 i (by decide) (by decide) (by decide) e]
      exact f i (by omega)
  have hs : sS (updN w N 60) (N + 1) = sS w N + 60 := by
    rw [sS_s, updN_p]
    exact congrArg (fun z => z + 60) (sS_congr N (fun i hi => updN_ne _ (by omega)))
  refine ⟨⟨⟨n1, (congrArg Int32.toNatClampNeg (oe 36 0 0 (by decide) (by decide) (by omega) (by decide))).trans a2, (congrArg Int32.toNatClampNeg (oe 37 0 0 (by decide) (by decide) (by omega) (by decide))).trans a3⟩, FD_cg b (oj 7 0 (by decide) (by decide) (by decide) (by omega)) (fun s _ _ => e15 15 0 s (by omega) (Or.inl rfl)), ?_, ?_, (oe 4 0 0 (by decide) (by decide) (by omega) (by decide)).trans h4, ⟨_, o8, by omega⟩⟩, ?_, ?_⟩
  · intro j s j1 j2 s1 s2 hs
    by_cases e : j = N
    · exfalso
      rw [e, w7, show (0 : Int32) = nN 0 from rfl, nN_lt (by decide) (by omega)] at hs
      omega
    · rw [oj 7 j (by decide) (by decide) (by decide) e] at hs
      obtain ⟨q, d, ⟨q1, q2⟩, q3, q4, q5, q6⟩ := c j s j1 (by omega) s1 s2 hs
      refine ⟨q, d, ⟨by omega, q2⟩, (e15 15 j s e (Or.inl rfl)).trans q3, ?_, (e15 17 j s e (Or.inr rfl)).trans q5, ?_⟩
      · rw [oj 7 q (by decide) (by decide) (by decide) (by omega)]
        exact q4
      · unfold dayN at *
        rw [oe 61 0 6 (by decide) (by decide) (by omega) (by decide)]
        exact q6
  · rcases hd with ⟨x1, x2⟩ | ⟨x, x1, x2, x3⟩
    · exact absurd (x2 t ht) (hW.1 t ht)
    · refine Or.inr ⟨x, by omega, (oe 3 0 0 (by decide) (by decide) (by omega) (by decide)).trans x2, ?_⟩
      rw [oj 13 x (by decide) (by decide) (by decide) (by omega)]
      exact x3
  · intro j hj
    by_cases e : j = N
    · rw [e, w13]; decide
    · rw [oj 13 j (by decide) (by decide) (by decide) e]
      exact hW.1 j (by omega)
  · intro j j1 j2
    by_cases e : j = N
    · rw [e, w5, w7]
      exact ⟨nNm1 (by omega), Nat.zero_le _⟩
    · rw [oj 5 j (by decide) (by decide) (by decide) e, oj 7 j (by decide) (by decide) (by decide) e]
      exact hW.2 j j1 (by omega)
theorem fou_J {n : Nat} {c r : ab_C} (hS : ST n c r) (h0 : np r = 0) (hs : nsc r = 0) : JJ 1 (n + 1) (rFouX r (-1)) ∧ WI 1 0 0 (rFouX r (-1)) := by
  have hh0 := hS.2.1.hz h0
  have hc0 : np c = 0 := hS.1.gnp.trans h0
  have hch0 : nh c = 0 := hS.1.gnh.trans hh0
  have eC := per_c (c := c) (t := -1) (k := -1) (h := 0) (s := 9) (by rw [hS.1.gnp, hS.1.c35]; exact hS.2.1.cn.1.1)
  rw [hc0] at eC
  have eC2 : cFound c = addH (putG (perX c (-1) (-1) 0 9 0) 0 (-1)) 0 0 := by
    unfold cFound cHAdd
    rw [eC, hc0]
    have : nh (putG (perX c (-1) (-1) 0 9 0) 0 (-1)) = 0 := by
      show (putG (perX c (-1) (-1) 0 9 0) 0 (-1) 36 0 0).toNatClampNeg = 0
      rw [putG_o (by decide) (by decide), perX_e (by omega) (by decide)]
      exact hch0
    rw [this]
    rfl
  have hE := (fou_ST hS h0).1
  rw [eC2] at hE
  generalize rFouX r (-1) = R at *
  have q2 : ∀ a i q, a ≠ 15 → a ≠ 17 → a ≠ 3 → a ≠ 4 → a ≠ 36 → addH (putG (perX c (-1) (-1) 0 9 0) 0 (-1)) 0 0 a i q = perX c (-1) (-1) 0 9 0 a i q := fun a i q h1 h2 h3 h4 h5 => by rw [addH_e h3 h4 h5, putG_o h1 h2]
  obtain ⟨v5, v9, v7, v13, v12⟩ := perX_5 (c := c) (t := -1) (k := -1) (h := 0) (s := 9) (m := 0)
  have p8 : perX c (-1) (-1) 0 9 0 8 0 0 = 60 := by
    unfold perX
    rw [u3_o (by decide), u3_o (by decide), u3_in]
  have r7 : R 7 0 0 = 9 := by rw [← hE.st 7 rfl, q2 _ _ _ (by decide) (by decide) (by decide) (by decide) (by decide)]; exact v7
  have r13 : R 13 0 0 = 1 := by rw [← hE.st 13 rfl, q2 _ _ _ (by decide) (by decide) (by decide) (by decide) (by decide)]; exact v13
  have r8 : R 8 0 0 = 60 := by rw [← hE.st 8 rfl, q2 _ _ _ (by decide) (by decide) (by decide) (by decide) (by decide)]; exact p8
  have r3 : R 3 0 0 = 0 := by rw [← hE.st 3 rfl, addH_3, if_pos rfl]
  have r4 : R 4 0 0 = -1 := by rw [← hE.st 4 rfl, addH_4, if_pos rfl]
  have r35 : R 35 0 0 = nN 1 := by rw [← hE.c35, q2 _ _ _ (by decide) (by decide) (by decide) (by decide) (by decide)]; exact u3_in
  have r36 : R 36 0 0 = nN 1 := by rw [← hE.c36]; exact u3_in
  have r37 : R 37 0 0 = r 37 0 0 := by rw [← hE.c37, q2 _ _ _ (by decide) (by decide) (by decide) (by decide) (by decide), perX_e (by omega) (by decide)]; exact hS.1.c37
  have n1 : np R = 1 := by
    show (R 35 0 0).toNatClampNeg = _
    rw [r35]; rfl
  have one : ∀ j, j < 1 → j = 0 := fun j hj => by omega
  refine ⟨⟨⟨n1, ?_, (congrArg Int32.toNatClampNeg r37).trans hs⟩, ⟨r7, fun s s1 s2 => ?_⟩, fun k s k1 k2 => by omega, Or.inr ⟨0, by omega, r3, by rw [r13]; decide⟩, r4, ⟨fun _ => 60, fun i hi => ?_, ?_⟩⟩, fun j hj => ?_, fun j j1 j2 => by omega⟩
  · show (R 36 0 0).toNatClampNeg = _
    rw [r36]; rfl
  · have := (hE.held (i := 0) (k := s) (by omega) s1 s2 (by rw [r7, show (9 : Int32) = nN 9 from rfl, nN_lt (by decide) (by omega)]; omega)).1
    rw [← this, addH_e (by decide) (by decide) (by decide)]
    exact if_pos ⟨Or.inl rfl, rfl, s2⟩
  · rw [one i hi]; exact r8
  · show 0 + 60 ≤ _
    omega
  · rw [one j hj, r13]; decide
