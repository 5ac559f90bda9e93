/-! p31: deaths, revocations -/
theorem nNm1 {j : Nat} (h : j < 2147483648) : ¬ nN j = -1 := fun e => by
  have := nN_neg h
  rw [e] at this
  exact this (by decide)
theorem fHi_ex {r : ab_C} {f : Nat → Bool} : ∀ n, (fo (fHi r f) (-1) n = -1 ∧ ∀ i, i < n → f i = false) ∨ ∃ j, j < n ∧ f j = true ∧ fo (fHi r f) (-1) n = nN j
  | 0 => Or.inl ⟨rfl, fun i hi => absurd hi (Nat.not_lt_zero _)⟩
  | n + 1 => by
    have ih := fHi_ex (r := r) (f := f) n
    have e : fo (fHi r f) (-1) (n + 1) = fHi r f n (fo (fHi r f) (-1) n) := rfl
    rw [e]
    generalize fo (fHi r f) (-1) n = a at *
    unfold fHi
    by_cases z : f n = true
    · rw [if_pos z]
      by_cases z2 : a = -1
      · rw [if_pos z2]; exact Or.inr ⟨n, by omega, z, rfl⟩
      · rw [if_neg z2]
        split
        · exact Or.inr ⟨n, by omega, z, rfl⟩
        · rcases ih with ⟨h1, -⟩ | ⟨j, h1, h2, h3⟩
          · exact absurd h1 z2
          · exact Or.inr ⟨j, by omega, h2, h3⟩
    · rw [if_neg z]
      rcases ih with ⟨h1, h2⟩ | ⟨j, h1, h2, h3⟩
      · refine Or.inl ⟨h1, fun i hi => ?_⟩
        by_cases y : i = n
        · rw [y]; simpa using z
        · exact h2 i (by omega)
      · exact Or.inr ⟨j, by omega, h2, h3⟩
theorem next_J {r : ab_C} {N d : Nat} (hn : np r = N) (hN : N ≤ 12) (hd : d < N) (h4 : r 4 0 0 = -1) : (rNext r 0 (nN d) = -1 ∧ ∀ i, i < N → i ≠ d → r 9 0 i = 0 → r 13 0 i = 0) ∨ ∃ j, j < N ∧ j ≠ d ∧ rNext r 0 (nN d) = nN j ∧ ¬ r 13 0 j = 0 := by
  have e0 : rNext r 0 (nN d) = if (rNx r 0 (nN d)).2 = -1 then (rNx r 0 (nN d)).1 else (rNx r 0 (nN d)).2 := by
    unfold rNext
    rw [show (0 : Int32).toNatClampNeg = 0 from rfl, if_pos h4]
  rw [e0, rNx_eq, hn]
  simp only
  have key : ∀ j, j < N → (! decide (nN j = nN d) && liv r 0 j) = true → j ≠ d ∧ ¬ r 13 0 j = 0 := fun j hj h => by
    unfold liv at h
    simp only [Bool.and_eq_true, Bool.not_eq_true', decide_eq_false_iff_not, decide_eq_true_eq] at h
    exact ⟨fun e => h.1 (by rw [e]), h.2.1⟩
  rcases fHi_ex (r := r) (f := fun i => (! decide (nN i = nN d) && liv r 0 i) && decide (r 6 0 i = nN d)) N with ⟨a1, a2⟩ | ⟨j, a1, a2, a3⟩
  · rw [if_pos a1]
    rcases fHi_ex (r := r) (f := fun i => ! decide (nN i = nN d) && liv r 0 i) N with ⟨b1, b2⟩ | ⟨j, b1, b2, b3⟩
    · refine Or.inl ⟨b1, fun i hi hne h9 => ?_⟩
      have := b2 i hi
      unfold liv at this
      have hne2 : ¬ nN i = nN d := fun e => hne (by rw [nN_inj (by omega) (by omega)] at e; exact e)
      by_cases z : r 13 0 i = 0
      · exact z
      · simp [hne2, h9, z] at this
    · obtain ⟨c1, c2⟩ := key j b1 b2
      exact Or.inr ⟨j, b1, c1, b3, c2⟩
  · have a4 : ¬ fo (fHi r (fun i => (! decide (nN i = nN d) && liv r 0 i) && decide (r 6 0 i = nN d))) (-1) N = -1 := by
      rw [a3]; exact nNm1 (by omega)
    rw [if_neg a4]
    simp only [Bool.and_eq_true] at a2
    obtain ⟨c1, c2⟩ := key j a1 (by simpa [Bool.and_eq_true] using a2.1)
    exact Or.inr ⟨j, a1, c1, a3, c2⟩
theorem die_J {N n p : Nat} {r : ab_C} (hN : 1 ≤ N) (hJ : JJ N n r) (hI : INV n r) (hp : p < N) (hl : ¬ r 13 0 p = 0) : JJ N n (rDieX r (nN p)) ∧ (rCt (rDieX r (nN p))).2.1 = (rCt r).2.1 := by
  have h12 := hI.cn.1.2
  obtain ⟨⟨a1, a2, a3⟩, b, c, hd, h4, w, f, g⟩ := id hJ
  have ek : (nN p).toNatClampNeg = p := nN_nat (by omega)
  have h9 : ∀ i, i < N → r 9 0 i = 0 := fun i hi => by
    obtain ⟨x1, x2⟩ := inb_eq (hI.rv.2.1 i (by omega))
    rw [a2] at x2
    rw [x1, show (r 9 0 i).toNatClampNeg = 0 by omega]
    rfl
  have e1 : rDie1 r (nN p) = r := by
    unfold rDie1
    rw [a3]; rfl
  have hX : ∀ H : ab_C, rDieH r (nN p) = H → rDieX r (nN p) = u3 H 13 0 p 0 := fun H hH => by
    unfold rDieX
    rw [e1, hH, ek]
  have hH : rDieH r (nN p) = if r 3 0 0 = nN p then (if rNext r 0 (nN p) = -1 then rDie2 r 0 (rNext r 0 (nN p)) else rDie3 r (nN p) 0 (rNext r 0 (nN p))) else r := by
    unfold rDieH
    rw [ek, h9 p hp]
    rfl
  have main : ∃ H : ab_C, rDieH r (nN p) = H ∧ (∀ s i q, s ≠ 3 → s ≠ 4 → s ≠ 5 → H s i q = r s i q) ∧ H 4 0 0 = -1 ∧ ((H 3 0 0 = -1 ∧ ∀ i, i < N → i ≠ p → r 13 0 i = 0) ∨ ∃ j, j < N ∧ j ≠ p ∧ H 3 0 0 = nN j ∧ ¬ r 13 0 j = 0) := by
    have o2 : ∀ (x : Int32) s i q, s ≠ 3 → s ≠ 4 → rDie2 r 0 x s i q = r s i q := fun x s i q z3 z4 => by
      unfold rDie2
      rw [u3_o z4, u3_o z3]
    have o4 : ∀ x : Int32, rDie2 r 0 x 4 0 0 = -1 := fun x => u3_in
    have o3 : ∀ x : Int32, rDie2 r 0 x 3 0 0 = x := fun x => by
      unfold rDie2
      rw [u3_o (by decide)]
      exact u3_in
    by_cases z : r 3 0 0 = nN p
    · rw [hH, if_pos z]
      rcases next_J a1 (by omega) hp h4 with ⟨x1, x2⟩ | ⟨j, x1, x2, x3, x4⟩
      · rw [if_pos x1]
        refine ⟨_, rfl, fun s i q y3 y4 _ => o2 _ s i q y3 y4, o4 _, Or.inl ⟨(o3 _).trans x1, fun i hi hne => x2 i hi hne (h9 i hi)⟩⟩
      · have x5 : ¬ rNext r 0 (nN p) = -1 := by rw [x3]; exact nNm1 (by omega)
        rw [if_neg x5]
        have o5 : ∀ s i q, s ≠ 5 → rDie3 r (nN p) 0 (rNext r 0 (nN p)) s i q = rDie2 r 0 (rNext r 0 (nN p)) s i q := fun s i q y5 => by
          unfold rDie3
          rw [u3_o y5, fRdt_w, wS_ne y5]
        exact ⟨_, rfl, fun s i q y3 y4 y5 => (o5 s i q y5).trans (o2 _ s i q y3 y4), (o5 4 0 0 (by decide)).trans (o4 _), Or.inr ⟨j, x1, x2, ((o5 3 0 0 (by decide)).trans (o3 _)).trans x3, x4⟩⟩
    · rw [hH, if_neg z]
      refine ⟨_, rfl, fun _ _ _ _ _ _ => rfl, h4, ?_⟩
      rcases hd with ⟨y1, y2⟩ | ⟨j, y1, y2, y3⟩
      · exact absurd (y2 p hp) hl
      · exact Or.inr ⟨j, y1, fun e => z (by rw [y2, e]), y2, y3⟩
  obtain ⟨H, m1, m2, m3, m4⟩ := main
  rw [hX H m1]
  have o : ∀ s i q, s ≠ 3 → s ≠ 4 → s ≠ 5 → s ≠ 13 → u3 H 13 0 p 0 s i q = r s i q := fun s i q y3 y4 y5 y13 => by rw [u3_o y13, m2 s i q y3 y4 y5]
  have o13 : ∀ q, u3 H 13 0 p 0 13 0 q = if q = p then 0 else r 13 0 q := fun q => by
    rw [u3_2]
    split
    · rfl
    · exact m2 _ _ _ (by decide) (by decide) (by decide)
  have n1 : np (u3 H 13 0 p 0) = N := (congrArg Int32.toNatClampNeg (o 35 0 0 (by decide) (by decide) (by decide) (by decide))).trans a1
  have f8 : ∀ i, i < N → u3 H 13 0 p 0 8 0 i = nN (w i) := fun i hi => (o 8 0 i (by decide) (by decide) (by decide) (by decide)).trans (f i hi)
  refine ⟨⟨⟨n1, (congrArg Int32.toNatClampNeg (o 36 0 0 (by decide) (by decide) (by decide) (by decide))).trans a2, (congrArg Int32.toNatClampNeg (o 37 0 0 (by decide) (by decide) (by decide) (by decide))).trans a3⟩, FD_cg b (o 7 0 0 (by decide) (by decide) (by decide) (by decide)) (fun s _ _ => o 15 0 s (by decide) (by decide) (by decide) (by decide)), GV_cg c (fun i _ => o 7 0 i (by decide) (by decide) (by decide) (by decide)) (fun i s _ _ _ => ⟨o 15 i s (by decide) (by decide) (by decide) (by decide), o 17 i s (by decide) (by decide) (by decide) (by decide)⟩) (by unfold dayN; rw [o 61 0 6 (by decide) (by decide) (by decide) (by decide)]; exact Nat.le_refl _), ?_, ?_, ⟨w, f8, g⟩⟩, ?_⟩
  · rcases m4 with ⟨y1, y2⟩ | ⟨j, y1, y2, y3, y4⟩
    · refine Or.inl ⟨(u3_o (by decide)).trans y1, fun i hi => ?_⟩
      rw [o13]
      split
      · rfl
      · next e => exact y2 i hi e
    · refine Or.inr ⟨j, y1, (u3_o (by decide)).trans y3, ?_⟩
      rw [o13, if_neg y2]
      exact y4
  · exact (u3_o (by decide)).trans m3
  · rw [CO.sum (B := 0) n1 f8, CO.sum (B := 0) a1 f]
/-! a step revoked -/
theorem w0_eq {n i : Nat} {r : ab_C} (hI : INV n r) (hi : i < np r) : r 7 0 i = nN (w0 r i) ∧ w0 r i ≤ 9 := by
  obtain ⟨e, h⟩ := inb_eq (hI.rv.2.2.2.2.2 i hi)
  unfold w0
  rw [if_pos hi]
  exact ⟨e, by omega⟩
theorem rev_J {N n p s : Nat} {r : ab_C} (hN : 1 ≤ N) (hJ : JJ N n r) (hI : INV n r) (hp : p < N) (hs1 : 1 ≤ s) (hs9 : s < 10) (hh : ¬ r 7 0 p < nN s) (hg : ¬ r 15 p s = -1) : JJ N n (rRevX r (nN p) (nN s)) ∧ (rCt (rRevX r (nN p) (nN s))).2.1 = (rCt r).2.1 := by
  have h12 := hI.cn.1.2
  obtain ⟨⟨a1, a2, a3⟩, ⟨b1, b2⟩, c, hd, h4, w, f, g⟩ := id hJ
  have hp0 : p ≠ 0 := fun e => hg (by rw [e]; exact b2 s hs1 hs9)
  have hw : ∀ i, i < N → r 7 0 i = nN (w0 r i) ∧ w0 r i ≤ 9 := fun i hi => w0_eq hI (by omega)
  have hsp : s ≤ w0 r p := by
    have := (hw p hp).2
    rw [(hw p hp).1, nN_lt (by omega) (by omega)] at hh
    omega
  obtain ⟨g1, -, -, g4, g5⟩ := rFall_GD (c := r) 12 p s (w0 r) (by omega) hs1 hsp (Nat.le_trans (cnw_n _ _ _) h12)
  have eX : rRevX r (nN p) (nN s) = u3 (wS 7 (fun q => if q < np r then nN (rFall r 12 p s (w0 r) q) else r 7 0 q) r) 61 0 8 ((wS 7 (fun q => if q < np r then nN (rFall r 12 p s (w0 r) q) else r 7 0 q) r) 61 0 8 + rFalling r (nN p) (nN s)) := by
    unfold rRevX
    rw [nN_nat (by omega), nN_nat (by omega), fRst_w]
  generalize rFall r 12 p s (w0 r) = v at *
  rw [eX]
  generalize (wS 7 (fun q => if q < np r then nN (v q) else r 7 0 q) r) 61 0 8 + rFalling r (nN p) (nN s) = y
  have o : ∀ a i q, a ≠ 7 → ¬ (a = 61 ∧ q = 8) → u3 (wS 7 (fun q => if q < np r then nN (v q) else r 7 0 q) r) 61 0 8 y a i q = r a i q := fun a i q z7 z61 => by
    rw [u3_ap, if_neg (fun z => z61 ⟨z.1, z.2.2⟩), wS_ne z7]
  have o7 : ∀ q, q < N → u3 (wS 7 (fun q => if q < np r then nN (v q) else r 7 0 q) r) 61 0 8 y 7 0 q = nN (v q) := fun q hq => by
    rw [u3_o (by decide), wS_at, if_pos (by omega)]
  generalize u3 (wS 7 (fun q => if q < np r then nN (v q) else r 7 0 q) r) 61 0 8 y = R at *
  have n1 : np R = N := (congrArg Int32.toNatClampNeg (o 35 0 0 (by decide) (by omega))).trans a1
  have f8 : ∀ i, i < N → R 8 0 i = nN (w i) := fun i hi => (o 8 0 i (by decide) (by omega)).trans (f i hi)
  have w00 : w0 r 0 = 9 := by
    unfold w0
    rw [if_pos (by omega), b1]
    rfl
  have v0 : v 0 = 9 := by
    have hle := g1 0
    have hge : (fun i => if i = 0 then 9 else 0 : Nat → Nat) 0 ≤ v 0 := by
      refine g5 (fun i => if i = 0 then 9 else 0) (w0 r) (fun _ => Nat.le_refl _) ?_ (fun i => ?_) ?_ 0
      · intro i q t hi hq h1 ht hG hu htq
        by_cases e : i = 0
        · subst e
          exfalso
          unfold Gv at hG
          rw [b2 t h1 (by omega)] at hG
          exact nNm1 (by omega) hG.symm
        · show (if i = 0 then 9 else 0) < t
          rw [if_neg e]; omega
      · show (if i = 0 then 9 else 0) ≤ w0 r i
        split
        · next e => rw [e, w00]; exact Nat.le_refl _
        · exact Nat.zero_le _
      · show (if p = 0 then 9 else 0) < s
        rw [if_neg hp0]; omega
    have hge2 : 9 ≤ v 0 := hge
    omega
  refine ⟨⟨⟨n1, (congrArg Int32.toNatClampNeg (o 36 0 0 (by decide) (by omega))).trans a2, (congrArg Int32.toNatClampNeg (o 37 0 0 (by decide) (by omega))).trans a3⟩, ⟨by rw [o7 0 (by omega), v0]; rfl, fun t x1 x2 => (o 15 0 t (by decide) (by omega)).trans (b2 t x1 x2)⟩, ?_, HD_cg hd (o 3 0 0 (by decide) (by omega)) (fun i _ => o 13 0 i (by decide) (by omega)), (o 4 0 0 (by decide) (by omega)).trans h4, ⟨w, f8, g⟩⟩, ?_⟩
  · intro k t k1 k2 t1 t2 ht
    have vk := g1 k
    have wk := hw k k2
    rw [o7 k k2, nN_lt (by omega) (by omega)] at ht
    obtain ⟨q, d, ⟨q1, q2⟩, q3, q4, q5, q6⟩ := c k t k1 k2 t1 t2 (by rw [wk.1, nN_lt (by omega) (by omega)]; omega)
    have wq := hw q q1
    rw [wq.1, nN_lt (by omega) (by omega)] at q4
    refine ⟨q, d, ⟨q1, q2⟩, (o 15 k t (by decide) (by omega)).trans q3, ?_, (o 17 k t (by decide) (by omega)).trans q5, by unfold dayN at *; rw [o 61 0 6 (by decide) (by omega)]; exact q6⟩
    have vq := g1 q
    rw [o7 q q1, nN_lt (by omega) (by omega)]
    intro hlt
    exact ht (g4 k q t (by omega) (by omega) t1 (by omega) hlt q3)
  · rw [CO.sum (B := 0) n1 f8, CO.sum (B := 0) a1 f]
