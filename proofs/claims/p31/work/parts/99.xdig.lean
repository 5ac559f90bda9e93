/-! digests -/
theorem tl0 : (0 : Int32).toInt64 = 0 := rfl
theorem has_nN_r {n : Nat} {r : ab_C} (hi : INV n r) {k : Nat} (hk : k < np r) : inb (nN k) (np r) := by
  rw [inb_nN (by have := hi.cn.1.2; omega)]; exact hk
theorem mixP_eq {n : Nat} {c r : ab_C} (h : ST n c r) {k : Nat} (hk : k < np r) (d : Int64) : (cMixP c d (nN k)).1 = fDp r k d ∧ ST n (cMixP c d (nN k)).2 r := by
  have h12 := h.2.1.cn.1.2
  have hp := has_nN_r h.2.1 hk
  have ek : (nN k).toNatClampNeg = k := nN_nat (by omega)
  have e1 : ∀ m, m ≤ 12 → fo (fMp1 c (nN k)) d m = fo (fDp1 r k) d m := by
    intro m hm
    refine fo_congr m (fun i a hi => ?_)
    simp only [fMp1, fDp1, mx]
    rw [cOfP_eq h.1 h.2.1 hp i (by omega)]
  have e2 : mx (fo (fMp1 c (nN k)) d 12) (cWLose c (nN k)) = fo (fDp1 r k) d 12 * 31 + rDl r k := by
    rw [e1 12 (Nat.le_refl _), cWLose_eq h.1 h.2.1 hp, ek]
    unfold mx rDl
    split
    · rw [tl0]
    · rfl
  have hr7 := h.2.1.rv.2.2.2.2.2 k hk
  have main : ∀ m, m ≤ (r 7 0 k).toNatClampNeg → (fo (fMp2 (nN k)) (mx (fo (fMp1 c (nN k)) d 12) (cWLose c (nN k)), c) m).1 = fo (fDp2 r k) (fo (fDp1 r k) d 12 * 31 + rDl r k) m ∧ ST n (fo (fMp2 (nN k)) (mx (fo (fMp1 c (nN k)) d 12) (cWLose c (nN k)), c) m).2 r := by
    intro m
    induction m with
    | zero => intro _; exact ⟨e2, h⟩
    | succ m ih =>
      intro hm
      obtain ⟨a1, a2⟩ := ih (by omega)
      show (fMp2 (nN k) m (fo (fMp2 (nN k)) (mx (fo (fMp1 c (nN k)) d 12) (cWLose c (nN k)), c) m)).1 = fDp2 r k m (fo (fDp2 r k) (fo (fDp1 r k) d 12 * 31 + rDl r k) m) ∧ ST n (fMp2 (nN k) m (fo (fMp2 (nN k)) (mx (fo (fMp1 c (nN k)) d 12) (cWLose c (nN k)), c) m)).2 r
      rw [← a1]
      generalize fo (fMp2 (nN k)) (mx (fo (fMp1 c (nN k)) d 12) (cWLose c (nN k)), c) m = S at *
      obtain ⟨e', hl⟩ := inb_eq hr7
      have hs : cRng (nN (m + 1)) 1 9 = true := rng_nN1 (by omega) (by omega)
      have hh : ¬ r 7 0 (nN k).toNatClampNeg < nN (m + 1) := by rw [ek, e', nN_lt (by omega) (by omega)]; omega
      unfold fMp2 fDp2 mx
      rw [cGiv_eq a2.1 hp hs, cGiv_eq a2.1 hp hs]
      exact ⟨by rw [cFall_eq a2.1 a2.2.1 hp hs hh], AD_DP a2 (fall_DP a2 hp hs)⟩
  unfold cMixP fDp
  have e7 : (c 7 0 (nN k).toNatClampNeg).toNatClampNeg = (r 7 0 k).toNatClampNeg := by rw [ek, rI_s h 7 _ rfl]
  rw [e7]
  exact main _ (Nat.le_refl _)
theorem digest_eq {n : Nat} {c r : ab_C} (h : ST n c r) (hn : n ≤ 600) : cDigest c = rDigest r ∧ ST n (cDg2 c).2 r := by
  obtain ⟨⟨-, h12⟩, ⟨-, h4⟩, ⟨-, h8⟩, ⟨-, hu⟩⟩ := h.2.1.cn
  have e1 : fo (fDg1 c) 58226 14 = rDig1 r := by
    unfold rDig1
    refine fo_congr 14 (fun i a hi => ?_)
    simp only [fDg1, fDm, mx]
    rw [cMany_eq h.1 h.2.1 i hi]
  have main : ∀ k, k ≤ np r → (fo fDg2 (fo (fDg1 c) 58226 14, c) k).1 = fo (fDp r) (rDig1 r) k ∧ ST n (fo fDg2 (fo (fDg1 c) 58226 14, c) k).2 r := by
    intro k
    induction k with
    | zero => intro _; exact ⟨e1, h⟩
    | succ k ih =>
      intro hk
      obtain ⟨a1, a2⟩ := ih (by omega)
      show (fDg2 k (fo fDg2 (fo (fDg1 c) 58226 14, c) k)).1 = fDp r k (fo (fDp r) (rDig1 r) k) ∧ ST n (fDg2 k (fo fDg2 (fo (fDg1 c) 58226 14, c) k)).2 r
      rw [← a1]
      exact mixP_eq a2 (by omega) _
  have m2 := main (np r) (Nat.le_refl _)
  rw [← h.1.gnp] at m2
  obtain ⟨b1, b2⟩ := m2
  have eg : fo fDg2 (fo (fDg1 c) 58226 14, c) (np c) = cDg2 c := rfl
  rw [eg] at b1 b2
  have b1' : (cDg2 c).1 = rDig2 r := by rw [b1, h.1.gnp]; rfl
  refine ⟨?_, b2⟩
  unfold cDigest
  rw [b1']
  have e3 : fo (fDHs (cDg2 c).2) (rDig2 r) (nh c) = rDig3 r := by
    unfold rDig3
    rw [h.1.gnh]
    refine fo_congr _ (fun i a hi => ?_)
    simp only [fDHs, fDh]
    refine fo_congr 5 (fun w a hw => ?_)
    simp only [fDH, fDh1, mx]
    rw [cOfH_eq b2.1 b2.2.1 (by rw [inb_nN (by omega)]; exact hi) w hw]
  rw [e3]
  have e4 : fo (fDSs (cDg2 c).2) (rDig3 r) (nsc c) = rDig4 r := by
    unfold rDig4
    rw [h.1.gnsc]
    refine fo_congr _ (fun i a hi => ?_)
    simp only [fDSs, fDs]
    refine fo_congr 7 (fun w a hw => ?_)
    simp only [fDS, fDs1, mx]
    rw [cOfS_eq b2.1 b2.2.1 w hw]
  rw [e4]
  unfold rDigest
  rw [h.1.gnu]
  refine fo_congr _ (fun i a hi => ?_)
  simp only [fDUs, fDu]
  refine fo_congr 8 (fun w a hw => ?_)
  simp only [fDU, fDu1, mx]
  rw [cOfU_eq b2.1 b2.2.1 hn (by rw [inb_nN (by omega)]; exact hi) w hw]

