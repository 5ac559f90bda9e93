/-! deaths -/
theorem lose_ST {n : Nat} {s : Int32} {c r : ab_C} (h : ST n c r) : ∀ k, k ≤ nsc r → ST n (fo (fLose s) c k) (fo (fRdl s) r k) ∧ ∀ a i q, a ≠ 24 → fo (fRdl s) r k a i q = r a i q := by
  intro k
  induction k with
  | zero => intro _; exact ⟨h, fun _ _ _ _ => rfl⟩
  | succ k ih =>
    intro hk
    obtain ⟨h1, h2⟩ := ih (by omega)
    show ST n (fLose s k (fo (fLose s) c k)) (fRdl s k (fo (fRdl s) r k)) ∧ ∀ a i q, a ≠ 24 → fRdl s k (fo (fRdl s) r k) a i q = r a i q
    have e37 : nsc (fo (fRdl s) r k) = nsc r := congrArg Int32.toNatClampNeg (h2 37 0 0 (by decide))
    generalize fo (fLose s) c k = a at *
    generalize fo (fRdl s) r k = b at *
    unfold fLose fRdl
    split
    · refine ⟨ST_u h1 rfl (by decide) (by decide) (RG_u3 h1.2.1.rg rfl) (rg_s (by decide) (by decide) (by omega)) (fun _ => Or.inr rfl) (by omega), fun x i q hx => ?_⟩
      rw [u3_ap, if_neg (fun z => hx z.1)]
      exact h2 x i q hx
    · exact ⟨h1, h2⟩
theorem rNext_13 {r : ab_C} {h : Int32} {j : Nat} (hv : RV r) (hh : inb h (nh r)) (hn : np r ≤ 12) (hj : j < np r) : rNext (u3 r 13 0 j 0) h (nN j) = rNext r h (nN j) := by
  have e : ∀ s i q, s ≠ 13 → u3 r 13 0 j 0 s i q = r s i q := fun s i q hs => by rw [u3_ap, if_neg (fun z => hs z.1)]
  have e13 : ∀ q, q ≠ j → u3 r 13 0 j 0 13 0 q = r 13 0 q := fun q hq => by rw [u3_ap, if_neg (fun z => hq z.2.2)]
  have eN : rNx (u3 r 13 0 j 0) h (nN j) = rNx r h (nN j) := by
    unfold rNx
    show fo (fNx (u3 r 13 0 j 0) h (nN j)) (-1, -1) (np r) = _
    refine fo_congr _ (fun i a hi => ?_)
    unfold fNx
    by_cases z : nN i = nN j
    · rw [if_pos z, if_pos z]
    · rw [if_neg z, if_neg z, e13 i (fun w => z (congrArg nN w)), e 9 _ _ (by decide), e 7 _ _ (by decide), e 7 _ _ (by decide), e 7 _ _ (by decide), e 6 _ _ (by decide)]
  unfold rNext
  rw [eN, e 4 _ _ (by decide), e 9 _ _ (by decide)]
  have hz := (hv.2.2.2.1 h.toNatClampNeg (inb_eq hh).2).2
  by_cases z1 : r 4 0 h.toNatClampNeg = -1
  · rw [if_pos z1, if_pos z1]
  · rw [if_neg z1, if_neg z1]
    by_cases z2 : r 4 0 h.toNatClampNeg = nN j
    · rw [if_pos z2, if_pos z2]
    · rw [if_neg z2, if_neg z2]
      have hin := hz.resolve_left z1
      rw [e13 _ (fun w => z2 (by rw [(inb_eq hin).1, w]))]
def fNew (C : ab_C) (p h nx : Int32) (k : Nat) : Nat → Int32 := fun q => if q < k ∧ ¬ C 13 0 q = 0 ∧ C 9 0 q = h ∧ C 5 0 q = p then nx else C 5 0 q
theorem fSucc_w {C : ab_C} {p h nx : Int32} (hp : ¬ p = -1) : ∀ k, k ≤ 12 → fo (fSucc h p nx) (u3 C 5 0 nx.toNatClampNeg (-1)) k = wS 5 (fun q => if q = nx.toNatClampNeg then -1 else fNew C p h nx k q) C := by
  intro k
  induction k with
  | zero =>
    intro _
    funext a i q
    show u3 C 5 0 nx.toNatClampNeg (-1) a i q = _
    rw [u3_ap]
    unfold wS fNew
    by_cases e : a = 5 ∧ i = 0
    · obtain ⟨rfl, rfl⟩ := e
      rw [if_pos (show (5 : Nat) = 5 ∧ (0 : Nat) = 0 from ⟨rfl, rfl⟩)]
      show _ = if q = nx.toNatClampNeg then -1 else if q < 0 ∧ _ then nx else C 5 0 q
      by_cases e2 : q = nx.toNatClampNeg
      · rw [if_pos ⟨rfl, rfl, e2⟩, if_pos e2]
      · rw [if_neg (fun z => e2 z.2.2), if_neg e2, if_neg (fun z => by omega)]
    · rw [if_neg (fun z => e ⟨z.1, z.2.1⟩), if_neg e]
  | succ k ih =>
    intro hk
    show fSucc h p nx k (fo (fSucc h p nx) (u3 C 5 0 nx.toNatClampNeg (-1)) k) = _
    rw [ih (by omega)]
    unfold fSucc cLives
    rw [nN_nat (show k < 2147483648 by omega), wS_ne (show (13 : Nat) ≠ 5 by decide), wS_ne (show (9 : Nat) ≠ 5 by decide), wS_at]
    have hk0 : fNew C p h nx k k = C 5 0 k := if_neg (fun z => Nat.lt_irrefl k z.1)
    rw [hk0]
    have hstep : ∀ q, q ≠ k → fNew C p h nx (k + 1) q = fNew C p h nx k q := fun q hq => by
      unfold fNew
      by_cases z : q < k ∧ ¬ C 13 0 q = 0 ∧ C 9 0 q = h ∧ C 5 0 q = p
      · rw [if_pos z, if_pos ⟨by omega, z.2⟩]
      · rw [if_neg z, if_neg (fun w => z ⟨by omega, w.2⟩)]
    have hsame : (¬ (k ≠ nx.toNatClampNeg ∧ ¬ C 13 0 k = 0 ∧ C 9 0 k = h ∧ C 5 0 k = p)) → wS 5 (fun q => if q = nx.toNatClampNeg then -1 else fNew C p h nx k q) C = wS 5 (fun q => if q = nx.toNatClampNeg then -1 else fNew C p h nx (k + 1) q) C := fun hno => by
      refine congrArg (fun f => wS 5 f C) (funext fun q => ?_)
      by_cases e1 : q = nx.toNatClampNeg
      · rw [if_pos e1, if_pos e1]
      · rw [if_neg e1, if_neg e1]
        by_cases e2 : q = k
        · subst e2
          rw [hk0]
          exact (if_neg (fun z => hno ⟨e1, z.2⟩)).symm
        · exact (hstep q e2).symm
    by_cases z1 : C 13 0 k = 0
    · rw [if_neg (by rw [decide_eq_true z1]; simp)]
      exact hsame (fun z => z.2.1 z1)
    · by_cases z2 : C 9 0 k = h
      · rw [decide_eq_false z1, decide_eq_true z2, if_pos (by decide)]
        by_cases z3 : k = nx.toNatClampNeg
        · rw [if_pos z3, if_neg (fun z => hp z.symm)]
          exact hsame (fun z => z.1 z3)
        · rw [if_neg z3]
          by_cases z4 : C 5 0 k = p
          · rw [if_pos z4]
            funext a i q
            rw [u3_ap]
            unfold wS
            by_cases e : a = 5 ∧ i = 0
            · obtain ⟨rfl, rfl⟩ := e
              rw [if_pos (show (5 : Nat) = 5 ∧ (0 : Nat) = 0 from ⟨rfl, rfl⟩), if_pos (show (5 : Nat) = 5 ∧ (0 : Nat) = 0 from ⟨rfl, rfl⟩)]
              show (if _ then nx else if q = nx.toNatClampNeg then -1 else fNew C p h nx k q) = if q = nx.toNatClampNeg then -1 else fNew C p h nx (k + 1) q
              by_cases e2 : q = k
              · subst e2
                rw [if_pos ⟨rfl, rfl, rfl⟩, if_neg z3]
                exact (if_pos ⟨Nat.lt_succ_self q, z1, z2, z4⟩).symm
              · rw [if_neg (fun z => e2 z.2.2), hstep q e2]
            · rw [if_neg (fun z => e ⟨z.1, z.2.1⟩), if_neg e, if_neg e]
          · rw [if_neg z4]
            exact hsame (fun z => z4 z.2.2.2)
      · rw [if_neg (by rw [decide_eq_false z2]; simp)]
        exact hsame (fun z => z2 z.2.2.1)
theorem fRdt_w {C : ab_C} {p h nx : Int32} : ∀ k, fo (fRdt p h nx) C k = wS 5 (fNew C p h nx k) C := by
  intro k
  induction k with
  | zero =>
    funext a i q
    show C a i q = _
    unfold wS
    split
    · next e => obtain ⟨rfl, rfl⟩ := e; exact (if_neg (fun z => by omega)).symm
    · rfl
  | succ k ih =>
    show fRdt p h nx k (fo (fRdt p h nx) C k) = _
    rw [ih]
    unfold fRdt
    rw [wS_ne (show (13 : Nat) ≠ 5 by decide), wS_ne (show (9 : Nat) ≠ 5 by decide), wS_at]
    have hk0 : fNew C p h nx k k = C 5 0 k := if_neg (fun z => Nat.lt_irrefl k z.1)
    rw [hk0]
    have hstep : ∀ q, q ≠ k → fNew C p h nx (k + 1) q = fNew C p h nx k q := fun q hq => by
      unfold fNew
      by_cases z : q < k ∧ ¬ C 13 0 q = 0 ∧ C 9 0 q = h ∧ C 5 0 q = p
      · rw [if_pos z, if_pos ⟨by omega, z.2⟩]
      · rw [if_neg z, if_neg (fun w => z ⟨by omega, w.2⟩)]
    have hsame : (¬ (¬ C 13 0 k = 0 ∧ C 9 0 k = h ∧ C 5 0 k = p)) → wS 5 (fNew C p h nx k) C = wS 5 (fNew C p h nx (k + 1)) C := fun hno => by
      refine congrArg (fun f => wS 5 f C) (funext fun q => ?_)
      by_cases e2 : q = k
      · subst e2
        rw [hk0]
        exact (if_neg (fun z => hno z.2)).symm
      · exact (hstep q e2).symm
    by_cases z1 : C 13 0 k = 0
    · rw [if_pos z1]; exact hsame (fun z => z.1 z1)
    · by_cases z2 : C 9 0 k = h
      · by_cases z4 : C 5 0 k = p
        · rw [if_neg z1, if_pos z2, if_pos z4]
          funext a i q
          rw [u3_ap]
          unfold wS
          by_cases e : a = 5 ∧ i = 0
          · obtain ⟨rfl, rfl⟩ := e
            rw [if_pos (show (5 : Nat) = 5 ∧ (0 : Nat) = 0 from ⟨rfl, rfl⟩), if_pos (show (5 : Nat) = 5 ∧ (0 : Nat) = 0 from ⟨rfl, rfl⟩)]
            by_cases e2 : q = k
            · subst e2
              rw [if_pos ⟨rfl, rfl, rfl⟩]
              exact (if_pos ⟨Nat.lt_succ_self q, z1, z2, z4⟩).symm
            · rw [if_neg (fun z => e2 z.2.2), hstep q e2]
          · rw [if_neg (fun z => e ⟨z.1, z.2.1⟩), if_neg e, if_neg e]
        · rw [if_neg z1, if_pos z2, if_neg z4]; exact hsame (fun z => z4 z.2.2)
      · rw [if_neg z1, if_neg z2]; exact hsame (fun z => z2 z.2.1)
def kDie (c : ab_C) (p : Int32) : Int32 × Int32 × ab_C := if cHas c p = true then (if c 13 0 p.toNatClampNeg = 0 then (2, 0, c) else (0, cDie c p 3 0 (c 9 0 p.toNatClampNeg).toNatClampNeg, cDie c p)) else (1, 0, c)
theorem o_die {m : ab_M} {p : Int32} (h1 : CI m) (h2 : CV (mi m)) : SP_X6_die [vA 61 0, vI p] m = kout cd2 (kDie (mi m) p) m := by
  rw [e_X6_die h1 h2]
  simp only [kDie, kout_i, kout_0, kout_e t10, kout_e t20, cd2_1, cd2_2]
theorem die_ST {n : Nat} {c r : ab_C} (h : ST n c r) {p : Int32} (hp : inb p (np r)) (hl : ¬ r 13 0 p.toNatClampNeg = 0) : ST n (cDie c p) (rDieX r p) := by
  have h12 := h.2.1.cn.1.2
  obtain ⟨s0, a0⟩ := lose_ST (s := rLosing r p) h (nsc r) (Nat.le_refl _)
  have eL : cLose c (cLostWith c p) = fo (fLose (rLosing r p)) c (nsc r) := by
    unfold cLose
    rw [cLostWith_eq h.1 h.2.1 hp hl, h.1.gnsc]
  have eR : rDie1 r p = fo (fRdl (rLosing r p)) r (nsc r) := rfl
  rw [← eL, ← eR] at s0
  rw [← eR] at a0
  have e1 : cDie1 c p = u3 (cLose c (cLostWith c p)) 13 0 p.toNatClampNeg 0 := rfl
  unfold cDie rDieX rDieH
  rw [e1]
  generalize cLose c (cLostWith c p) = C0 at *
  generalize rDie1 r p = R0 at *
  clear eL eR e1
  have hnp : np R0 = np r := congrArg Int32.toNatClampNeg (a0 35 0 0 (by decide))
  have hp0 : inb p (np R0) := by rw [hnp]; exact hp
  have hpl := (inb_eq hp0).2
  have s1 := ST_u (s := 13) (i := p.toNatClampNeg) (v := 0) s0 rfl (by decide) (by decide) (RG_u3 s0.2.1.rg rfl) (rg_p (by decide) (by decide) hpl) (fun _ => Or.inl rfl) (by omega)
  have hh := s0.2.1.rv.2.1 _ hpl
  have eC9 : u3 C0 13 0 p.toNatClampNeg 0 9 0 p.toNatClampNeg = R0 9 0 p.toNatClampNeg := by rw [u3_ap, if_neg (by omega)]; exact rI_s s0 9 _ rfl
  have eC3 : ∀ q, u3 C0 13 0 p.toNatClampNeg 0 3 0 q = R0 3 0 q := fun q => by rw [u3_ap, if_neg (by omega)]; exact rI_s s0 3 _ rfl
  rw [eC9, eC3]
  generalize R0 9 0 p.toNatClampNeg = hh0 at *
  by_cases z1 : R0 3 0 hh0.toNatClampNeg = p
  · rw [if_pos z1, if_pos z1]
    have eA : cAfter (u3 C0 13 0 p.toNatClampNeg 0) hh0 p = rNext R0 hh0 p := by
      rw [cAfter_eq s1.1 s1.2.1 (x := hh0) (d := p) hh hp0]
      have := rNext_13 (h := hh0) (j := p.toNatClampNeg) s0.2.1.rv hh (by omega) hpl
      rw [← (inb_eq hp0).1] at this
      exact this
    unfold cSucceed
    rw [eA]
    have hnx := rNext_in (d := p) s0.2.1.rv hh
    generalize rNext R0 hh0 p = nx at *
    have hhl := (inb_eq hh).2
    have s2 := ST_u (s := 3) (i := hh0.toNatClampNeg) (v := nx) s1 rfl (by decide) (by decide) (RG_3 s1.2.1.rg hnx) (rg_h (Or.inl rfl) hhl) (by omega) (by omega)
    have s3 := ST_u (s := 4) (i := hh0.toNatClampNeg) (v := -1) s2 rfl (by decide) (by decide) (RG_4 s2.2.1.rg (Or.inl rfl)) (rg_h (Or.inr rfl) hhl) (by omega) (by omega)
    have eR2 : u3 (rDie2 R0 hh0 nx) 13 0 p.toNatClampNeg 0 = u3 (u3 (u3 R0 13 0 p.toNatClampNeg 0) 3 0 hh0.toNatClampNeg nx) 4 0 hh0.toNatClampNeg (-1) := by
      unfold rDie2
      rw [u3_comm (s := 4) (t := 13) (by decide), u3_comm (s := 3) (t := 13) (by decide)]
    by_cases z2 : nx = -1
    · simp only [if_pos z2]
      rw [eR2]
      exact s3
    · simp only [if_neg z2]
      have hnxi := hnx.resolve_left z2
      have hnxl := (inb_eq hnxi).2
      have hpne : ¬ p = -1 := fun z => by
        have := (inb_eq hp0).1
        rw [z] at this
        have h0 := nN_neg (a := (-1 : Int32).toNatClampNeg) (by decide)
        rw [← this] at h0
        exact h0 (by decide)
      have hnpC : np (u3 C0 13 0 p.toNatClampNeg 0) = np R0 := s0.1.gnp
      rw [hnpC, fSucc_w hpne _ (by omega)]
      unfold rDie3
      rw [fRdt_w]
      have eF : u3 (u3 (wS 5 (fNew (rDie2 R0 hh0 nx) p hh0 nx (np R0)) (rDie2 R0 hh0 nx)) 5 0 nx.toNatClampNeg (-1)) 13 0 p.toNatClampNeg 0 = wS 5 (fun q => if q = nx.toNatClampNeg then -1 else fNew (u3 (rDie2 R0 hh0 nx) 13 0 p.toNatClampNeg 0) p hh0 nx (np R0) q) (u3 (rDie2 R0 hh0 nx) 13 0 p.toNatClampNeg 0) := by
        have hself : ¬ rDie2 R0 hh0 nx 5 0 p.toNatClampNeg = p := fun z => by
          have z' : R0 5 0 p.toNatClampNeg = p := by
            unfold rDie2 at z
            rw [u3_ap, if_neg (by omega), u3_ap, if_neg (by omega)] at z
            exact z
          obtain ⟨rk, hrk⟩ := s0.2.1.rg.2.1
          have := (hrk _ hpl).2 (by rw [z']; exact hpne)
          rw [z'] at this
          omega
        generalize rDie2 R0 hh0 nx = RD at *
        funext a i q
        rw [u3_ap, u3_ap]
        unfold wS
        by_cases e : a = 5 ∧ i = 0
        · obtain ⟨rfl, rfl⟩ := e
          rw [if_neg (by omega), if_pos (show (5 : Nat) = 5 ∧ (0 : Nat) = 0 from ⟨rfl, rfl⟩), if_pos (show (5 : Nat) = 5 ∧ (0 : Nat) = 0 from ⟨rfl, rfl⟩)]
          show _ = if q = nx.toNatClampNeg then -1 else fNew (u3 RD 13 0 p.toNatClampNeg 0) p hh0 nx (np R0) q
          by_cases e2 : q = nx.toNatClampNeg
          · rw [if_pos ⟨rfl, rfl, e2⟩, if_pos e2]
          · rw [if_neg (fun z => e2 z.2.2), if_neg e2]
            unfold fNew
            have x9 : u3 RD 13 0 p.toNatClampNeg 0 9 0 q = RD 9 0 q := by rw [u3_ap, if_neg (by omega)]
            have x5 : u3 RD 13 0 p.toNatClampNeg 0 5 0 q = RD 5 0 q := by rw [u3_ap, if_neg (by omega)]
            rw [x9, x5, u3_ap]
            by_cases e3 : q = p.toNatClampNeg
            · rw [if_neg (fun z => hself (e3 ▸ z.2.2.2)), if_neg (fun z => hself (e3 ▸ z.2.2.2))]
            · rw [if_neg (show ¬ ((13 : Nat) = 13 ∧ (0 : Nat) = 0 ∧ q = p.toNatClampNeg) from fun z => e3 z.2.2)]
        · rw [if_neg (fun z : a = 5 ∧ i = 0 ∧ q = nx.toNatClampNeg => e ⟨z.1, z.2.1⟩), if_neg e, if_neg e, u3_ap]
      rw [eF, eR2]
      have eCR : ∀ q, fNew (u3 (u3 (u3 C0 13 0 p.toNatClampNeg 0) 3 0 hh0.toNatClampNeg nx) 4 0 hh0.toNatClampNeg (-1)) p hh0 nx (np R0) q = fNew (u3 (u3 (u3 R0 13 0 p.toNatClampNeg 0) 3 0 hh0.toNatClampNeg nx) 4 0 hh0.toNatClampNeg (-1)) p hh0 nx (np R0) q := fun q => by
        unfold fNew
        rw [rI_s s3 13 _ rfl, rI_s s3 9 _ rfl, rI_s s3 5 _ rfl]
      simp only [eCR]
      have hnp3 : np (u3 (u3 (u3 R0 13 0 p.toNatClampNeg 0) 3 0 hh0.toNatClampNeg nx) 4 0 hh0.toNatClampNeg (-1)) = np R0 := rfl
      generalize u3 (u3 (u3 R0 13 0 p.toNatClampNeg 0) 3 0 hh0.toNatClampNeg nx) 4 0 hh0.toNatClampNeg (-1) = R3 at *
      generalize u3 (u3 (u3 C0 13 0 p.toNatClampNeg 0) 3 0 hh0.toNatClampNeg nx) 4 0 hh0.toNatClampNeg (-1) = C3 at *
      have hf : ∀ q, q < np R3 → (fun q => if q = nx.toNatClampNeg then -1 else fNew R3 p hh0 nx (np R0) q) q = -1 ∨ inb ((fun q => if q = nx.toNatClampNeg then -1 else fNew R3 p hh0 nx (np R0) q) q) (np R3) := fun q hq => by
        show (if q = nx.toNatClampNeg then -1 else fNew R3 p hh0 nx (np R0) q) = -1 ∨ inb (if q = nx.toNatClampNeg then -1 else fNew R3 p hh0 nx (np R0) q) (np R3)
        split
        · exact Or.inl rfl
        · unfold fNew
          split
          · rw [hnp3]; exact Or.inr hnxi
          · exact s3.2.1.rv.1 q hq
      refine ST_w s3 rfl (by decide) (by omega) (RG_w5 s3.2.1.rg hf ?_) (fun q hq => ?_) (by omega) (by decide)
      · obtain ⟨rk, hrk⟩ := s3.2.1.rg.2.1
        refine AC_of (by show np R3 ≤ 12; omega) hf (fun q => if q = nx.toNatClampNeg then 0 else rk q + 1) (fun q hq hne => ?_)
        have hq' : q < np R3 := hq
        show (if (wS 5 (fun q => if q = nx.toNatClampNeg then -1 else fNew R3 p hh0 nx (np R0) q) R3 5 0 q).toNatClampNeg = nx.toNatClampNeg then 0 else rk (wS 5 (fun q => if q = nx.toNatClampNeg then -1 else fNew R3 p hh0 nx (np R0) q) R3 5 0 q).toNatClampNeg + 1) < (if q = nx.toNatClampNeg then 0 else rk q + 1)
        rw [wS_at] at hne ⊢
        by_cases y1 : q = nx.toNatClampNeg
        · exact absurd (if_pos y1) hne
        · rw [if_neg y1] at hne ⊢
          rw [if_neg y1]
          unfold fNew at hne ⊢
          by_cases y2 : q < np R0 ∧ ¬ R3 13 0 q = 0 ∧ R3 9 0 q = hh0 ∧ R3 5 0 q = p
          · rw [if_pos y2, if_pos rfl]; omega
          · rw [if_neg y2] at hne ⊢
            have := (hrk q hq').2 hne
            split <;> omega
      · have hq2 : ¬ q < np R3 := fun z => hq (rg_p (by decide) (by decide) z)
        rw [if_neg (by omega)]
        unfold fNew
        rw [if_neg (fun z => by omega)]
        exact s3.2.1.z0.1 5 q (by decide) (by decide) (by omega)
  · rw [if_neg z1, if_neg z1]
    exact s1
theorem g_die {n : Nat} {c r : ab_C} (h : ST n c r) (p : Int32) : AG (n + 1) (kDie c p) (rDie r p) := by
  refine AG_b (h.1.has h.2.1 p) (fun e => AG_p (live_p h) (fun _ => AG_no h t20) (fun e2 => ?_)) (AG_no h t10)
  have hp := has_in h.2.1 e
  have hS := die_ST h hp e2
  obtain ⟨-, a0⟩ := lose_ST (s := rLosing r p) h (nsc r) (Nat.le_refl _)
  refine AG_do ?_ hS
  have e9 : rDie1 r p 9 0 p.toNatClampNeg = c 9 0 p.toNatClampNeg := (a0 9 0 _ (by decide)).trans (rI_s h 9 _ rfl).symm
  rw [e9]
  exact rI_s hS 3 _ rfl

