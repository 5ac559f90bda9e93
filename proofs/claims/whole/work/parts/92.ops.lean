/-! heirs, loans, repairs, secrets: the same */ -/
theorem rg_p {r : ab_C} {s i : Nat} (h1 : 5 ≤ s) (h2 : s ≤ 13) (h : i < np r) : rngS r s i := ⟨fun _ _ => h, fun z => by omega, fun z => by omega, fun z => by omega⟩
theorem rg_h {r : ab_C} {s i : Nat} (h1 : s = 3 ∨ s = 4) (h : i < nh r) : rngS r s i := ⟨fun z => by omega, fun _ => h, fun z => by omega, fun z => by omega⟩
theorem rg_s {r : ab_C} {s i : Nat} (h1 : 22 ≤ s) (h2 : s ≤ 25) (h : i < nsc r) : rngS r s i := ⟨fun _ z => by omega, fun z => by omega, fun _ _ => h, fun z => by omega⟩
theorem rg_u {r : ab_C} {s i : Nat} (h1 : 26 ≤ s) (h2 : s ≤ 32) (h : i < nu r) : rngS r s i := ⟨fun _ z => by omega, fun z => by omega, fun _ z => by omega, fun _ _ => h⟩
theorem u3_comm {c : ab_C} {s t i j k l : Nat} {v w : Int32} (h : s ≠ t) : u3 (u3 c s i k v) t j l w = u3 (u3 c t j l w) s i k v := by
  funext a b d
  simp only [u3_ap]
  by_cases e1 : a = t ∧ b = j ∧ d = l
  · by_cases e2 : a = s ∧ b = i ∧ d = k
    · exact absurd (e2.1.symm.trans e1.1) h
    · rw [if_pos e1, if_neg e2, if_pos e1]
  · by_cases e2 : a = s ∧ b = i ∧ d = k
    · rw [if_neg e1, if_pos e2, if_pos e2]
    · rw [if_neg e1, if_neg e2, if_neg e2, if_neg e1]
theorem AG_do {n : Nat} {v w : Int32} {c r : ab_C} (hv : v = w) (h : ST n c r) : AG (n + 1) (0, v, c) (0, w, r) := ⟨rfl, fun _ => hv, h.up (Nat.le_succ n)⟩
theorem live_p {c r : ab_C} {n : Nat} (h : ST n c r) {p : Int32} : (c 13 0 p.toNatClampNeg = 0) ↔ (r 13 0 p.toNatClampNeg = 0) := by rw [rI_s h 13 _ rfl]
theorem has_none {c r : ab_C} {n : Nat} (h : ST n c r) {p : Int32} (hp : ¬ p = -1) : cHasN c p = rHas r p := by
  unfold cHasN
  rw [decide_eq_false hp, Bool.false_or, h.1.has h.2.1]
def kHeir (c : ab_C) (x p : Int32) : Int32 × Int32 × ab_C := if cHasH c x = true then (if cHasN c p = true then (if p = -1 then (0, c 4 0 x.toNatClampNeg, u3 c 4 0 x.toNatClampNeg p) else if cLives c p x = true then (if c 3 0 x.toNatClampNeg = p then (2, 0, c) else (0, c 4 0 x.toNatClampNeg, u3 c 4 0 x.toNatClampNeg p)) else (2, 0, c)) else (1, 0, c)) else (1, 0, c)
theorem o_heir {m : ab_M} {x p : Int32} (h1 : CI m) (h2 : CV (mi m)) : SP_X6_heir [vA 61 0, vI x, vI p] m = kout cd2 (kHeir (mi m) x p) m := by
  rw [e_X6_heir h1 h2]
  simp only [kHeir, kout_i, kout_0, kout_e t10, kout_e t20, cd2_1, cd2_2]
theorem g_heir {n : Nat} {c r : ab_C} (h : ST n c r) (x p : Int32) : AG (n + 1) (kHeir c x p) (rHeir r x p) := by
  refine AG_b (h.1.hasH h.2.1 x) (fun e => ?_) (AG_no h t10)
  have hx := (inb_eq (hasH_in h.2.1 e)).2
  have hdo : (p = -1 ∨ inb p (np r)) → AG (n + 1) (0, c 4 0 x.toNatClampNeg, u3 c 4 0 x.toNatClampNeg p) (0, r 4 0 x.toNatClampNeg, u3 r 4 0 x.toNatClampNeg p) := fun hp => AG_do (rI_s h 4 _ rfl) (ST_u h rfl (by decide) (by decide) (RG_4 h.2.1.rg hp) (rg_h (Or.inr rfl) hx) (by omega) (by omega))
  by_cases ep : p = -1
  · have e1 : cHasN c p = true := by unfold cHasN; rw [decide_eq_true ep]; rfl
    rw [if_pos e1, if_pos ep, if_pos ep]
    exact hdo (Or.inl ep)
  · rw [if_neg ep, if_neg ep, has_none h ep]
    refine AG_b rfl (fun e2 => ?_) (AG_no h t10)
    by_cases e3 : r 13 0 p.toNatClampNeg = 0
    · rw [if_pos e3, if_neg (show ¬ cLives c p x = true by unfold cLives; rw [rI_s h 13 _ rfl, decide_eq_true e3]; simp)]
      exact AG_no h t20
    · by_cases e4 : r 9 0 p.toNatClampNeg = x
      · rw [if_neg e3, if_neg (show ¬ ¬ r 9 0 p.toNatClampNeg = x from fun z => z e4), if_pos (show cLives c p x = true by unfold cLives; rw [rI_s h 13 _ rfl, rI_s h 9 _ rfl, decide_eq_false e3, decide_eq_true e4]; rfl)]
        exact AG_p (by rw [rI_s h 3 _ rfl]) (fun _ => AG_no h t20) (fun _ => hdo (Or.inr (has_in h.2.1 e2)))
      · rw [if_neg e3, if_pos e4, if_neg (show ¬ cLives c p x = true by unfold cLives; rw [rI_s h 13 _ rfl, rI_s h 9 _ rfl, decide_eq_false e3, decide_eq_false e4]; decide)]
        exact AG_no h t20
def kLend (c : ab_C) (u p : Int32) : Int32 × Int32 × ab_C := if cHasU c u = true then (if cHas c p = true then (if c 13 0 p.toNatClampNeg = 0 then (2, 0, c) else (0, c 30 0 u.toNatClampNeg, u3 c 30 0 u.toNatClampNeg p)) else (1, 0, c)) else (1, 0, c)
theorem o_lend {m : ab_M} {u p : Int32} (h1 : CI m) : SP_X6_lend [vA 61 0, vI u, vI p] m = kout cd2 (kLend (mi m) u p) m := by
  rw [e_X6_lend h1]
  simp only [kLend, kout_i, kout_0, kout_e t10, kout_e t20, cd2_1, cd2_2]
theorem g_lend {n : Nat} {c r : ab_C} (h : ST n c r) (u p : Int32) : AG (n + 1) (kLend c u p) (rLend r u p) :=
  AG_b (h.1.hasU h.2.1 u) (fun e => AG_b (h.1.has h.2.1 p) (fun e2 => AG_p (live_p h) (fun _ => AG_no h t20) (fun _ => AG_do (rI_s h 30 _ rfl) (ST_u h rfl (by decide) (by decide) (RG_30 h.2.1.rg (has_in h.2.1 e2)) (rg_u (by decide) (by decide) (inb_eq (hasU_in h.2.1 e)).2) (by omega) (by omega)))) (AG_no h t10)) (AG_no h t10)
def kMend (c : ab_C) (u b : Int32) : Int32 × Int32 × ab_C := if cHasU c u = true then (if b = 0 then (if c 32 0 u.toNatClampNeg = 0 then (0, c 29 0 u.toNatClampNeg, u3 c 32 0 u.toNatClampNeg 1) else (2, 0, c)) else (if c 32 0 u.toNatClampNeg = 0 then (2, 0, c) else if c 13 0 (c 30 0 u.toNatClampNeg).toNatClampNeg = 0 then (2, 0, c) else if c 8 0 (c 30 0 u.toNatClampNeg).toNatClampNeg < 8 then (2, 0, c) else (0, cJoin c u 29 0 u.toNatClampNeg, cJoin c u))) else (1, 0, c)
theorem o_mend {m : ab_M} {u b : Int32} (h1 : CI m) (h2 : CV (mi m)) : SP_X6_mend [vA 61 0, vI u, vI b] m = kout cd2 (kMend (mi m) u b) m := by
  rw [e_X6_mend h1 h2]
  simp only [kMend, kout_i, kout_0, kout_e t10, kout_e t20, cd2_1, cd2_2]
theorem min9 (x : Int32) : cMin (x + 1) 9 = if x + 1 < 9 then x + 1 else 9 := by
  unfold cMin
  by_cases e : x + 1 < 9
  · rw [if_pos e, if_neg (fun z => by rw [Int32.lt_iff_toInt_lt] at *; omega)]
  · rw [if_neg e]
    split
    · rfl
    · next e2 =>
      apply Int32.toInt_inj.mp
      rw [Int32.lt_iff_toInt_lt] at *
      omega
theorem rank_up {x : Int32} (h : inb x 10) : inb (if x + 1 < 9 then x + 1 else 9) 10 := by
  obtain ⟨k, hk, rfl⟩ := nN_ex h
  split
  · next e =>
    rw [nN_succ] at e ⊢
    rw [show ((9 : Int32) = nN 9) from rfl, nN_lt (by omega) (by omega)] at e
    rw [inb_nN (by omega)]; omega
  · exact (inb_nN (a := 9) (L := 10) (by decide)).mpr (by decide)
theorem g_mend {n : Nat} {c r : ab_C} (h : ST n c r) (u b : Int32) (hb : b = 0 ∨ b = 1) : AG (n + 1) (kMend c u b) (rMend r u b) := by
  refine AG_b (h.1.hasU h.2.1 u) (fun e => ?_) (AG_no h t10)
  have hu := (inb_eq (hasU_in h.2.1 e)).2
  have ho := h.2.1.rv.2.2.2.2.1 _ hu
  have ho2 := (inb_eq ho).2
  rw [rI_s h 32 _ rfl]
  rcases hb with rfl | rfl
  · rw [if_pos rfl]
    rcases h.2.1.b01 32 (by simp) u.toNatClampNeg with e1 | e1
    · rw [if_pos e1, if_neg (show ¬ ¬ r 32 0 u.toNatClampNeg = 0 from fun z => z e1), if_pos rfl]
      exact AG_do (rI_s h 29 _ rfl) (ST_u h rfl (by decide) (by decide) (RG_u3 h.2.1.rg rfl) (rg_u (by decide) (by decide) hu) (fun _ => Or.inr rfl) (by omega))
    · rw [if_neg (show ¬ r 32 0 u.toNatClampNeg = 0 by rw [e1]; decide), if_pos (show ¬ r 32 0 u.toNatClampNeg = 0 by rw [e1]; decide)]
      exact AG_no h t20
  · rw [if_neg (show ¬ (1 : Int32) = 0 by decide)]
    rcases h.2.1.b01 32 (by simp) u.toNatClampNeg with e1 | e1
    · rw [if_pos e1, if_pos (show ¬ r 32 0 u.toNatClampNeg = 1 by rw [e1]; decide)]
      exact AG_no h t20
    · rw [if_neg (show ¬ r 32 0 u.toNatClampNeg = 0 by rw [e1]; decide), if_neg (show ¬ ¬ r 32 0 u.toNatClampNeg = 1 from fun z => z e1), if_neg (show ¬ (1 : Int32) = 0 by decide)]
      refine AG_p (by rw [rI_s h 30 _ rfl, rI_s h 13 _ rfl]) (fun _ => AG_no h t20) (fun _ => AG_p (by rw [rI_s h 30 _ rfl, rI_s h 8 _ rfl]) (fun _ => AG_no h t20) (fun _ => ?_))
      have hj : cJoin c u = u3 (u3 (u3 c 32 0 u.toNatClampNeg 0) 8 0 (r 30 0 u.toNatClampNeg).toNatClampNeg (r 8 0 (r 30 0 u.toNatClampNeg).toNatClampNeg - 8)) 29 0 u.toNatClampNeg (if r 29 0 u.toNatClampNeg + 1 < 9 then r 29 0 u.toNatClampNeg + 1 else 9) := by
        simp only [cJoin]
        rw [rI_s h 30 _ rfl, rI_s h 8 _ rfl, rI_s h 29 _ rfl, min9, u3_comm (s := 29) (t := 32) (by decide), u3_comm (s := 8) (t := 32) (by decide)]
      rw [hj]
      refine AG_do (by rw [u3_ap, if_pos ⟨rfl, rfl, rfl⟩]) ?_
      have s1 := ST_u (s := 32) (i := u.toNatClampNeg) (v := 0) h rfl (by decide) (by decide) (RG_u3 h.2.1.rg rfl) (rg_u (by decide) (by decide) hu) (fun _ => Or.inl rfl) (by omega)
      have s2 := ST_u (s := 8) (i := (r 30 0 u.toNatClampNeg).toNatClampNeg) (v := r 8 0 (r 30 0 u.toNatClampNeg).toNatClampNeg - 8) s1 rfl (by decide) (by decide) (RG_u3 s1.2.1.rg rfl) (rg_p (by decide) (by decide) ho2) (by omega) (by omega)
      exact ST_u s2 rfl (by decide) (by decide) (RG_u3 s2.2.1.rg rfl) (rg_u (by decide) (by decide) hu) (by omega) (fun _ => rank_up (h.2.1.rk _))
def kCopy (c : ab_C) (p s : Int32) : Int32 × Int32 × ab_C := if cHas c p = true then (if cHasS c s = true then (if c 13 0 p.toNatClampNeg = 0 then (2, 0, c) else if cUnd c p.toNatClampNeg 8 s = true then (if c 24 0 s.toNatClampNeg = 0 then (if c 25 0 s.toNatClampNeg = 0 then (if c 8 0 p.toNatClampNeg < 10 then (2, 0, c) else (0, c 8 0 p.toNatClampNeg - 10, u3 (u3 c 8 0 p.toNatClampNeg (c 8 0 p.toNatClampNeg - 10)) 25 0 s.toNatClampNeg 1)) else (2, 0, c)) else (2, 0, c)) else (2, 0, c)) else (1, 0, c)) else (1, 0, c)
theorem o_copy {m : ab_M} {p s : Int32} (h1 : CI m) (h2 : CV (mi m)) : SP_X6_copy [vA 61 0, vI p, vI s] m = kout cd2 (kCopy (mi m) p s) m := by
  rw [e_X6_copy h1 h2]
  simp only [kCopy, kout_i, kout_0, kout_e t10, kout_e t20, cd2_1, cd2_2]
theorem is0 {c r : ab_C} {n : Nat} (h : ST n c r) {s i : Nat} (hs : s = 13 ∨ s = 24 ∨ s = 25 ∨ s = 32) : c s 0 i = 0 ↔ ¬ r s 0 i = 1 := by
  rw [rI_s h s i (by rcases hs with z | z | z | z <;> subst z <;> rfl)]
  rcases h.2.1.b01 s hs i with e | e <;> rw [e] <;> decide
theorem g_copy {n : Nat} {c r : ab_C} (h : ST n c r) (p s : Int32) : AG (n + 1) (kCopy c p s) (rCopy r p s) :=
  AG_b (h.1.has h.2.1 p) (fun e => AG_b (h.1.hasS h.2.1 s) (fun e2 => AG_p (live_p h) (fun _ => AG_no h t20) (fun _ => AG_b (cUnd_cg (h.1.st 11 rfl) (h.1.st 23 rfl) _ _ _) (fun _ => AG_n (is0 h (by simp)) (fun _ => AG_n (is0 h (by simp)) (fun _ => AG_p (by rw [rI_s h 8 _ rfl]) (fun _ => AG_no h t20) (fun _ => by
    have hp := (inb_eq (has_in h.2.1 e)).2
    have hs := (inb_eq (hasS_in h.2.1 e2)).2
    rw [rI_s h 8 _ rfl, u3_comm (s := 8) (t := 25) (by decide)]
    refine AG_do rfl ?_
    have s1 := ST_u (s := 25) (i := s.toNatClampNeg) (v := 1) h rfl (by decide) (by decide) (RG_u3 h.2.1.rg rfl) (rg_s (by decide) (by decide) hs) (fun _ => Or.inr rfl) (by omega)
    exact ST_u s1 rfl (by decide) (by decide) (RG_u3 s1.2.1.rg rfl) (rg_p (by decide) (by decide) hp) (by omega) (by omega))) (fun _ => AG_no h t20)) (fun _ => AG_no h t20)) (AG_no h t20))) (AG_no h t10)) (AG_no h t10)
def kRead (c : ab_C) (p s : Int32) : Int32 × Int32 × ab_C := if cHas c p = true then (if cHasS c s = true then (if c 13 0 p.toNatClampNeg = 0 then (2, 0, c) else if cHolds c p (c 22 0 s.toNatClampNeg) = true then (if c 24 0 s.toNatClampNeg = 0 then (0, bI (cUnd (cRead c p s) p.toNatClampNeg 8 s), cRead c p s) else (2, 0, c)) else (2, 0, c)) else (1, 0, c)) else (1, 0, c)
theorem o_read {m : ab_M} {p s : Int32} (h1 : CI m) (h2 : CV (mi m)) : SP_X6_read [vA 61 0, vI p, vI s] m = kout cd2 (kRead (mi m) p s) m := by
  rw [e_X6_read h1 h2]
  simp only [kRead, kout_i, kout_0, kout_e t10, kout_e t20, cd2_1, cd2_2]
theorem read_ST {n : Nat} {c r : ab_C} (h : ST n c r) {p s : Int32} (hp : inb p (np r)) : ST n (cRead c p s) (rReadX r p s) := by
  unfold cRead rReadX
  rw [rI_s h 11 _ rfl]
  exact ST_u h rfl (by decide) (by decide) (RG_u3 h.2.1.rg rfl) (rg_p (by decide) (by decide) (inb_eq hp).2) (by omega) (by omega)
theorem g_read {n : Nat} {c r : ab_C} (h : ST n c r) (p s : Int32) : AG (n + 1) (kRead c p s) (rRead r p s) :=
  AG_b (h.1.has h.2.1 p) (fun e => AG_b (h.1.hasS h.2.1 s) (fun e2 => AG_p (live_p h) (fun _ => AG_no h t20) (fun _ => AG_n (by rw [rI_s h 22 _ rfl]; exact cHolds_iff h) (fun _ => AG_n (is0 h (by simp)) (fun _ => by
    have s1 := read_ST h (s := s) (has_in h.2.1 e)
    refine AG_do (congrArg bI ?_) s1
    exact cUnd_cg (s1.1.st 11 rfl) (s1.1.st 23 rfl) _ _ _) (fun _ => AG_no h t20)) (fun _ => AG_no h t20))) (AG_no h t10)) (AG_no h t10)
def kReb (c : ab_C) (p s : Int32) : Int32 × Int32 × ab_C := if cHas c p = true then (if cHasS c s = true then (if c 24 0 s.toNatClampNeg = 0 then (2, 0, c) else if c 25 0 s.toNatClampNeg = 0 then (2, 0, c) else if cCanReb c p s = true then (0, cLost (cRebuild c p s), cRebuild c p s) else (2, 0, c)) else (1, 0, c)) else (1, 0, c)
theorem o_rebuild {m : ab_M} {p s : Int32} (h1 : CI m) (h2 : CV (mi m)) : SP_X6_rebuild [vA 61 0, vI p, vI s] m = kout cd2 (kReb (mi m) p s) m := by
  rw [e_X6_rebuild h1 h2]
  simp only [kReb, kout_i, kout_0, kout_e t10, kout_e t20, cd2_1, cd2_2]
theorem g_rebuild {n : Nat} {c r : ab_C} (h : ST n c r) (p s : Int32) : AG (n + 1) (kReb c p s) (rReb r p s) :=
  AG_b (h.1.has h.2.1 p) (fun e => AG_b (h.1.hasS h.2.1 s) (fun e2 => AG_p (by rw [rI_s h 24 _ rfl]) (fun _ => AG_no h t20) (fun _ => AG_p (by rw [rI_s h 25 _ rfl]) (fun _ => AG_no h t20) (fun _ => by
    have hp := has_in h.2.1 e
    have hs := (inb_eq (hasS_in h.2.1 e2)).2
    have hG : cCanReb c p s = (! decide (r 13 0 p.toNatClampNeg = 0) && (! decide (r 7 0 p.toNatClampNeg < r 22 0 s.toNatClampNeg) && (decide (r 23 0 s.toNatClampNeg = -1) || cUnd r p.toNatClampNeg 8 (r 23 0 s.toNatClampNeg)))) := by
      unfold cCanReb cHolds
      rw [rI_s h 13 _ rfl, rI_s h 7 _ rfl, rI_s h 22 _ rfl, rI_s h 23 _ rfl, cUnd_cg (h.1.st 11 rfl) (h.1.st 23 rfl)]
    rw [hG]
    by_cases z1 : r 13 0 p.toNatClampNeg = 0
    · rw [if_pos z1, if_neg (by rw [decide_eq_true z1]; simp)]; exact AG_no h t20
    · by_cases z2 : r 7 0 p.toNatClampNeg < r 22 0 s.toNatClampNeg
      · rw [if_neg z1, if_pos z2, if_neg (by rw [decide_eq_true z2]; simp)]; exact AG_no h t20
      · rw [if_neg z1, if_neg z2, decide_eq_false z1, decide_eq_false z2]
        by_cases z3 : ¬ r 23 0 s.toNatClampNeg = -1 ∧ cUnd r p.toNatClampNeg 8 (r 23 0 s.toNatClampNeg) = false
        · rw [if_pos z3, if_neg (by rw [decide_eq_false z3.1, z3.2]; decide)]; exact AG_no h t20
        · rw [if_neg z3, if_pos (by
            by_cases z4 : r 23 0 s.toNatClampNeg = -1
            · rw [decide_eq_true z4]; rfl
            · cases z5 : cUnd r p.toNatClampNeg 8 (r 23 0 s.toNatClampNeg) with
              | true => simp
              | false => exact absurd ⟨z4, z5⟩ z3)]
          have s1 := read_ST h (s := s) hp
          have s2 := ST_u (s := 24) (i := s.toNatClampNeg) (v := 0) s1 rfl (by decide) (by decide) (RG_u3 s1.2.1.rg rfl) (rg_s (by decide) (by decide) hs) (fun _ => Or.inl rfl) (by omega)
          have s3 : ST n (cRebuild c p s) (rRebX r p s) := ST_u (s := 25) (i := s.toNatClampNeg) (v := 0) s2 rfl (by decide) (by decide) (RG_u3 s2.2.1.rg rfl) (rg_s (by decide) (by decide) hs) (fun _ => Or.inl rfl) (by omega)
          exact AG_do (cLost_eq s3.1 s3.2.1) s3))) (AG_no h t10)) (AG_no h t10)
