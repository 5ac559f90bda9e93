/-! a utensil more -/
def utX (c : ab_C) (j : Nat) (v k s t q o : Int32) (m : Nat) : ab_C := u3 (u3 (u3 (u3 (u3 (u3 (u3 c 8 0 j v) 26 0 m k) 27 0 m s) 28 0 m t) 29 0 m q) 30 0 m o) 38 0 0 (nN (m + 1))
theorem utX_e {c : ab_C} {j m : Nat} {v k s t q o : Int32} {a i z : Nat} (h1 : a ≠ 8) (h2 : a < 26 ∨ 30 < a) (h4 : a ≠ 38) : utX c j v k s t q o m a i z = c a i z := by
  unfold utX
  rw [u3_o h4, u3_o (by omega), u3_o (by omega), u3_o (by omega), u3_o (by omega), u3_o (by omega), u3_o h1]
theorem utX_j {c : ab_C} {j m : Nat} {v k s t q o : Int32} {a z : Nat} (h1 : a ≠ 8) (h4 : a ≠ 38) (hz : z ≠ m) : utX c j v k s t q o m a 0 z = c a 0 z := by
  have e : ∀ (C : ab_C) (x : Nat) (w : Int32), u3 C x 0 m w a 0 z = C a 0 z := fun C x w => if_neg (fun y => hz y.2.2)
  unfold utX
  rw [u3_o h4, e, e, e, e, e, u3_o h1]
theorem utX_8 {c : ab_C} {j m : Nat} {v k s t q o : Int32} {z : Nat} : utX c j v k s t q o m 8 0 z = if z = j then v else c 8 0 z := by
  unfold utX
  rw [u3_o (by decide), u3_o (by decide), u3_o (by decide), u3_o (by decide), u3_o (by decide), u3_o (by decide), u3_2]
theorem utX_29 {c : ab_C} {j m : Nat} {v k s t q o : Int32} : utX c j v k s t q o m 29 0 m = q := by
  unfold utX
  rw [u3_o (by decide), u3_o (by decide)]
  exact u3_in
theorem utX_30 {c : ab_C} {j m : Nat} {v k s t q o : Int32} : utX c j v k s t q o m 30 0 m = o := by
  unfold utX
  rw [u3_o (by decide)]
  exact u3_in
theorem utX_INV {n j : Nat} {r : ab_C} {v k s t q o : Int32} (h : INV n r) (hj : j < np r) (h8 : nu r < 12) (ho : inb o (np r)) (hq : inb q 10) : INV n (utX r j v k s t q o (nu r)) := by
  have e : ∀ a i z, a ≠ 8 → a < 26 ∨ 30 < a → a ≠ 38 → utX r j v k s t q o (nu r) a i z = r a i z := fun a i z h1 h2 h3 => utX_e h1 h2 h3
  have n1 : np (utX r j v k s t q o (nu r)) = np r := congrArg Int32.toNatClampNeg (e 35 0 0 (by decide) (by decide) (by decide))
  have n2 : nh (utX r j v k s t q o (nu r)) = nh r := congrArg Int32.toNatClampNeg (e 36 0 0 (by decide) (by decide) (by decide))
  have n3 : nsc (utX r j v k s t q o (nu r)) = nsc r := congrArg Int32.toNatClampNeg (e 37 0 0 (by decide) (by decide) (by decide))
  have e38 : utX r j v k s t q o (nu r) 38 0 0 = nN (nu r + 1) := u3_in
  have n4 : nu (utX r j v k s t q o (nu r)) = nu r + 1 := by
    show (utX r j v k s t q o (nu r) 38 0 0).toNatClampNeg = _
    rw [e38, nN_nat (by omega)]
  obtain ⟨z1, z2, z3, z4⟩ := h.z0
  obtain ⟨⟨r1, r2, r3, r4, r5, r6⟩, hA, hQ⟩ := h.rg
  obtain ⟨c1, c2, c3, c4⟩ := h.cn
  refine ⟨⟨⟨?_, ?_, ?_, ?_⟩, ⟨⟨fun i hi => ?_, fun i hi => ?_, fun i hi => ?_, fun i hi => ?_, fun i hi => ?_, fun i hi => ?_⟩, ?_, ?_⟩, ⟨fun t j a b d => ?_, fun t j a b d => ?_, fun t j a b d => ?_, fun t j a b d => ?_⟩, ?_⟩, fun t ht j => ?_, ?_, ?_, fun j => ?_⟩
  · rw [n1, e 35 _ _ (by decide) (by decide) (by decide)]; exact c1
  · rw [n2, e 36 _ _ (by decide) (by decide) (by decide)]; exact c2
  · rw [n3, e 37 _ _ (by decide) (by decide) (by decide)]; exact c3
  · rw [n4, e38]; exact ⟨rfl, by omega⟩
  · rw [n1] at hi; rw [n1, e 5 _ _ (by decide) (by decide) (by decide)]; exact r1 i hi
  · rw [n1] at hi; rw [n2, e 9 _ _ (by decide) (by decide) (by decide)]; exact r2 i hi
  · rw [n3] at hi; rw [n3, e 23 _ _ (by decide) (by decide) (by decide)]; exact r3 i hi
  · rw [n2] at hi; rw [n1, e 3 _ _ (by decide) (by decide) (by decide), e 4 _ _ (by decide) (by decide) (by decide)]; exact r4 i hi
  · rw [n4] at hi
    rw [n1]
    by_cases w : i = nu r
    · subst w; rw [utX_30]; exact ho
    · rw [utX_j (by decide) (by decide) w]; exact r5 i (by omega)
  · rw [n1] at hi; rw [e 7 _ _ (by decide) (by decide) (by decide)]; exact r6 i hi
  · obtain ⟨rk, hrk⟩ := hA
    refine ⟨rk, fun i hi => ?_⟩
    rw [n1] at hi
    rw [e 5 _ _ (by decide) (by decide) (by decide)]
    exact hrk i hi
  · obtain ⟨rk, hrk⟩ := hQ
    refine ⟨rk, fun i hi => ?_⟩
    rw [n3] at hi
    rw [e 23 _ _ (by decide) (by decide) (by decide)]
    exact hrk i hi
  · rw [n1] at d
    by_cases w : t = 8
    · subst w; rw [utX_8, if_neg (by omega)]; exact z1 8 j a b d
    · rw [e t _ _ w (by omega) (by omega)]; exact z1 t j a b d
  · rw [n2] at d; rw [e t _ _ (by omega) (by omega) (by omega)]; exact z2 t j a b d
  · rw [n3] at d; rw [e t _ _ (by omega) (by omega) (by omega)]; exact z3 t j a b d
  · rw [n4] at d; rw [utX_j (by omega) (by omega) (by omega)]; exact z4 t j a b (by omega)
  · unfold FO
    rw [n1]
    simp only [e 12 0 _ (by decide) (by decide) (by decide)]
    exact h.fo
  · rw [e t _ _ (by omega) (by omega) (by omega)]; exact h.b01 t ht j
  · rw [n1, n2]; exact h.hz
  · unfold DY
    rw [e 61 _ _ (by decide) (by decide) (by decide)]
    exact h.dy
  · by_cases w : j = nu r
    · subst w; rw [utX_29]; exact hq
    · rw [utX_j (by decide) (by decide) w]; exact h.rk j
theorem fo34 {m : Nat} {v : Int32} {c : ab_C} : ∀ n a i q, fo (fun i a => u3 a 34 m i v) c n a i q = if a = 34 ∧ i = m ∧ q < n then v else c a i q := by
  intro n
  induction n with
  | zero => intro a i q; rw [if_neg (by omega)]; rfl
  | succ n ih =>
    intro a i q
    show u3 (fo (fun i a => u3 a 34 m i v) c n) 34 m n v a i q = _
    rw [u3_ap, ih]
    by_cases e : a = 34 ∧ i = m ∧ q = n
    · rw [if_pos e, if_pos ⟨e.1, e.2.1, by omega⟩]
    · rw [if_neg e]
      by_cases e2 : a = 34 ∧ i = m ∧ q < n
      · rw [if_pos e2, if_pos ⟨e2.1, e2.2.1, by omega⟩]
      · rw [if_neg e2, if_neg (by omega)]
/-- with another row 34 -/
def put34 (c : ab_C) (m : Nat) (v : Int32) : ab_C := fun a i q => if a = 34 ∧ i = m ∧ q < 12 then v else c a i q
theorem put34_u {c : ab_C} {m s i k : Nat} {v w : Int32} (hs : s ≠ 34) : u3 (put34 c m v) s i k w = put34 (u3 c s i k w) m v := by
  funext a b q
  rw [u3_ap]
  unfold put34
  rw [u3_ap]
  by_cases e : a = s ∧ b = i ∧ q = k
  · rw [if_pos e, if_pos e, if_neg (fun z => hs (e.1.symm.trans z.1))]
  · rw [if_neg e, if_neg e]
theorem ute_c {c : ab_C} {p k s t q : Int32} {v : Int32} (h38 : c 38 0 0 = nN (nu c)) (h12 : nu c < 12) (hv : v = c 8 0 p.toNatClampNeg - 4 * q) : cUtensil c p k s t q = put34 (utX c p.toNatClampNeg v k s t q p (nu c)) (nu c) (-1000) := by
  subst hv
  unfold cUtensil cUtensil1 cUAdd
  have e0 : nu (u3 c 8 0 p.toNatClampNeg (c 8 0 p.toNatClampNeg - 4 * q)) = nu c := rfl
  rw [e0]
  have eF : ∀ X : ab_C, fo (fUAdd (nu c)) X 12 = put34 X (nu c) (-1000) := fun X => by
    funext a i z
    exact fo34 12 a i z
  rw [eF]
  have e38 : put34 (cUAdd0 (u3 c 8 0 p.toNatClampNeg (c 8 0 p.toNatClampNeg - 4 * q)) p k s) (nu c) (-1000) 38 0 0 + 1 = nN (nu c + 1) := by
    have : put34 (cUAdd0 (u3 c 8 0 p.toNatClampNeg (c 8 0 p.toNatClampNeg - 4 * q)) p k s) (nu c) (-1000) 38 0 0 = c 38 0 0 := by
      unfold put34 cUAdd0
      rw [if_neg (by omega), u3_o (by decide), u3_o (by decide), u3_o (by decide), u3_o (by decide)]
    rw [this, h38, nN_succ]
  rw [e38, put34_u (by decide), put34_u (by decide), put34_u (by decide)]
  refine congrArg (fun X => put34 X (nu c) (-1000)) ?_
  unfold cUAdd0 utX
  rw [e0]
  rw [u3_comm (s := 38) (t := 28) (by decide), u3_comm (s := 38) (t := 29) (by decide)]
  rw [u3_comm (s := 30) (t := 26) (by decide), u3_comm (s := 30) (t := 27) (by decide), u3_comm (s := 30) (t := 28) (by decide), u3_comm (s := 30) (t := 29) (by decide)]
theorem ute_r {r : ab_C} {p k s t q v : Int32} {n : Nat} (h : INV n r) (hv : v = r 8 0 p.toNatClampNeg - 4 * q) : (∀ a i z, a ≠ 34 → rUteX r p k s t q a i z = utX r p.toNatClampNeg v k s t q p (nu r) a i z) ∧ ∀ u z, z < 12 → rUteX r p k s t q 34 u z = if u = nu r then -1 else r 34 u z := by
  subst hv
  have hz := h.z0.2.2.2
  unfold rUteX
  rw [zr_id (S := 53) (fun a i z b d he hb => by
    match d, he with
    | 0, he => cases he; exact (u3_o (by decide)).trans (hz 26 _ (by decide) (by decide) (by omega))
    | 1, he => cases he; exact (u3_o (by decide)).trans (hz 27 _ (by decide) (by decide) (by omega))
    | 2, he => cases he; exact (u3_o (by decide)).trans (hz 28 _ (by decide) (by decide) (by omega))
    | 3, he => cases he; exact (u3_o (by decide)).trans (hz 29 _ (by decide) (by decide) (by omega))
    | 4, he => cases he; exact (u3_o (by decide)).trans (hz 30 _ (by decide) (by decide) (by omega))
    | 5, he => cases he; exact (u3_o (by decide)).trans (hz 32 _ (by decide) (by decide) (by omega))
    | 6, he => cases he; exact (u3_o (by decide)).trans (hz 31 _ (by decide) (by decide) (by omega))
    | d + 7, he => cases he)]
  have hzr : ∀ (X : ab_C) a i z, ¬ (a = 34 ∧ i = nu r) → zr X 43 (nu r) a i z = X a i z := fun X a i z hne => by
    unfold zr
    cases h9 : lc a i z with
    | none => rfl
    | some x =>
      refine if_neg (fun y => hne ?_)
      have := lc_lci h9
      rw [y.1] at this
      have e : (34, x.2.1, x.2.2) = (a, i, z) := Option.some.inj this
      exact ⟨(congrArg Prod.fst e).symm, ((congrArg (fun w => w.2.1) e).symm).trans y.2⟩
  refine ⟨fun a i z ha => ?_, fun u z hz12 => ?_⟩
  · have hc : ∀ (X Y : ab_C) (s' i' k' : Nat) (v' : Int32), X a i z = Y a i z → u3 X s' i' k' v' a i z = u3 Y s' i' k' v' a i z := fun X Y s' i' k' v' hXY => by
      rw [u3_ap, u3_ap, hXY]
    unfold utX
    refine hc _ _ 38 0 0 _ ?_
    rw [fo34, if_neg (fun w => ha w.1)]
    exact hc _ _ 30 0 _ _ (hc _ _ 29 0 _ _ (hc _ _ 28 0 _ _ (hc _ _ 27 0 _ _ (hc _ _ 26 0 _ _ (hzr _ a i z (fun w => ha w.1))))))
  · rw [u3_o (by decide), fo34]
    by_cases e : u = nu r
    · rw [if_pos ⟨rfl, e, hz12⟩, if_pos e]
    · rw [if_neg (fun w => e w.2.1), if_neg e, u3_o (by decide), u3_o (by decide), u3_o (by decide), u3_o (by decide), u3_o (by decide), hzr _ _ _ _ (fun w => e w.2), u3_o (by decide)]
theorem ute_ST {n : Nat} {c r : ab_C} {p k s t q : Int32} (h : ST n c r) (hp : inb p (np r)) (h8 : nu r < 12) (hq : inb q 10) : ST n (cUtensil c p k s t q) (rUteX r p k s t q) := by
  have hpl := (inb_eq hp).2
  have eC := ute_c (c := c) (p := p) (k := k) (s := s) (t := t) (q := q) (v := r 8 0 p.toNatClampNeg - 4 * q) (by rw [h.1.gnu, h.1.c38]; exact h.2.1.cn.2.2.2.1) (by rw [h.1.gnu]; exact h8) (by rw [rI_s h 8 _ rfl])
  obtain ⟨eR, eR34⟩ := ute_r (p := p) (k := k) (s := s) (t := t) (q := q) h.2.1 rfl
  have hI := utX_INV (v := r 8 0 p.toNatClampNeg - 4 * q) (k := k) (s := s) (t := t) h.2.1 hpl h8 hp hq
  rw [eC, h.1.gnu]
  generalize r 8 0 p.toNatClampNeg - 4 * q = v at *
  generalize rUteX r p k s t q = R at *
  have n1 : np R = np r := (congrArg Int32.toNatClampNeg (eR 35 0 0 (by decide))).trans (congrArg Int32.toNatClampNeg (utX_e (by decide) (by decide) (by decide)))
  have e38 : R 38 0 0 = nN (nu r + 1) := (eR 38 0 0 (by decide)).trans u3_in
  have n4 : nu R = nu r + 1 := by
    show (R 38 0 0).toNatClampNeg = _
    rw [e38, nN_nat (by omega)]
  have e34 : ∀ (X : ab_C) a i z, a ≠ 34 → put34 X (nu r) (-1000) a i z = X a i z := fun X a i z ha => if_neg (fun w => ha w.1)
  refine ⟨⟨fun a ha => ?_, ⟨?_, ?_, ?_, ?_⟩, ⟨?_, ?_, ?_, ?_, ?_⟩, fun a z ha h1 h9 hz => ?_, fun u z hu hz => ?_⟩, INV_of hI (fun a i z ha => ?_), fun i hi => ?_, fun i hi => ?_⟩
  · have hn := eqS_ne ha
    funext z
    rw [e34 _ _ _ _ (by omega), eR _ _ _ (by omega)]
    exact congrFun ((EQ0_u (EQ0_u (EQ0_u (EQ0_u (EQ0_u (EQ0_u (EQ0_u h.1.1)))))) : EQ0 (utX c _ _ _ _ _ _ _ _) (utX r _ _ _ _ _ _ _ _)) a ha) z
  · rw [e34 _ _ _ _ (by decide), eR _ _ _ (by decide), utX_e (by decide) (by decide) (by decide), utX_e (by decide) (by decide) (by decide)]; exact h.1.c35
  · rw [e34 _ _ _ _ (by decide), eR _ _ _ (by decide), utX_e (by decide) (by decide) (by decide), utX_e (by decide) (by decide) (by decide)]; exact h.1.c36
  · rw [e34 _ _ _ _ (by decide), eR _ _ _ (by decide), utX_e (by decide) (by decide) (by decide), utX_e (by decide) (by decide) (by decide)]; exact h.1.c37
  · rw [e34 _ _ _ _ (by decide), eR _ _ _ (by decide)]; exact u3_in.trans u3_in.symm
  · rw [e34 _ _ _ _ (by decide), eR _ _ _ (by decide), utX_e (by decide) (by decide) (by decide), utX_e (by decide) (by decide) (by decide)]; exact h.1.d6
  · rw [e34 _ _ _ _ (by decide), eR _ _ _ (by decide), utX_e (by decide) (by decide) (by decide), utX_e (by decide) (by decide) (by decide)]; exact h.1.d7
  · rw [e34 _ _ _ _ (by decide), eR _ _ _ (by decide), utX_e (by decide) (by decide) (by decide), utX_e (by decide) (by decide) (by decide)]; exact h.1.d8
  · rw [e34 _ _ _ _ (by decide), eR _ _ _ (by decide), utX_e (by decide) (by decide) (by decide), utX_e (by decide) (by decide) (by decide)]; exact h.1.d9
  · rw [e34 _ _ _ _ (by decide), eR _ _ _ (by decide), utX_e (by decide) (by decide) (by decide), utX_e (by decide) (by decide) (by decide)]; exact h.1.d10
  · rw [n1] at ha
    rw [eR _ _ _ (by decide), utX_e (by decide) (by decide) (by decide)] at hz
    rw [e34 _ _ _ _ (by decide), e34 _ _ _ _ (by decide), eR _ _ _ (by decide), eR _ _ _ (by decide), utX_e (by decide) (by decide) (by decide), utX_e (by decide) (by decide) (by decide), utX_e (by decide) (by decide) (by decide), utX_e (by decide) (by decide) (by decide)]
    exact h.1.held ha h1 h9 hz
  · rw [n4] at hu
    rw [n1, eR34 u z hz]
    unfold put34
    by_cases e : u = nu r
    · rw [if_pos ⟨rfl, e, hz⟩, if_pos e]
      exact ⟨Or.inr ⟨rfl, rfl⟩, fun _ => rfl⟩
    · rw [if_neg (fun w => e w.2.1), if_neg e, utX_e (by decide) (by decide) (by decide)]
      exact h.1.seen (by omega) hz
  · have hne : a ≠ 34 := by
      rcases ha with w | w | w
      · have := eqS_ne w; omega
      · omega
      · omega
    exact eR a i z hne
  · rw [e34 _ _ _ _ (by decide), utX_e (by decide) (by decide) (by decide)]; exact h.2.2.1 i hi
  · rw [e34 _ _ _ _ (by decide), utX_e (by decide) (by decide) (by decide)]; exact h.2.2.2 i hi
def kUte (c : ab_C) (p k s t q : Int32) : Int32 × Int32 × ab_C := if cHas c p = true then (if cRng k 0 3 = true then (if cRng s (-1) 3 = true then (if cRng t 0 9 = true then (if cRng q 1 9 = true then (if c 38 0 0 < 12 then (if c 13 0 p.toNatClampNeg = 0 then (3, 0, c) else if c 8 0 p.toNatClampNeg < 4 * q then (3, 0, c) else (0, nN (nu c), cUtensil c p k s t q)) else (3, 0, c)) else (2, 0, c)) else (2, 0, c)) else (2, 0, c)) else (2, 0, c)) else (1, 0, c)
theorem o_utensil {m : ab_M} {p k s t q : Int32} (h1 : CI m) : SP_X6_utensil [vA 61 0, vI p, vI k, vI s, vI t, vI q] m = kout cd3 (kUte (mi m) p k s t q) m := by
  rw [e_X6_utensil h1]
  simp only [kUte, kout_i, kout_0, kout_e t10, kout_e t20, kout_e t30, cd3_1, cd3_2, cd3_3]
theorem g_utensil {n : Nat} {c r : ab_C} (h : ST n c r) (p k s t q : Int32) : AG (n + 1) (kUte c p k s t q) (rUte r p k s t q) := by
  refine AG_b (h.1.has h.2.1 p) (fun e => AG_b rfl (fun _ => AG_b rfl (fun _ => AG_b rfl (fun _ => AG_b rfl (fun eq => AG_n ?_ (fun z8 => AG_p (live_p h) (fun _ => AG_no h t30) (fun _ => AG_p (by rw [rI_s h 8 _ rfl]) (fun _ => AG_no h t30) (fun _ => ?_))) (fun _ => AG_no h t30)) (AG_no h t20)) (AG_no h t20)) (AG_no h t20)) (AG_no h t20)) (AG_no h t10)
  · have := h.2.1.cn.2.2.2
    rw [h.1.c38, this.1, nN_lt12 (by omega)]
    omega
  · have := h.2.1.cn.2.2.2.2
    exact AG_do (by rw [nN_sub1, h.1.gnu]) (ute_ST h (has_in h.2.1 e) (by omega) (rng_in eq).1)

