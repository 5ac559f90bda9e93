/-! single changes keep agreement and soundness -/
theorem RG_7 {c : ab_C} {i : Nat} {v : Int32} (h : RG c) (hv : inb v 10) : RG (u3 c 7 0 i v) := by
  obtain ⟨⟨r1, r2, r3, r4, r5, r6⟩, hA0, hQ⟩ := h
  have e : ∀ s a k, s ≠ 7 → u3 c 7 0 i v s a k = c s a k := fun s a k hs => by rw [u3_ap, if_neg (fun z => hs z.1)]
  have n1 : np (u3 c 7 0 i v) = np c := congrArg Int32.toNatClampNeg (e 35 0 0 (by decide))
  have n2 : nh (u3 c 7 0 i v) = nh c := congrArg Int32.toNatClampNeg (e 36 0 0 (by decide))
  have n3 : nsc (u3 c 7 0 i v) = nsc c := congrArg Int32.toNatClampNeg (e 37 0 0 (by decide))
  have n4 : nu (u3 c 7 0 i v) = nu c := congrArg Int32.toNatClampNeg (e 38 0 0 (by decide))
  have e5 := fun k => e 5 0 k (by decide)
  have e9 := fun k => e 9 0 k (by decide)
  have e23 := fun k => e 23 0 k (by decide)
  have e3 := fun k => e 3 0 k (by decide)
  have e4 := fun k => e 4 0 k (by decide)
  have e30 := fun k => e 30 0 k (by decide)
  unfold RG RV AC QC
  simp only [n1, n2, n3, n4, e5, e9, e23, e3, e4, e30]
  refine ⟨⟨r1, r2, r3, r4, r5, fun j hj => ?_⟩, hA0, hQ⟩
  rw [u3_ap]
  split
  · exact hv
  · exact r6 j hj
theorem RG_3 {c : ab_C} {i : Nat} {v : Int32} (h : RG c) (hv : v = -1 ∨ inb v (np c)) : RG (u3 c 3 0 i v) := by
  obtain ⟨⟨r1, r2, r3, r4, r5, r6⟩, hA0, hQ⟩ := h
  have e : ∀ s a k, s ≠ 3 → u3 c 3 0 i v s a k = c s a k := fun s a k hs => by rw [u3_ap, if_neg (fun z => hs z.1)]
  have n1 : np (u3 c 3 0 i v) = np c := congrArg Int32.toNatClampNeg (e 35 0 0 (by decide))
  have n2 : nh (u3 c 3 0 i v) = nh c := congrArg Int32.toNatClampNeg (e 36 0 0 (by decide))
  have n3 : nsc (u3 c 3 0 i v) = nsc c := congrArg Int32.toNatClampNeg (e 37 0 0 (by decide))
  have n4 : nu (u3 c 3 0 i v) = nu c := congrArg Int32.toNatClampNeg (e 38 0 0 (by decide))
  have e5 := fun k => e 5 0 k (by decide)
  have e9 := fun k => e 9 0 k (by decide)
  have e23 := fun k => e 23 0 k (by decide)
  have e4 := fun k => e 4 0 k (by decide)
  have e30 := fun k => e 30 0 k (by decide)
  have e7 := fun k => e 7 0 k (by decide)
  unfold RG RV AC QC
  simp only [n1, n2, n3, n4, e5, e9, e23, e4, e30, e7]
  refine ⟨⟨r1, r2, r3, fun j hj => ⟨?_, (r4 j hj).2⟩, r5, r6⟩, hA0, hQ⟩
  rw [u3_ap]
  split
  · exact hv
  · exact (r4 j hj).1
theorem RG_4 {c : ab_C} {i : Nat} {v : Int32} (h : RG c) (hv : v = -1 ∨ inb v (np c)) : RG (u3 c 4 0 i v) := by
  obtain ⟨⟨r1, r2, r3, r4, r5, r6⟩, hA0, hQ⟩ := h
  have e : ∀ s a k, s ≠ 4 → u3 c 4 0 i v s a k = c s a k := fun s a k hs => by rw [u3_ap, if_neg (fun z => hs z.1)]
  have n1 : np (u3 c 4 0 i v) = np c := congrArg Int32.toNatClampNeg (e 35 0 0 (by decide))
  have n2 : nh (u3 c 4 0 i v) = nh c := congrArg Int32.toNatClampNeg (e 36 0 0 (by decide))
  have n3 : nsc (u3 c 4 0 i v) = nsc c := congrArg Int32.toNatClampNeg (e 37 0 0 (by decide))
  have n4 : nu (u3 c 4 0 i v) = nu c := congrArg Int32.toNatClampNeg (e 38 0 0 (by decide))
  have e5 := fun k => e 5 0 k (by decide)
  have e9 := fun k => e 9 0 k (by decide)
  have e23 := fun k => e 23 0 k (by decide)
  have e3 := fun k => e 3 0 k (by decide)
  have e30 := fun k => e 30 0 k (by decide)
  have e7 := fun k => e 7 0 k (by decide)
  unfold RG RV AC QC
  simp only [n1, n2, n3, n4, e5, e9, e23, e3, e30, e7]
  refine ⟨⟨r1, r2, r3, fun j hj => ⟨(r4 j hj).1, ?_⟩, r5, r6⟩, hA0, hQ⟩
  rw [u3_ap]
  split
  · exact hv
  · exact (r4 j hj).2
theorem eqS_ne {s : Nat} (h : eqS s = true) : (3 ≤ s ∧ s ≤ 13) ∨ (22 ≤ s ∧ s ≤ 32) := by
  unfold eqS at h
  simpa using h
theorem EQ_u {c r : ab_C} {s i : Nat} {v : Int32} (h : EQ c r) (hs : eqS s = true) (h7 : s ≠ 7) : EQ (u3 c s 0 i v) (u3 r s 0 i v) := by
  have hn := eqS_ne hs
  have e : ∀ (c : ab_C) t a k, t ≠ s → u3 c s 0 i v t a k = c t a k := fun c t a k ht => by rw [u3_ap, if_neg (fun z => ht z.1)]
  have n1 : np (u3 r s 0 i v) = np r := congrArg Int32.toNatClampNeg (e r 35 0 0 (by omega))
  have n4 : nu (u3 r s 0 i v) = nu r := congrArg Int32.toNatClampNeg (e r 38 0 0 (by omega))
  refine ⟨fun t ht => ?_, ⟨?_, ?_, ?_, ?_⟩, ⟨?_, ?_, ?_, ?_, ?_⟩, fun a k ha h1 h9 hk => ?_, fun u k hu hk => ?_⟩
  · funext k
    rw [u3_ap, u3_ap]
    split
    · rfl
    · exact congrFun (h.st t ht) k
  all_goals first
    | (rw [e c _ _ _ (by omega), e r _ _ _ (by omega)]; first | exact h.c35 | exact h.c36 | exact h.c37 | exact h.c38 | exact h.d6 | exact h.d7 | exact h.d8 | exact h.d9 | exact h.d10)
    | (rw [n1] at ha
       rw [e r 7 _ _ (by omega)] at hk
       rw [e c 15 _ _ (by omega), e r 15 _ _ (by omega), e c 17 _ _ (by omega), e r 17 _ _ (by omega)]
       exact h.held ha h1 h9 hk)
    | (rw [n4] at hu
       rw [e c 34 _ _ (by omega), e r 34 _ _ (by omega), n1]
       exact h.seen hu hk)
theorem EQ_61 {c r : ab_C} {k : Nat} {v : Int32} (h : EQ c r) : EQ (u3 c 61 0 k v) (u3 r 61 0 k v) := by
  have e : ∀ (c : ab_C) t a q, t ≠ 61 → u3 c 61 0 k v t a q = c t a q := fun c t a q ht => by rw [u3_ap, if_neg (fun z => ht z.1)]
  have n1 : np (u3 r 61 0 k v) = np r := rfl
  have n4 : nu (u3 r 61 0 k v) = nu r := rfl
  have e2 : ∀ q, c 61 0 q = r 61 0 q → u3 c 61 0 k v 61 0 q = u3 r 61 0 k v 61 0 q := fun q hq => by
    rw [u3_ap, u3_ap]
    split
    · rfl
    · exact hq
  refine ⟨fun t ht => ?_, ⟨h.c35, h.c36, h.c37, h.c38⟩, ⟨e2 _ h.d6, e2 _ h.d7, e2 _ h.d8, e2 _ h.d9, e2 _ h.d10⟩, fun a q ha h1 h9 hk => ?_, fun u q hu hq => ?_⟩
  · have hn := eqS_ne ht
    funext q
    rw [e c _ _ _ (by omega), e r _ _ _ (by omega)]
    exact congrFun (h.st t ht) q
  · exact h.held ha h1 h9 hk
  · exact h.seen hu hq
/-- a change of the class's own work -/
theorem EQ_scr {c c' r : ab_C} (h : EQ c r) (he : ∀ s i k, eqS s = true ∨ s = 15 ∨ s = 17 ∨ 34 ≤ s ∧ s ≤ 38 ∨ s = 61 → c' s i k = c s i k) : EQ c' r := by
  refine ⟨fun t ht => ?_, ⟨?_, ?_, ?_, ?_⟩, ⟨?_, ?_, ?_, ?_, ?_⟩, fun a k ha h1 h9 hk => ?_, fun u k hu hk => ?_⟩
  · funext k
    rw [he t 0 k (Or.inl ht)]
    exact congrFun (h.st t ht) k
  · rw [he _ _ _ (by simp)]; exact h.c35
  · rw [he _ _ _ (by simp)]; exact h.c36
  · rw [he _ _ _ (by simp)]; exact h.c37
  · rw [he _ _ _ (by simp)]; exact h.c38
  · rw [he _ _ _ (by simp)]; exact h.d6
  · rw [he _ _ _ (by simp)]; exact h.d7
  · rw [he _ _ _ (by simp)]; exact h.d8
  · rw [he _ _ _ (by simp)]; exact h.d9
  · rw [he _ _ _ (by simp)]; exact h.d10
  · rw [he 15 _ _ (by simp), he 17 _ _ (by simp)]; exact h.held ha h1 h9 hk
  · rw [he 34 _ _ (by simp)]; exact h.seen hu hk
def rngS (r : ab_C) (s i : Nat) : Prop := (5 ≤ s → s ≤ 13 → i < np r) ∧ (s = 3 ∨ s = 4 → i < nh r) ∧ (22 ≤ s → s ≤ 25 → i < nsc r) ∧ (26 ≤ s → s ≤ 32 → i < nu r)
theorem INV_u {n : Nat} {r : ab_C} {s i : Nat} {v : Int32} (h : INV n r) (hs : eqS s = true) (h12 : s ≠ 12) (hG : RG (u3 r s 0 i v)) (hr : rngS r s i) (hb : s = 13 ∨ s = 24 ∨ s = 25 ∨ s = 32 → v = 0 ∨ v = 1) (hk : s = 29 → inb v 10) : INV n (u3 r s 0 i v) := by
  have hn := eqS_ne hs
  have e : ∀ t a k, t ≠ s → u3 r s 0 i v t a k = r t a k := fun t a k ht => by rw [u3_ap, if_neg (fun z => ht z.1)]
  have n1 : np (u3 r s 0 i v) = np r := congrArg Int32.toNatClampNeg (e 35 0 0 (by omega))
  have n2 : nh (u3 r s 0 i v) = nh r := congrArg Int32.toNatClampNeg (e 36 0 0 (by omega))
  have n3 : nsc (u3 r s 0 i v) = nsc r := congrArg Int32.toNatClampNeg (e 37 0 0 (by omega))
  have n4 : nu (u3 r s 0 i v) = nu r := congrArg Int32.toNatClampNeg (e 38 0 0 (by omega))
  obtain ⟨z1, z2, z3, z4⟩ := h.z0
  obtain ⟨q1, q2, q3, q4⟩ := hr
  refine ⟨⟨?_, hG, ⟨fun t j a b d => ?_, fun t j a b d => ?_, fun t j a b d => ?_, fun t j a b d => ?_⟩, ?_⟩, fun t ht j => ?_, ?_, ?_, fun j => ?_⟩
  · unfold CN
    rw [n1, n2, n3, n4, e 35 _ _ (by omega), e 36 _ _ (by omega), e 37 _ _ (by omega), e 38 _ _ (by omega)]
    exact h.cn
  · rw [n1] at d
    rw [u3_ap, if_neg (fun z => by obtain ⟨w1, -, w3⟩ := z; subst w1; have := q1 a b; omega)]
    exact z1 t j a b d
  · rw [n2] at d
    rw [u3_ap, if_neg (fun z => by obtain ⟨w1, -, w3⟩ := z; subst w1; have := q2 (by omega); omega)]
    exact z2 t j a b d
  · rw [n3] at d
    rw [u3_ap, if_neg (fun z => by obtain ⟨w1, -, w3⟩ := z; subst w1; have := q3 a b; omega)]
    exact z3 t j a b d
  · rw [n4] at d
    rw [u3_ap, if_neg (fun z => by obtain ⟨w1, -, w3⟩ := z; subst w1; have := q4 a b; omega)]
    exact z4 t j a b d
  · unfold FO
    rw [n1]
    simp only [e 12 0 _ (Ne.symm h12)]
    exact h.fo
  · rw [u3_ap]
    split
    · next w => exact hb (w.1 ▸ ht)
    · exact h.b01 t ht j
  · rw [n1, n2]; exact h.hz
  · unfold DY
    rw [e 61 _ _ (by omega)]
    exact h.dy
  · rw [u3_ap]
    split
    · next w => exact hk w.1.symm
    · exact h.rk j
theorem INV_61 {n k : Nat} {r : ab_C} {v : Int32} (h : INV n r) (hk : k ≠ 6) : INV n (u3 r 61 0 k v) := by
  have e : ∀ t a q, t ≠ 61 → u3 r 61 0 k v t a q = r t a q := fun t a q ht => by rw [u3_ap, if_neg (fun z => ht z.1)]
  obtain ⟨z1, z2, z3, z4⟩ := h.z0
  refine ⟨⟨h.cn, RG_u3 h.rg rfl, ⟨fun t j a b d => (e t 0 j (by omega)).trans (z1 t j a b d), fun t j a b d => (e t 0 j (by omega)).trans (z2 t j a b d), fun t j a b d => (e t 0 j (by omega)).trans (z3 t j a b d), fun t j a b d => (e t 0 j (by omega)).trans (z4 t j a b d)⟩, h.fo⟩, fun t ht j => ?_, h.hz, ?_, h.rk⟩
  · rw [e t 0 j (by omega)]; exact h.b01 t ht j
  unfold DY
  rw [u3_ap, if_neg (fun z => hk z.2.2.symm)]
  exact h.dy
/-- side by side, behind n calls -/
def ST (n : Nat) (c r : ab_C) : Prop := EQ c r ∧ INV n r ∧ KE c ∧ BE c
def AG (n : Nat) (x y : Int32 × Int32 × ab_C) : Prop := x.1 = y.1 ∧ (x.1 = 0 → x.2.1 = y.2.1) ∧ ST n x.2.2 y.2.2
theorem ST.up {n k : Nat} {c r : ab_C} (h : ST n c r) (hk : n ≤ k) : ST k c r := ⟨h.1, h.2.1.up hk, h.2.2⟩
theorem AG_no {n : Nat} {t v w : Int32} {c r : ab_C} (h : ST n c r) (ht : ¬ t = 0) : AG (n + 1) (t, v, c) (t, w, r) := ⟨rfl, fun e => absurd e ht, h.up (Nat.le_succ n)⟩
theorem AG_ok {n : Nat} {v w : Int32} {c r : ab_C} (h : ST n c r) (hv : v = w) : AG (n + 1) (0, v, c) (0, w, r) := ⟨rfl, fun _ => hv, h.up (Nat.le_succ n)⟩
theorem ST_u {n : Nat} {c r : ab_C} {s i : Nat} {v : Int32} (h : ST n c r) (hs : eqS s = true) (h7 : s ≠ 7) (h12 : s ≠ 12) (hG : RG (u3 r s 0 i v)) (hr : rngS r s i) (hb : s = 13 ∨ s = 24 ∨ s = 25 ∨ s = 32 → v = 0 ∨ v = 1) (hk : s = 29 → inb v 10) : ST n (u3 c s 0 i v) (u3 r s 0 i v) := by
  have hn := eqS_ne hs
  refine ⟨EQ_u h.1 hs h7, INV_u h.2.1 hs h12 hG hr hb hk, fun j hj => ?_, fun j hj => ?_⟩
  · rw [u3_ap, if_neg (by omega)]; exact h.2.2.1 j hj
  · rw [u3_ap, if_neg (by omega)]; exact h.2.2.2 j hj
theorem ST_61 {n k : Nat} {c r : ab_C} {v : Int32} (h : ST n c r) (hk : k ≠ 6) : ST n (u3 c 61 0 k v) (u3 r 61 0 k v) := ⟨EQ_61 h.1, INV_61 h.2.1 hk, h.2.2⟩
/-- what the class's methods answer, as code, value, state -/
noncomputable def kout (cd : Int32 → String) (x : Int32 × Int32 × ab_C) (m : ab_M) : ab_O := if x.1 = 0 then okV (vI x.2.1) (wI m x.2.2) else exE (cd x.1) m
theorem kout_0 {cd : Int32 → String} {v : Int32} {c : ab_C} {m : ab_M} : kout cd (0, v, c) m = okV (vI v) (wI m c) := if_pos rfl
theorem kout_e {cd : Int32 → String} {t v : Int32} {c : ab_C} {m : ab_M} (h : ¬ t = 0) : kout cd (t, v, c) m = exE (cd t) m := if_neg h
theorem kout_i {cd : Int32 → String} {p : Prop} [Decidable p] {x y : Int32 × Int32 × ab_C} {m : ab_M} : kout cd (if p then x else y) m = if p then kout cd x m else kout cd y m := by split <;> rfl
/-- codes of what is thrown -/
def cd2 (t : Int32) : String := if t = 1 then eIO else eIS
def cdA (t : Int32) : String := if t = 1 then eIO else eIA
def cd3 (t : Int32) : String := if t = 1 then eIO else if t = 2 then eIA else eIS
def cd1 (_ : Int32) : String := eIA
theorem t10 : ¬ (1 : Int32) = 0 := by decide
theorem t20 : ¬ (2 : Int32) = 0 := by decide
theorem t30 : ¬ (3 : Int32) = 0 := by decide
theorem cd2_1 : cd2 1 = eIO := if_pos rfl
theorem cd2_2 : cd2 2 = eIS := if_neg (by decide)
theorem cdA_1 : cdA 1 = eIO := if_pos rfl
theorem cdA_2 : cdA 2 = eIA := if_neg (by decide)
theorem cd3_1 : cd3 1 = eIO := if_pos rfl
theorem cd3_2 : cd3 2 = eIA := by unfold cd3; rw [if_neg (by decide), if_pos rfl]
theorem cd3_3 : cd3 3 = eIS := by unfold cd3; rw [if_neg (by decide), if_neg (by decide)]

