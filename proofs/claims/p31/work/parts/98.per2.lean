/-! people: pupils and the founder */ -/
theorem zr_o {X : ab_C} {S n a i q : Nat} (h : ∀ x, lc a i q = some x → ¬ (x.1 = S ∧ x.2.1 = n)) : zr X S n a i q = X a i q := by
  unfold zr
  cases h9 : lc a i q with
  | none => rfl
  | some x => exact if_neg (h x h9)
theorem per_r15 {r : ab_C} {t k h : Int32} : ∀ a i q, i ≠ np r → (a = 15 ∨ a = 17) → rPerX r t k h a i q = r a i q := by
  intro a i q hi ha
  have h41 : ∀ x, lc a i q = some x → ¬ (x.1 = 41 ∧ x.2.1 = np r) ∧ ¬ (x.1 = 42 ∧ x.2.1 = np r) ∧ ¬ (x.1 = 48 ∧ x.2.1 = np r) := fun x hx => by
    rcases ha with rfl | rfl <;> cases hx <;> exact ⟨fun z => hi z.2, fun z => hi z.2, fun z => by cases z.1⟩
  unfold rPerX rPer0
  rw [u3_o (by omega), u3_o (by omega), u3_o (by omega), u3_o (by omega), zr_o (fun x hx => (h41 x hx).2.1), zr_o (fun x hx => (h41 x hx).1), u3_o (by omega), u3_o (by omega), zr_o (fun x hx => (h41 x hx).2.2)]
theorem per_ST {n : Nat} {c r : ab_C} {t k h : Int32} (hS : ST n c r) (hlt : np r < 12) (ht : inb t (np r)) (hh : inb h (nh r)) : ST n (cPAdd c t k h 0) (rPerX r t k h) := by
  have eC := per_c (c := c) (t := t) (k := k) (h := h) (s := 0) (by rw [hS.1.gnp, hS.1.c35]; exact hS.2.1.cn.1.1)
  have eR := per_r (t := t) (k := k) (h := h) hS.2.1
  have eR15 := per_r15 (r := r) (t := t) (k := k) (h := h)
  rw [eC, hS.1.gnp]
  generalize rPerX r t k h = R at *
  obtain ⟨v5, v9, v7, v13, v12⟩ := perX_5 (c := r) (t := t) (k := k) (h := h) (s := 0) (m := np r)
  have hz := hS.2.1.z0
  have e35 : R 35 0 0 = nN (np r + 1) := (eR 35 0 0 (by decide) (by decide)).trans u3_in
  have n1 : np R = np r + 1 := by
    show (R 35 0 0).toNatClampNeg = _
    rw [e35, nN_nat (by omega)]
  have n4 : nu R = nu r := congrArg Int32.toNatClampNeg ((eR 38 0 0 (by decide) (by decide)).trans (perX_e (by omega) (by decide)))
  have q2 : ∀ a i q, a ≠ 15 → a ≠ 17 → putG (perX c t k h 0 (np r)) (np r) (-1) a i q = perX c t k h 0 (np r) a i q := fun a i q h1 h2 => putG_o h1 h2
  refine ⟨⟨fun a ha => ?_, ⟨?_, ?_, ?_, ?_⟩, ⟨?_, ?_, ?_, ?_, ?_⟩, fun a z ha h1 h9 hq => ?_, fun u z hu hq => ?_⟩, ?_, fun i hi => ?_, fun i hi => ?_⟩
  · have hn := eqS_ne ha
    funext z
    rw [q2 _ _ _ (by omega) (by omega), eR _ _ _ (by omega) (by omega)]
    exact congrFun ((EQ0_u (EQ0_u (EQ0_u (EQ0_u (EQ0_u (EQ0_u (EQ0_u hS.1.1)))))) : EQ0 (perX c _ _ _ _ _) (perX r _ _ _ _ _)) a ha) z
  · rw [q2 _ _ _ (by decide) (by decide), eR _ _ _ (by decide) (by decide)]; exact u3_in.trans u3_in.symm
  · rw [q2 _ _ _ (by decide) (by decide), eR _ _ _ (by decide) (by decide), perX_e (by omega) (by decide), perX_e (by omega) (by decide)]; exact hS.1.c36
  · rw [q2 _ _ _ (by decide) (by decide), eR _ _ _ (by decide) (by decide), perX_e (by omega) (by decide), perX_e (by omega) (by decide)]; exact hS.1.c37
  · rw [q2 _ _ _ (by decide) (by decide), eR _ _ _ (by decide) (by decide), perX_e (by omega) (by decide), perX_e (by omega) (by decide)]; exact hS.1.c38
  · rw [q2 _ _ _ (by decide) (by decide), eR _ _ _ (by decide) (by decide), perX_e (by omega) (by decide), perX_e (by omega) (by decide)]; exact hS.1.d6
  · rw [q2 _ _ _ (by decide) (by decide), eR _ _ _ (by decide) (by decide), perX_e (by omega) (by decide), perX_e (by omega) (by decide)]; exact hS.1.d7
  · rw [q2 _ _ _ (by decide) (by decide), eR _ _ _ (by decide) (by decide), perX_e (by omega) (by decide), perX_e (by omega) (by decide)]; exact hS.1.d8
  · rw [q2 _ _ _ (by decide) (by decide), eR _ _ _ (by decide) (by decide), perX_e (by omega) (by decide), perX_e (by omega) (by decide)]; exact hS.1.d9
  · rw [q2 _ _ _ (by decide) (by decide), eR _ _ _ (by decide) (by decide), perX_e (by omega) (by decide), perX_e (by omega) (by decide)]; exact hS.1.d10
  · rw [n1] at ha
    rw [eR _ _ _ (by decide) (by decide)] at hq
    by_cases w : a = np r
    · subst w
      rw [v7] at hq
      refine absurd ?_ hq
      have := nN_lt (a := 0) (b := z) (by decide) (by omega)
      show nN 0 < nN z
      rw [this]; omega
    · rw [perX_j (by decide) w] at hq
      have g := hS.1.held (show a < np r by omega) h1 h9 hq
      have p15 : ∀ x, putG (perX c t k h 0 (np r)) (np r) (-1) x a z = perX c t k h 0 (np r) x a z := fun x => if_neg (fun y => w y.2.1)
      rw [p15, p15, eR15 _ _ _ w (Or.inl rfl), eR15 _ _ _ w (Or.inr rfl), perX_e (by omega) (by decide), perX_e (by omega) (by decide)]
      exact g
  · rw [n4] at hu
    have g := hS.1.seen hu hq
    rw [n1, q2 _ _ _ (by decide) (by decide), eR _ _ _ (by decide) (by decide), perX_e (by omega) (by decide), perX_e (by omega) (by decide)]
    exact ⟨g.1, fun y => g.2 (by omega)⟩
  · refine INV_P (t := t) (h := h) (s := 0) (H := nh r) hS.2.1 hlt (fun a i q ha h15 h17 h35 _ => ?_) (fun a q h5 h13 hq => ?_) ?_ (Or.inr ht) ?_ hh ?_ (inb_0 (by decide)) ?_ ?_ e35 ?_ (Nat.le_refl _) hS.2.1.cn.2.1.2 (fun i hi => ?_) (fun i hi => ?_)
    · rw [eR _ _ _ h15 h17, perX_e (by omega) h35]
    · rw [eR _ _ _ (by omega) (by omega), perX_j (by omega) hq]
    · rw [eR _ _ _ (by decide) (by decide)]; exact v5
    · rw [eR _ _ _ (by decide) (by decide)]; exact v9
    · rw [eR _ _ _ (by decide) (by decide)]; exact v7
    · rw [eR _ _ _ (by decide) (by decide)]; exact v13
    · rw [eR _ _ _ (by decide) (by decide), v12]; exact hz.1 12 _ (by decide) (by decide) (Nat.le_refl _)
    · rw [eR _ _ _ (by decide) (by decide), perX_e (by omega) (by decide)]; exact hS.2.1.cn.2.1.1
    · rw [eR _ _ _ (by decide) (by decide), eR _ _ _ (by decide) (by decide), perX_e (by omega) (by decide), perX_e (by omega) (by decide)]
      have := hS.2.1.rv.2.2.2.1 i hi
      exact ⟨this.1.imp_right (fun y => inb_up y (by omega)), this.2.imp_right (fun y => inb_up y (by omega))⟩
    · rw [eR _ _ _ (by decide) (by decide), eR _ _ _ (by decide) (by decide), perX_e (by omega) (by decide), perX_e (by omega) (by decide)]
      exact ⟨hz.2.1 3 i (by decide) (by decide) hi, hz.2.1 4 i (by decide) (by decide) hi⟩
  · rw [q2 _ _ _ (by decide) (by decide), perX_e (by omega) (by decide)]; exact hS.2.2.1 i hi
  · rw [q2 _ _ _ (by decide) (by decide), perX_e (by omega) (by decide)]; exact hS.2.2.2 i hi
theorem fRfd_at {X : ab_C} : ∀ n a i q, fo fRfd X n a i q = if (a = 15 ∨ a = 17) ∧ i = 0 ∧ q < n then -1 else X a i q := fun n a i q => fPA_at (m := 0) (X := X) n a i q
theorem perX_79 {c : ab_C} {t k h : Int32} {a i q : Nat} : u3 (perX c t k h 0 0) 7 0 0 9 a i q = perX c t k h 9 0 a i q := by
  unfold perX
  rw [u3_comm (s := 35) (t := 7) (by decide), u3_comm (s := 13) (t := 7) (by decide), u3_comm (s := 8) (t := 7) (by decide)]
  have : ∀ X : ab_C, u3 (u3 X 7 0 0 0) 7 0 0 9 = u3 X 7 0 0 9 := fun X => by
    funext x y z
    rw [u3_ap, u3_ap, u3_ap]
    split <;> rfl
  rw [this]
theorem fou_ST {n : Nat} {c r : ab_C} (hS : ST n c r) (h0 : np r = 0) : ST n (cFound c) (rFouX r (-1)) := by
  have hh0 := hS.2.1.hz h0
  have hc0 : np c = 0 := hS.1.gnp.trans h0
  have hch0 : nh c = 0 := hS.1.gnh.trans hh0
  have eC := per_c (c := c) (t := -1) (k := -1) (h := 0) (s := 9) (by rw [hS.1.gnp, hS.1.c35]; exact hS.2.1.cn.1.1)
  rw [hc0] at eC
  have hz := hS.2.1.z0
  have eC2 : cFound c = addH (putG (perX c (-1) (-1) 0 9 0) 0 (-1)) 0 0 := by
    unfold cFound cHAdd
    rw [eC, hc0]
    have : nh (putG (perX c (-1) (-1) 0 9 0) 0 (-1)) = 0 := by
      show (putG (perX c (-1) (-1) 0 9 0) 0 (-1) 36 0 0).toNatClampNeg = 0
      rw [putG_o (by decide) (by decide), perX_e (by omega) (by decide)]
      exact hch0
    rw [this]
    rfl
  have eR : ∀ a i q, a ≠ 15 → a ≠ 17 → a ≠ 3 → a ≠ 4 → a ≠ 36 → rFouX r (-1) a i q = perX r (-1) (-1) 0 9 0 a i q := fun a i q h15 h17 h3 h4 h36 => by
    unfold rFouX
    rw [u3_o h36, u3_o h4, u3_o h3, zr_o (fun x hx y => by
      have := lc_lci hx
      rw [y.1] at this
      match hd : x.2.2, this with
      | 0, this => have e : (3, 0, 0) = (a, i, q) := Option.some.inj this; exact h3 (congrArg Prod.fst e).symm
      | 1, this => have e : (4, 0, 0) = (a, i, q) := Option.some.inj this; exact h4 (congrArg Prod.fst e).symm
      | d + 2, this => cases this)]
    unfold rFou1
    rw [fRfd_at, if_neg (by omega), ← perX_79, u3_ap, u3_ap, per_r hS.2.1 a i q h15 h17, h0]
  have eR15 : ∀ a q, (a = 15 ∨ a = 17) → q < 10 → rFouX r (-1) a 0 q = -1 := fun a q ha hq => by
    unfold rFouX
    rw [u3_o (by omega), u3_o (by omega), u3_o (by omega), zr_o (fun x hx y => by
      rcases ha with rfl | rfl <;> cases hx <;> cases y.1)]
    unfold rFou1
    rw [fRfd_at, if_pos ⟨ha, rfl, hq⟩]
  have eR3 : ∀ q, rFouX r (-1) 3 0 q = if q = 0 then 0 else 0 := fun q => by
    unfold rFouX
    rw [u3_o (by decide), u3_o (by decide), u3_2]
    split
    · rfl
    · next e =>
      unfold zr
      rw [show lc 3 0 q = some ((hrow q).1, (hrow q).2, 0) from rfl]
      show (if (hrow q).1 = 49 ∧ (hrow q).2 = 0 then 0 else rFou1 r (-1) 3 0 q) = 0
      rw [if_neg (fun z => by unfold hrow at z; rw [if_neg e] at z; cases z.1)]
      unfold rFou1
      rw [fRfd_at, if_neg (by omega), u3_o (by decide), per_r hS.2.1 3 0 q (by decide) (by decide), perX_e (by omega) (by decide)]
      exact hz.2.1 3 q (by decide) (by decide) (by omega)
  have eR4 : ∀ q, rFouX r (-1) 4 0 q = if q = 0 then -1 else 0 := fun q => by
    unfold rFouX
    rw [u3_o (by decide), u3_2]
    split
    · rfl
    · next e =>
      rw [u3_o (by decide)]
      unfold zr
      rw [show lc 4 0 q = some ((hrow q).1, (hrow q).2, 1) from rfl]
      show (if (hrow q).1 = 49 ∧ (hrow q).2 = 0 then 0 else rFou1 r (-1) 4 0 q) = 0
      rw [if_neg (fun z => by unfold hrow at z; rw [if_neg e] at z; cases z.1)]
      unfold rFou1
      rw [fRfd_at, if_neg (by omega), u3_o (by decide), per_r hS.2.1 4 0 q (by decide) (by decide), perX_e (by omega) (by decide)]
      exact hz.2.1 4 q (by decide) (by decide) (by omega)
  have e36 : rFouX r (-1) 36 0 0 = nN 1 := u3_in
  generalize rFouX r (-1) = R at *
  rw [eC2]
  obtain ⟨v5, v9, v7, v13, v12⟩ := perX_5 (c := r) (t := -1) (k := -1) (h := 0) (s := 9) (m := 0)
  have e35 : R 35 0 0 = nN 1 := (eR 35 0 0 (by decide) (by decide) (by decide) (by decide) (by decide)).trans u3_in
  have n1 : np R = 1 := by
    show (R 35 0 0).toNatClampNeg = _
    rw [e35]; rfl
  have n4 : nu R = nu r := congrArg Int32.toNatClampNeg ((eR 38 0 0 (by decide) (by decide) (by decide) (by decide) (by decide)).trans (perX_e (by omega) (by decide)))
  have q2 : ∀ a i q, a ≠ 15 → a ≠ 17 → a ≠ 3 → a ≠ 4 → a ≠ 36 → addH (putG (perX c (-1) (-1) 0 9 0) 0 (-1)) 0 0 a i q = perX c (-1) (-1) 0 9 0 a i q := fun a i q h1 h2 h3 h4 h5 => by rw [addH_e h3 h4 h5, putG_o h1 h2]
  have q15 : ∀ a q, (a = 15 ∨ a = 17) → q < 10 → addH (putG (perX c (-1) (-1) 0 9 0) 0 (-1)) 0 0 a 0 q = -1 := fun a q ha hq => by
    rw [addH_e (by omega) (by omega) (by omega)]
    exact if_pos ⟨ha, rfl, hq⟩
  have hE0 : EQ0 (perX c (-1) (-1) 0 9 0) (perX r (-1) (-1) 0 9 0) := EQ0_u (EQ0_u (EQ0_u (EQ0_u (EQ0_u (EQ0_u (EQ0_u hS.1.1))))))
  have hc3 : ∀ q, q ≠ 0 → c 3 0 q = 0 ∧ c 4 0 q = 0 := fun q hq => by
    rw [rI_s hS 3 _ rfl, rI_s hS 4 _ rfl]
    exact ⟨hz.2.1 3 q (by decide) (by decide) (by omega), hz.2.1 4 q (by decide) (by decide) (by omega)⟩
  refine ⟨⟨fun a ha => ?_, ⟨?_, ?_, ?_, ?_⟩, ⟨?_, ?_, ?_, ?_, ?_⟩, fun a z ha h1 h9 hq => ?_, fun u z hu hq => ?_⟩, ?_, fun i hi => ?_, fun i hi => ?_⟩
  · have hn := eqS_ne ha
    funext z
    by_cases w3 : a = 3
    · subst w3
      rw [addH_3, eR3]
      by_cases e : z = 0
      · rw [if_pos e, if_pos e]
      · rw [if_neg e, if_neg e, putG_o (by decide) (by decide), perX_e (by omega) (by decide)]
        exact (hc3 z e).1
    · by_cases w4 : a = 4
      · subst w4
        rw [addH_4, eR4]
        by_cases e : z = 0
        · rw [if_pos e, if_pos e]
        · rw [if_neg e, if_neg e, putG_o (by decide) (by decide), perX_e (by omega) (by decide)]
          exact (hc3 z e).2
      · rw [q2 _ _ _ (by omega) (by omega) w3 w4 (by omega), eR _ _ _ (by omega) (by omega) w3 w4 (by omega)]
        exact congrFun (hE0 a ha) z
  · rw [q2 _ _ _ (by decide) (by decide) (by decide) (by decide) (by decide), e35]; exact u3_in
  · rw [e36]; exact u3_in
  all_goals first
    | (rw [q2 _ _ _ (by decide) (by decide) (by decide) (by decide) (by decide), eR _ _ _ (by decide) (by decide) (by decide) (by decide) (by decide), perX_e (by omega) (by decide), perX_e (by omega) (by decide)]; first | exact hS.1.c37 | exact hS.1.c38 | exact hS.1.d6 | exact hS.1.d7 | exact hS.1.d8 | exact hS.1.d9 | exact hS.1.d10)
    | skip
  · rw [n1] at ha
    have e : a = 0 := by omega
    subst e
    rw [q15 15 z (Or.inl rfl) h9, q15 17 z (Or.inr rfl) h9, eR15 15 z (Or.inl rfl) h9, eR15 17 z (Or.inr rfl) h9]
    exact ⟨rfl, rfl⟩
  · rw [n4] at hu
    have g := hS.1.seen hu hq
    rw [n1, q2 _ _ _ (by decide) (by decide) (by decide) (by decide) (by decide), eR _ _ _ (by decide) (by decide) (by decide) (by decide) (by decide), perX_e (by omega) (by decide), perX_e (by omega) (by decide)]
    exact ⟨g.1, fun y => g.2 (by omega)⟩
  · refine INV_P (t := -1) (h := 0) (s := 9) (H := 1) hS.2.1 (by omega) (fun a i q ha h15 h17 h35 h36 => ?_) (fun a q h5 h13 hq => ?_) ?_ (Or.inl rfl) ?_ (inb_0 (by decide)) ?_ ((inb_nN (a := 9) (L := 10) (by decide)).mpr (by decide)) ?_ ?_ (by rw [h0]; exact e35) e36 (by omega) (by decide) (fun i hi => ?_) (fun i hi => ?_)
    · rw [eR _ _ _ h15 h17 (by omega) (by omega) h36, perX_e (by omega) h35]
    · rw [eR _ _ _ (by omega) (by omega) (by omega) (by omega) (by omega), perX_j (by omega) (by omega)]
    · rw [h0, eR _ _ _ (by decide) (by decide) (by decide) (by decide) (by decide)]; exact v5
    · rw [h0, eR _ _ _ (by decide) (by decide) (by decide) (by decide) (by decide)]; exact v9
    · rw [h0, eR _ _ _ (by decide) (by decide) (by decide) (by decide) (by decide)]; exact v7
    · rw [h0, eR _ _ _ (by decide) (by decide) (by decide) (by decide) (by decide)]; exact v13
    · rw [h0, eR _ _ _ (by decide) (by decide) (by decide) (by decide) (by decide), v12]; exact hz.1 12 _ (by decide) (by decide) (by omega)
    · have e : i = 0 := by omega
      subst e
      rw [eR3, eR4, if_pos rfl, if_pos rfl, h0]
      exact ⟨Or.inr (inb_0 (by decide)), Or.inl rfl⟩
    · rw [eR3, eR4, if_neg (by omega), if_neg (by omega)]
      exact ⟨rfl, rfl⟩
  · rw [q2 _ _ _ (by decide) (by decide) (by decide) (by decide) (by decide), perX_e (by omega) (by decide)]; exact hS.2.2.1 i hi
  · rw [q2 _ _ _ (by decide) (by decide) (by decide) (by decide) (by decide), perX_e (by omega) (by decide)]; exact hS.2.2.2 i hi
def kPer (c : ab_C) (t k : Int32) : Int32 × Int32 × ab_C := if c 35 0 0 = 0 then (if cHasN c k = true then (0, nN (np c), cFound c) else (1, 0, c)) else if cHas c t = true then (if cHasN c k = true then (if c 35 0 0 < 12 then (if c 13 0 t.toNatClampNeg = 0 then (2, 0, c) else (0, nN (np c), cPAdd c t k (c 9 0 t.toNatClampNeg) 0)) else (2, 0, c)) else (1, 0, c)) else (1, 0, c)
theorem o_person {m : ab_M} {t k : Int32} (h1 : CI m) (h2 : nh (mi m) < 4 ∨ ¬ mi m 35 0 0 = 0) : SP_X6_person [vA 61 0, vI t, vI k] m = kout cd2 (kPer (mi m) t k) m := by
  rw [e_X6_person h1 h2]
  simp only [kPer, kout_i, kout_0, kout_e t10, kout_e t20, cd2_1, cd2_2]
theorem g_person {n : Nat} {c r : ab_C} (h : ST n c r) (t k : Int32) : AG (n + 1) (kPer c t k) (rPerson r t k) := by
  have h35 : (c 35 0 0 = 0) ↔ np r = 0 := by
    rw [h.1.c35, h.2.1.cn.1.1]
    have := h.2.1.cn.1.2
    exact iff_of_eq (nN_inj (a := np r) (b := 0) (by omega) (by decide))
  have hk : (cHasN c k = true) ↔ ¬ (¬ k = -1 ∧ rHas r k = false) := by
    unfold cHasN
    rw [h.1.has h.2.1]
    by_cases z : k = -1
    · simp [z]
    · simp [z]
  unfold kPer rPerson
  by_cases h0 : np r = 0
  · rw [if_pos (h35.mpr h0), if_neg (show ¬ (¬ np r = 0 ∧ rHas r t = false) from fun z => z.1 h0)]
    refine AG_n hk (fun zk => ?_) (fun _ => AG_no h t10)
    rw [if_neg (show ¬ np r = 12 by omega), if_neg (show ¬ (¬ np r = 0 ∧ r 13 0 t.toNatClampNeg = 0) from fun z => z.1 h0), if_pos h0]
    have hk1 : k = -1 := by
      by_cases z : k = -1
      · exact z
      · exfalso
        cases h9 : rHas r k with
        | false => exact zk ⟨z, h9⟩
        | true =>
          have := (inb_eq (has_in h.2.1 h9)).2
          omega
    rw [hk1]
    exact AG_do (by rw [nN_sub1, h.1.gnp]) (fou_ST h h0)
  · rw [if_neg (fun z => h0 (h35.mp z))]
    have e1 : (cHas c t = true) ↔ ¬ (¬ np r = 0 ∧ rHas r t = false) := by
      rw [h.1.has h.2.1]
      cases rHas r t <;> simp [h0]
    refine AG_n e1 (fun zt => AG_n hk (fun zk => AG_n ?_ (fun z12 => AG_p ?_ (fun _ => AG_no h t20) (fun _ => ?_)) (fun _ => AG_no h t20)) (fun _ => AG_no h t10)) (fun _ => AG_no h t10)
    · have := h.2.1.cn.1
      rw [h.1.c35, this.1, nN_lt12 (by omega)]
      omega
    · rw [rI_s h 13 _ rfl]
      exact ⟨fun z => ⟨h0, z⟩, fun z => z.2⟩
    · rw [if_neg h0]
      have hth : rHas r t = true := by
        cases h9 : rHas r t with
        | true => rfl
        | false => exact absurd ⟨h0, h9⟩ zt
      have ht := has_in h.2.1 hth
      have h12 := h.2.1.cn.1.2
      rw [rI_s h 9 _ rfl]
      exact AG_do (by rw [nN_sub1, h.1.gnp]) (per_ST h (by omega) ht (h.2.1.rv.2.1 _ (inb_eq ht).2))

