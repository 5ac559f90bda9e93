/-! gatherings -/
theorem seen34 {g d : Int32} {u : Nat} {X : ab_C} : ∀ n, n ≤ 32 → ∀ a i q, fo (fun i a => if inS g (nN i) = true then u3 a 34 u i d else a) X n a i q = if a = 34 ∧ i = u ∧ q < n ∧ inS g (nN q) = true then d else X a i q := by
  intro n
  induction n with
  | zero => intro _ a i q; rw [if_neg (by omega)]; rfl
  | succ n ih =>
    intro hn a i q
    show (if inS g (nN n) = true then u3 (fo (fun i a => if inS g (nN i) = true then u3 a 34 u i d else a) X n) 34 u n d else fo (fun i a => if inS g (nN i) = true then u3 a 34 u i d else a) X n) a i q = _
    by_cases z : inS g (nN n) = true
    · rw [if_pos z, u3_ap, ih (by omega)]
      by_cases e : a = 34 ∧ i = u ∧ q = n
      · rw [if_pos e, if_pos ⟨e.1, e.2.1, by omega, by rw [e.2.2]; exact z⟩]
      · rw [if_neg e]
        by_cases e2 : a = 34 ∧ i = u ∧ q < n ∧ inS g (nN q) = true
        · rw [if_pos e2, if_pos ⟨e2.1, e2.2.1, by omega, e2.2.2.2⟩]
        · rw [if_neg e2, if_neg (fun w => e2 ⟨w.1, w.2.1, by have := fun y => e ⟨w.1, w.2.1, y⟩; omega, w.2.2.2⟩)]
    · rw [if_neg z, ih (by omega)]
      by_cases e2 : a = 34 ∧ i = u ∧ q < n ∧ inS g (nN q) = true
      · rw [if_pos e2, if_pos ⟨e2.1, e2.2.1, by omega, e2.2.2.2⟩]
      · rw [if_neg e2, if_neg (fun w => e2 ⟨w.1, w.2.1, by
          by_cases y : q = n
          · exact absurd (y ▸ w.2.2.2) z
          · omega, w.2.2.2⟩)]
theorem show_ST {n u : Nat} {c r : ab_C} {g d : Int32} (h : ST n c r) (hu : u < nu r) (hg : Sub g (np r)) (hd : ¬ d < 0) : ST n (fo (fun i a => if inS g (nN i) = true then u3 a 34 u i d else a) c 12) (fo (fun i a => if inS g (nN i) = true then u3 a 34 u i d else a) r (np r)) := by
  have h12 := h.2.1.cn.1.2
  have eC := seen34 (g := g) (d := d) (u := u) (X := c) 12 (by decide)
  have eR := seen34 (g := g) (d := d) (u := u) (X := r) (np r) (by omega)
  generalize fo (fun i a => if inS g (nN i) = true then u3 a 34 u i d else a) c 12 = C at *
  generalize fo (fun i a => if inS g (nN i) = true then u3 a 34 u i d else a) r (np r) = R at *
  have oC : ∀ a i q, a ≠ 34 → C a i q = c a i q := fun a i q ha => by rw [eC, if_neg (fun z => ha z.1)]
  have oR : ∀ a i q, a ≠ 34 → R a i q = r a i q := fun a i q ha => by rw [eR, if_neg (fun z => ha z.1)]
  have n1 : np R = np r := congrArg Int32.toNatClampNeg (oR 35 0 0 (by decide))
  have n4 : nu R = nu r := congrArg Int32.toNatClampNeg (oR 38 0 0 (by decide))
  have hin : ∀ q, q < 12 → inS g (nN q) = true → q < np r := fun q hq hs => by
    rw [inS_bt (by omega)] at hs
    rcases Nat.lt_or_ge q (np r) with w | w
    · exact w
    · rw [hg q w] at hs; cases hs
  refine ⟨⟨fun a ha => ?_, ⟨?_, ?_, ?_, ?_⟩, ⟨?_, ?_, ?_, ?_, ?_⟩, fun a z ha h1 h9 hq => ?_, fun v z hv hz => ?_⟩, INV_of h.2.1 (fun a i q ha => oR a i q ?_), fun i hi => ?_, fun i hi => ?_⟩
  · have hn := eqS_ne ha
    funext z
    rw [oC _ _ _ (by omega), oR _ _ _ (by omega)]
    exact rI_s h a z ha
  all_goals first
    | (rw [oC _ _ _ (by decide), oR _ _ _ (by decide)]; first | exact h.1.c35 | exact h.1.c36 | exact h.1.c37 | exact h.1.c38 | exact h.1.d6 | exact h.1.d7 | exact h.1.d8 | exact h.1.d9 | exact h.1.d10)
    | skip
  · rw [n1] at ha
    rw [oR _ _ _ (by decide)] at hq
    rw [oC _ _ _ (by decide), oC _ _ _ (by decide), oR _ _ _ (by decide), oR _ _ _ (by decide)]
    exact h.1.held ha h1 h9 hq
  · rw [n4] at hv
    rw [n1, eC, eR]
    by_cases e : v = u ∧ inS g (nN z) = true
    · have hz2 := hin z hz e.2
      rw [if_pos ⟨rfl, e.1, hz, e.2⟩, if_pos ⟨rfl, e.1, hz2, e.2⟩]
      exact ⟨Or.inl ⟨rfl, hd⟩, fun w => by omega⟩
    · rw [if_neg (fun w => e ⟨w.2.1, w.2.2.2⟩), if_neg (fun w => e ⟨w.2.1, w.2.2.2⟩)]
      exact h.1.seen hv hz
  · rcases ha with w | w | w
    · have := eqS_ne w; omega
    · omega
    · omega
  · rw [oC _ _ _ (by decide)]; exact h.2.2.1 i hi
  · rw [oC _ _ _ (by decide)]; exact h.2.2.2 i hi
theorem gf_eq (due x : Int32) : cMin due x = rGf due x := by
  unfold cMin rGf
  by_cases e : due < x
  · rw [if_pos e, if_neg (fun z => by rw [Int32.lt_iff_toInt_lt] at *; omega)]
  · rw [if_neg e]
    split
    · rfl
    · next e2 =>
      apply Int32.toInt_inj.mp
      rw [Int32.lt_iff_toInt_lt] at *
      omega
theorem due_eq (w : Int32) : cMax w 0 / 5 = rDue w := by
  unfold cMax rDue
  refine congrArg (fun x => x / 5) ?_
  have e0 : (0 : Int32).toInt = 0 := rfl
  by_cases e : w < 0
  · rw [if_pos e, if_neg (fun z => by rw [Int32.lt_iff_toInt_lt] at *; omega)]
  · rw [if_neg e]
    split
    · rfl
    · next e2 =>
      apply Int32.toInt_inj.mp
      rw [Int32.lt_iff_toInt_lt] at *
      omega
theorem gift_ST {n : Nat} {c r : ab_C} {x g due : Int32} (h : ST n c r) (hx : inb x (np r)) : ∀ k, k ≤ np r → ST n (fo (fGift x g due) c k) (fo (fRgift x g due) r k) ∧ np (fo (fRgift x g due) r k) = np r := by
  intro k
  induction k with
  | zero => intro _; exact ⟨h, rfl⟩
  | succ k ih =>
    intro hk
    obtain ⟨h1, h2⟩ := ih (by omega)
    show ST n (fGift x g due k (fo (fGift x g due) c k)) (fRgift x g due k (fo (fRgift x g due) r k)) ∧ np (fRgift x g due k (fo (fRgift x g due) r k)) = np r
    generalize fo (fGift x g due) c k = a at *
    generalize fo (fRgift x g due) r k = b at *
    unfold fGift fRgift
    split
    · rw [gf_eq, rI_s h1 8 _ rfl]
      have s1 := ST_8 (v := b 8 0 k - rGf due (b 8 0 k)) h1 (show k < np b by omega)
      rw [rI_s s1 8 _ rfl]
      exact ⟨ST_8 s1 (by show x.toNatClampNeg < np b; rw [h2]; exact (inb_eq hx).2), h2⟩
    · exact ⟨h1, h2⟩
theorem shows_ST {n : Nat} {c r : ab_C} {g d : Int32} {pl : Nat → Int32} {m : Nat} (h : ST n c r) (hm : np r = m) (hg : Sub g m) (hd : ¬ d < 0) (hpl : ∀ q, q < 4 → okU r (pl q)) (h18 : ∀ q, q < 4 → c 18 0 q = pl q) (h61 : r 61 0 6 = d) : ∀ k, k ≤ 4 → ST n (fo (fShowB g) c k) (fo (fRsh pl g d m) r k) ∧ (∀ q, q < 4 → fo (fShowB g) c k 18 0 q = pl q) ∧ np (fo (fRsh pl g d m) r k) = m ∧ nu (fo (fRsh pl g d m) r k) = nu r ∧ fo (fRsh pl g d m) r k 61 0 6 = d := by
  intro k
  induction k with
  | zero => intro _; exact ⟨h, h18, hm, rfl, h61⟩
  | succ k ih =>
    intro hk
    obtain ⟨h1, h2, h3, h4, h5⟩ := ih (by omega)
    show ST n (fShowB g k (fo (fShowB g) c k)) (fRsh pl g d m k (fo (fRsh pl g d m) r k)) ∧ (∀ q, q < 4 → fShowB g k (fo (fShowB g) c k) 18 0 q = pl q) ∧ np (fRsh pl g d m k (fo (fRsh pl g d m) r k)) = m ∧ nu (fRsh pl g d m k (fo (fRsh pl g d m) r k)) = nu r ∧ fRsh pl g d m k (fo (fRsh pl g d m) r k) 61 0 6 = d
    generalize fo (fShowB g) c k = a at *
    generalize fo (fRsh pl g d m) r k = b at *
    unfold fShowB fRsh cShow
    rw [h2 k (by omega)]
    by_cases z : pl k = -1
    · rw [if_pos z, if_pos z]
      exact ⟨h1, h2, h3, h4, h5⟩
    · rw [if_neg z, if_neg z]
      have hu := (inb_eq ((hpl k (by omega)).resolve_left z)).2
      have e61 : a 61 0 6 = d := h1.1.d6.trans h5
      rw [e61, rI_s h1 31 _ rfl]
      have s1 := ST_u (s := 31) (i := (pl k).toNatClampNeg) (v := b 31 0 (pl k).toNatClampNeg + 1) h1 rfl (by decide) (by decide) (RG_u3 h1.2.1.rg rfl) (rg_u (by decide) (by decide) (by omega)) (by omega) (by omega)
      have n31 : np (u3 b 31 0 (pl k).toNatClampNeg (b 31 0 (pl k).toNatClampNeg + 1)) = m := h3
      have s2 := show_ST (u := (pl k).toNatClampNeg) (g := g) (d := d) s1 (by show (pl k).toNatClampNeg < nu b; omega) (by rw [n31]; exact hg) hd
      rw [n31] at s2
      have hm12 : m ≤ 12 := by have := h1.2.1.cn.1.2; omega
      have oR := seen34 (g := g) (d := d) (u := (pl k).toNatClampNeg) (X := u3 b 31 0 (pl k).toNatClampNeg (b 31 0 (pl k).toNatClampNeg + 1)) m (by omega)
      have oC := seen34 (g := g) (d := d) (u := (pl k).toNatClampNeg) (X := u3 a 31 0 (pl k).toNatClampNeg (b 31 0 (pl k).toNatClampNeg + 1)) 12 (by decide)
      refine ⟨s2, fun q hq => ?_, ?_, ?_, ?_⟩
      · refine (oC 18 0 q).trans ?_
        rw [if_neg (fun w => by cases w.1), u3_o (by decide)]
        exact h2 q hq
      · refine (congrArg Int32.toNatClampNeg (oR 35 0 0)).trans ?_
        rw [if_neg (fun w => by cases w.1), u3_o (by decide)]
        exact h3
      · refine (congrArg Int32.toNatClampNeg (oR 38 0 0)).trans ?_
        rw [if_neg (fun w => by cases w.1), u3_o (by decide)]
        exact h4
      · refine (oR 61 0 6).trans ?_
        rw [if_neg (fun w => by cases w.1), u3_o (by decide)]
        exact h5
def kHold (c : ab_C) (x g : Int32) : Int32 × Int32 × ab_C := if cHas c x = true then (if cCompany c x g = true then (if cAllLive c x g = true then (if c 8 0 x.toNatClampNeg < 3 * bc g then (3, 0, c) else (0, cNow c x g 40 0 6, cHold c (cNow c x g) x g)) else (3, 0, c)) else (2, 0, c)) else (1, 0, c)
theorem o_hold {m : ab_M} {x g : Int32} (h1 : CI m) (h2 : CV (mi m)) : SP_X6_hold [vA 61 0, vI x, vI g] m = kout cd3 (kHold (mi m) x g) m := by
  rw [e_X6_hold h1 h2]
  simp only [kHold, kout_i, kout_0, kout_e t10, kout_e t20, kout_e t30, cd3_1, cd3_2, cd3_3]
theorem hold_ST {n : Nat} {c r : ab_C} {x g : Int32} (h : ST n c r) (hn : n ≤ 600) (hx : inb x (np r)) (hg : Sub g (np r)) : ST n (cHold c (cNow c x g) x g) (rHoldX r x g) := by
  have hb := now_ST (x := x) (g := g) h
  obtain ⟨n1, n2⟩ := cNow_eq (g := g) (h := x) h.1 h.2.1 hn
  have hxl := (inb_eq hx).2
  have hu12 := h.2.1.cn.2.2.2.2
  have hpl := rBest_in (c := r) (h := x) (g := g) hu12 4 (Nat.le_refl _) (fun _ => 0) (fun q hq => by omega)
  obtain ⟨D, hD, e61⟩ := day_lt h.2.1 hn
  unfold cHold rHoldX rHold2
  rw [n2]
  have s0 : ST n (cHold1 c (cNow c x g) x g) (rHold1 r x g) := by
    unfold cHold1 rHold1
    rw [rI_s hb 8 _ rfl, rI_s hb 10 _ rfl, hb.1.d10]
    have s1 := ST_8 (v := r 8 0 x.toNatClampNeg - 3 * bc g) hb hxl
    have s2 := ST_u (s := 10) (i := x.toNatClampNeg) (v := r 10 0 x.toNatClampNeg + 1) s1 rfl (by decide) (by decide) (RG_u3 s1.2.1.rg rfl) (rg_p (by decide) (by decide) hxl) (by omega) (by omega)
    exact ST_61 s2 (by decide)
  have eH : ∀ s i k, s ≠ 8 → s ≠ 10 → ¬ (s = 61 ∧ k = 10) → rHold1 r x g s i k = r s i k := fun s i k a b d => rHold1_at a b (by
    by_cases z : s = 61
    · exact Or.inr (fun w => d ⟨z, w⟩)
    · exact Or.inl z)
  have m1 : np (rHold1 r x g) = np r := congrArg Int32.toNatClampNeg (eH 35 0 0 (by decide) (by decide) (by decide))
  have m4 : nu (rHold1 r x g) = nu r := congrArg Int32.toNatClampNeg (eH 38 0 0 (by decide) (by decide) (by decide))
  have e18 : ∀ q, q < 4 → cHold1 c (cNow c x g) x g 18 0 q = (rBest r x g 4 (fun _ => 0)).2 q := fun q hq => by
    unfold cHold1
    rw [u3_o (by decide), u3_o (by decide), u3_o (by decide)]
    exact n1 q hq
  obtain ⟨s1, -, k1, -, -⟩ := shows_ST (g := g) (d := r 61 0 6) (pl := rPl r x g) (m := np r) s0 m1 hg (by rw [e61]; exact nN_neg (by omega)) (fun q hq => by
    unfold okU
    rw [m4]
    exact hpl q hq) e18 (eH 61 0 6 (by decide) (by decide) (by decide)) 4 (Nat.le_refl _)
  generalize fo (fShowB g) (cHold1 c (cNow c x g) x g) 4 = A at *
  generalize fo (fRsh (rPl r x g) g (r 61 0 6) (np r)) (rHold1 r x g) 4 = B at *
  unfold cGifts
  rw [due_eq, s1.1.gnp, k1]
  have := (gift_ST (g := g) (due := rDue (rWorthP r x g)) s1 (by rw [k1]; exact hx) (np r) (by omega)).1
  exact this
theorem g_hold {n : Nat} {c r : ab_C} (h : ST n c r) (hn : n ≤ 600) (x g : Int32) : AG (n + 1) (kHold c x g) (rHold r x g) :=
  AG_b (h.1.has h.2.1 x) (fun e => AG_n (comp_iff h) (fun e2 => AG_n (live_iff h (has_in h.2.1 e)) (fun _ => AG_p (by rw [rI_s h 8 _ rfl]) (fun _ => AG_no h t30) (fun _ => AG_do (cNow_eq h.1 h.2.1 hn).2 (hold_ST h hn (has_in h.2.1 e) (company_sub h.1 h.2.1 ((comp_iff h).mpr e2))))) (fun _ => AG_no h t30)) (fun _ => AG_no h t20)) (AG_no h t10)

