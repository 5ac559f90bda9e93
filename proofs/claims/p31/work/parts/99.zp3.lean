/-! p31: a step given -/
theorem nN_div {a b : Nat} (ha : a < 2147483648) (hb : b < 2147483648) : nN a / nN b = nN (a / b) := by
  have h := Nat.div_le_self a b
  apply Int32.toInt_inj.mp
  rw [Int32.toInt_div, nN_toInt ha, nN_toInt hb, nN_toInt (by omega)]
  have e : Int.tdiv (a : Int) (b : Int) = ((a / b : Nat) : Int) := rfl
  rw [e]
  clear e
  generalize a / b = z at *
  exact fb_bmod (by omega) (by omega)
theorem half_nN {l : Nat} (hl : l < 1000) : (nN l + 1) / 2 = nN ((l + 1) / 2) := by
  rw [nN_succ, show (2 : Int32) = nN 2 from rfl, nN_div (by omega) (by decide)]
theorem pay_J {N : Nat} {c : ab_C} {rk : Nat → Nat} (hr : ∀ i, i < N → c 5 0 i = -1 ∨ inb (c 5 0 i) N) (hrk : ∀ i, i < N → ¬ c 5 0 i = -1 → rk (c 5 0 i).toNatClampNeg < rk i) (hN : N ≤ 12) : ∀ k g l (b : ab_C) (w : Nat → Nat), (∀ i, i < N → b 8 0 i = nN (w i)) → g < N → rk g < k → l < 1000 →
    ∃ (w' : Nat → Nat) (x : Nat), (∀ i, i < N → rPay c k (nN g) (nN l) b 8 0 i = nN (w' i)) ∧ rPay c k (nN g) (nN l) b 61 0 9 = b 61 0 9 + nN x ∧ sS w' N + x = sS w N + l := by
  intro k
  induction k with
  | zero => intro g l b w _ _ hk; omega
  | succ k ih =>
    intro g l b w hw hg hk hl
    have eg : (nN g).toNatClampNeg = g := nN_nat (by omega)
    have hend : ∀ (q : Nat) (x : Int32) (a : ab_C), rPay c q (-1) x a = a := fun q x a => by cases q <;> rfl
    have e0 : rPay c (k + 1) (nN g) (nN l) b = if nN g = -1 then b else if c 13 0 (nN g).toNatClampNeg = 0 then (if c 5 0 (nN g).toNatClampNeg = -1 then rPay c k (c 5 0 (nN g).toNatClampNeg) (nN l) (u3 b 61 0 9 (b 61 0 9 + nN l)) else rPay c k (c 5 0 (nN g).toNatClampNeg) (nN l) b) else rPay c k (c 5 0 (nN g).toNatClampNeg) (nN l - (if c 5 0 (nN g).toNatClampNeg = -1 then nN l else (nN l + 1) / 2)) (u3 b 8 0 (nN g).toNatClampNeg (b 8 0 (nN g).toNatClampNeg + (if c 5 0 (nN g).toNatClampNeg = -1 then nN l else (nN l + 1) / 2))) := rfl
    rw [e0, if_neg (nNm1 (by omega)), eg]
    have hup : ∀ z : Nat, ∀ i, i < N → u3 b 8 0 g (b 8 0 g + nN z) 8 0 i = nN (updN w g (w g + z) i) := fun z i hi => by
      rw [u3_2]
      unfold updN
      split
      · rw [hw g hg, nN_add]
      · exact hw i hi
    have hsu : ∀ z : Nat, sS (updN w g (w g + z)) N = sS w N + z := fun z => by
      have := sS_upd (w := w) (p := g) (x := w g + z) N
      rw [if_pos hg, if_pos hg] at this
      omega
    by_cases e1 : c 13 0 g = 0
    · rw [if_pos e1]
      by_cases e2 : c 5 0 g = -1
      · rw [if_pos e2, e2, hend]
        exact ⟨w, l, fun i hi => (u3_o (by decide)).trans (hw i hi), u3_in, rfl⟩
      · rw [if_neg e2]
        obtain ⟨x1, x2⟩ := inb_eq ((hr g hg).resolve_left e2)
        have hlt := hrk g hg e2
        generalize (c 5 0 g).toNatClampNeg = t at *
        rw [x1]
        exact ih t l b w hw x2 (by omega) hl
    · rw [if_neg e1]
      by_cases e2 : c 5 0 g = -1
      · rw [if_pos e2, e2, hend]
        refine ⟨updN w g (w g + l), 0, hup l, ?_, by rw [hsu]; rfl⟩
        rw [u3_o (by decide)]
        exact (Int32.add_zero _).symm
      · rw [if_neg e2]
        obtain ⟨x1, x2⟩ := inb_eq ((hr g hg).resolve_left e2)
        have hlt := hrk g hg e2
        generalize (c 5 0 g).toNatClampNeg = t at *
        rw [x1, half_nN hl, nN_sub (by omega)]
        obtain ⟨w', x, y1, y2, y3⟩ := ih t (l - (l + 1) / 2) (u3 b 8 0 g (b 8 0 g + nN ((l + 1) / 2))) (updN w g (w g + (l + 1) / 2)) (hup _) x2 (by omega) (by omega)
        refine ⟨w', x, y1, y2.trans (congrArg (fun z => z + nN x) (u3_o (by decide))), ?_⟩
        rw [hsu] at y3
        omega
theorem give_J {N n p : Nat} {r : ab_C} (hN : 1 ≤ N) (hJ : JJ N n r) (hI : INV n r) (hn : n ≤ 600) (hp : p < N) (h7 : r 7 0 p < 9) (h5 : ¬ r 5 0 p = -1) (hT : ¬ r 7 0 (r 5 0 p).toNatClampNeg < r 7 0 p + 1) (hc : ¬ r 8 0 p < 5 * (r 7 0 p + 1)) :
    JJ N n (rGiveX r (nN p) (r 7 0 p + 1) (r 5 0 p)) ∧ (∃ x, rGiveX r (nN p) (r 7 0 p + 1) (r 5 0 p) 61 0 9 = r 61 0 9 + nN x ∧ (rCt r).2.1 = (rCt (rGiveX r (nN p) (r 7 0 p + 1) (r 5 0 p))).2.1 + nN x) ∧ (∀ s i q, s ≠ 7 → s ≠ 8 → s ≠ 15 → s ≠ 17 → s ≠ 61 → rGiveX r (nN p) (r 7 0 p + 1) (r 5 0 p) s i q = r s i q) ∧ ∀ q, rGiveX r (nN p) (r 7 0 p + 1) (r 5 0 p) 7 0 q = if q = p then r 7 0 p + 1 else r 7 0 q := by
  have h12 := hI.cn.1.2
  obtain ⟨⟨a1, a2, a3⟩, ⟨b1, b2⟩, c, hd, h4, w, f, g⟩ := id hJ
  obtain ⟨rk, hrk⟩ := hI.rg.2.1
  have hp0 : p ≠ 0 := fun e => by
    rw [e, b1] at h7
    exact absurd h7 (by decide)
  obtain ⟨a, ea, ha⟩ : ∃ a, r 7 0 p = nN a ∧ a < 9 := by
    obtain ⟨x, y⟩ := w0_eq hI (show p < np r by omega)
    refine ⟨_, x, ?_⟩
    rw [x, show (9 : Int32) = nN 9 from rfl, nN_lt (by omega) (by decide)] at h7
    exact h7
  obtain ⟨t1, t2⟩ := inb_eq ((hI.rv.1 p (by omega)).resolve_left h5)
  have trk := (hrk p (by omega)).2 h5
  generalize (r 5 0 p).toNatClampNeg = t at *
  have htp : t ≠ p := fun e => by rw [e] at trk; omega
  have ep : (nN p).toNatClampNeg = p := nN_nat (by omega)
  have es : (nN (a + 1)).toNatClampNeg = a + 1 := nN_nat (by omega)
  rw [t1, ea, nN_succ]
  rw [ea, nN_succ] at hT hc
  have hwp := sS_le (w := w) N hp
  have h5m : (5 : Int32) * nN (a + 1) = nN (5 * (a + 1)) := nN_mul (a := 5)
  have hle : 5 * (a + 1) ≤ w p := by
    rw [h5m, f p hp, nN_lt (by omega) (by omega)] at hc
    omega
  have hv : r 8 0 p - 5 * nN (a + 1) = nN (w p - 5 * (a + 1)) := by rw [h5m, f p hp, nN_sub hle]
  have h8a : ∀ i, i < N → u3 r 8 0 p (nN (w p - 5 * (a + 1))) 8 0 i = nN (updN w p (w p - 5 * (a + 1)) i) := fun i hi => by
    rw [u3_2]
    unfold updN
    split
    · rfl
    · exact f i hi
  have hs1 := sS_upd (w := w) (p := p) (x := w p - 5 * (a + 1)) N
  rw [if_pos hp, if_pos hp] at hs1
  obtain ⟨w', x, y1, y2, y3⟩ := pay_J (N := N) (c := u3 r 8 0 p (nN (w p - 5 * (a + 1)))) (rk := rk) (fun i hi => by rw [u3_o (by decide), ← a1]; exact hI.rv.1 i (by omega)) (fun i hi h => by
    rw [u3_o (by decide)] at h ⊢
    exact (hrk i (by omega)).2 h) (by omega) 12 t (5 * (a + 1)) (u3 r 8 0 p (nN (w p - 5 * (a + 1)))) _ h8a (by omega) (by have := (hrk t t2).1; omega) (by omega)
  have hX : rGiveX r (nN p) (nN (a + 1)) (nN t) = u3 (u3 (u3 (u3 (rPay (u3 r 8 0 p (nN (w p - 5 * (a + 1)))) 12 (nN t) (nN (5 * (a + 1))) (u3 r 8 0 p (nN (w p - 5 * (a + 1))))) 7 0 p (nN (a + 1))) 15 p (a + 1) (nN t)) 17 p (a + 1) (r 61 0 6)) 61 0 7 (r 61 0 7 + 1) := by
    unfold rGiveX
    rw [ep, es, hv, h5m]
  have oP : ∀ s i q, s ≠ 8 → ¬ (s = 61 ∧ q = 9) → rPay (u3 r 8 0 p (nN (w p - 5 * (a + 1)))) 12 (nN t) (nN (5 * (a + 1))) (u3 r 8 0 p (nN (w p - 5 * (a + 1)))) s i q = r s i q := fun s i q z8 z9 => (rPay_at z8 z9 12 _ _ _).trans (u3_o z8)
  rw [hX]
  generalize rPay (u3 r 8 0 p (nN (w p - 5 * (a + 1)))) 12 (nN t) (nN (5 * (a + 1))) (u3 r 8 0 p (nN (w p - 5 * (a + 1)))) = P at *
  have o : ∀ s i q, s ≠ 7 → s ≠ 8 → s ≠ 15 → s ≠ 17 → ¬ (s = 61 ∧ q = 7) → ¬ (s = 61 ∧ q = 9) → u3 (u3 (u3 (u3 P 7 0 p (nN (a + 1))) 15 p (a + 1) (nN t)) 17 p (a + 1) (r 61 0 6)) 61 0 7 (r 61 0 7 + 1) s i q = r s i q := fun s i q z7 z8 z15 z17 z61 z9 => by
    rw [u3_ap, if_neg (fun z => z61 ⟨z.1, z.2.2⟩), u3_o z17, u3_o z15, u3_o z7, oP s i q z8 z9]
  have o7 : ∀ q, u3 (u3 (u3 (u3 P 7 0 p (nN (a + 1))) 15 p (a + 1) (nN t)) 17 p (a + 1) (r 61 0 6)) 61 0 7 (r 61 0 7 + 1) 7 0 q = if q = p then nN (a + 1) else r 7 0 q := fun q => by
    rw [u3_o (by decide), u3_o (by decide), u3_o (by decide), u3_2]
    split
    · rfl
    · exact oP _ _ _ (by decide) (by omega)
  have o15 : ∀ i q, ¬ (i = p ∧ q = a + 1) → u3 (u3 (u3 (u3 P 7 0 p (nN (a + 1))) 15 p (a + 1) (nN t)) 17 p (a + 1) (r 61 0 6)) 61 0 7 (r 61 0 7 + 1) 15 i q = r 15 i q ∧ u3 (u3 (u3 (u3 P 7 0 p (nN (a + 1))) 15 p (a + 1) (nN t)) 17 p (a + 1) (r 61 0 6)) 61 0 7 (r 61 0 7 + 1) 17 i q = r 17 i q := fun i q z => by
    refine ⟨?_, ?_⟩
    · rw [u3_o (by decide), u3_o (by decide), u3_ap, if_neg (fun y => z y.2), u3_o (by decide), oP _ _ _ (by decide) (by omega)]
    · rw [u3_o (by decide), u3_ap, if_neg (fun y => z y.2), u3_o (by decide), u3_o (by decide), oP _ _ _ (by decide) (by omega)]
  have o15p : u3 (u3 (u3 (u3 P 7 0 p (nN (a + 1))) 15 p (a + 1) (nN t)) 17 p (a + 1) (r 61 0 6)) 61 0 7 (r 61 0 7 + 1) 15 p (a + 1) = nN t ∧ u3 (u3 (u3 (u3 P 7 0 p (nN (a + 1))) 15 p (a + 1) (nN t)) 17 p (a + 1) (r 61 0 6)) 61 0 7 (r 61 0 7 + 1) 17 p (a + 1) = r 61 0 6 := by
    refine ⟨?_, ?_⟩
    · rw [u3_o (by decide), u3_o (by decide), u3_in]
    · rw [u3_o (by decide), u3_in]
  have o8 : ∀ i, i < N → u3 (u3 (u3 (u3 P 7 0 p (nN (a + 1))) 15 p (a + 1) (nN t)) 17 p (a + 1) (r 61 0 6)) 61 0 7 (r 61 0 7 + 1) 8 0 i = nN (w' i) := fun i hi => by
    rw [u3_o (by decide), u3_o (by decide), u3_o (by decide), u3_o (by decide)]
    exact y1 i hi
  have o9 : u3 (u3 (u3 (u3 P 7 0 p (nN (a + 1))) 15 p (a + 1) (nN t)) 17 p (a + 1) (r 61 0 6)) 61 0 7 (r 61 0 7 + 1) 61 0 9 = r 61 0 9 + nN x := by
    rw [u3_ap, if_neg (by omega), u3_o (by decide), u3_o (by decide), u3_o (by decide), y2, u3_o (by decide)]
  generalize u3 (u3 (u3 (u3 P 7 0 p (nN (a + 1))) 15 p (a + 1) (nN t)) 17 p (a + 1) (r 61 0 6)) 61 0 7 (r 61 0 7 + 1) = R at *
  clear hX
  have n1 : np R = N := (congrArg Int32.toNatClampNeg (o 35 0 0 (by decide) (by decide) (by decide) (by decide) (by omega) (by omega))).trans a1
  have hday : dayN R = dayN r := congrArg Int32.toNatClampNeg (o 61 0 6 (by decide) (by decide) (by decide) (by decide) (by omega) (by omega))
  have hdy : r 61 0 6 = nN (dayN r) := by
    obtain ⟨D, hD, e⟩ := hI.dy
    unfold dayN
    rw [e, nN_nat (by omega)]
  refine ⟨⟨⟨n1, (congrArg Int32.toNatClampNeg (o 36 0 0 (by decide) (by decide) (by decide) (by decide) (by omega) (by omega))).trans a2, (congrArg Int32.toNatClampNeg (o 37 0 0 (by decide) (by decide) (by decide) (by decide) (by omega) (by omega))).trans a3⟩, ⟨by rw [o7, if_neg (fun e => hp0 e.symm)]; exact b1, fun s z1 z2 => (o15 0 s (by omega)).1.trans (b2 s z1 z2)⟩, ?_, HD_cg hd (o 3 0 0 (by decide) (by decide) (by decide) (by decide) (by omega) (by omega)) (fun i _ => o 13 0 i (by decide) (by decide) (by decide) (by decide) (by omega) (by omega)), (o 4 0 0 (by decide) (by decide) (by decide) (by decide) (by omega) (by omega)).trans h4, ⟨w', o8, by omega⟩⟩, ⟨x, o9, ?_⟩, fun s i q z7 z8 z15 z17 z61 => o s i q z7 z8 z15 z17 (fun z => z61 z.1) (fun z => z61 z.1), o7⟩
  · intro k s k1 k2 s1 s2 hs
    have keep : ∀ q, q < N → ¬ r 7 0 q < nN s → ¬ R 7 0 q < nN s := fun q hq hh => by
      rw [o7]
      split
      · next e =>
        rw [e, ea, nN_lt (by omega) (by omega)] at hh
        rw [nN_lt (by omega) (by omega)]
        omega
      · exact hh
    by_cases e : k = p ∧ s = a + 1
    · obtain ⟨rfl, rfl⟩ := e
      refine ⟨t, dayN r, ⟨by omega, htp⟩, o15p.1, ?_, o15p.2.trans hdy, by rw [hday]; exact Nat.le_refl _⟩
      rw [o7, if_neg htp]
      exact hT
    · have hs' : ¬ r 7 0 k < nN s := by
        rw [o7] at hs
        by_cases e2 : k = p
        · rw [if_pos e2, nN_lt (by omega) (by omega)] at hs
          rw [e2, ea, nN_lt (by omega) (by omega)]
          have : s ≠ a + 1 := fun e3 => e ⟨e2, e3⟩
          omega
        · rw [if_neg e2] at hs
          exact hs
      obtain ⟨q, d, ⟨q1, q2⟩, q3, q4, q5, q6⟩ := c k s k1 k2 s1 s2 hs'
      exact ⟨q, d, ⟨q1, q2⟩, (o15 k s e).1.trans q3, keep q q1 q4, (o15 k s e).2.trans q5, by rw [hday]; exact q6⟩
  · rw [CO.sum (B := 0) n1 o8, CO.sum (B := 0) a1 f, nN_add]
    exact congrArg nN (by omega)
theorem give_all {N n p : Nat} {r : ab_C} (hN : 1 ≤ N) (hJ : JJ N n r) (hI : INV n r) (hn : n ≤ 600) (hp : p < N) (hl : ¬ r 13 0 p = 0) (h7 : ¬ r 7 0 p = 9) (h5 : ¬ r 5 0 p = -1) :
    (rGive r (nN p)).1 = 0 ∧ JJ N n (rGive r (nN p)).2.2 ∧ (∃ x, (rGive r (nN p)).2.2 61 0 9 = r 61 0 9 + nN x ∧ (rCt r).2.1 = (rCt (rGive r (nN p)).2.2).2.1 + nN x) ∧ (∀ s i q, s ≠ 7 → s ≠ 8 → s ≠ 15 → s ≠ 17 → s ≠ 61 → (rGive r (nN p)).2.2 s i q = r s i q) ∧ ∀ q, (rGive r (nN p)).2.2 7 0 q = r 7 0 q ∨ (q = p ∧ (rGive r (nN p)).2.2 7 0 q = r 7 0 p + 1) := by
  have h12 := hI.cn.1.2
  have a1 := hJ.1.1
  have ep : (nN p).toNatClampNeg = p := nN_nat (by omega)
  have hh : rHas r (nN p) = true := by
    unfold rHas
    rw [hI.cn.1.1]
    exact (rng_in0 (n := np r) (by omega)).mpr (by rw [inb_nN (by omega)]; omega)
  have triv : ∀ v : Int32, ((0 : Int32), v, r).1 = 0 ∧ JJ N n ((0 : Int32), v, r).2.2 ∧ (∃ x, ((0 : Int32), v, r).2.2 61 0 9 = r 61 0 9 + nN x ∧ (rCt r).2.1 = (rCt ((0 : Int32), v, r).2.2).2.1 + nN x) ∧ (∀ s i q, s ≠ 7 → s ≠ 8 → s ≠ 15 → s ≠ 17 → s ≠ 61 → ((0 : Int32), v, r).2.2 s i q = r s i q) ∧ ∀ q, ((0 : Int32), v, r).2.2 7 0 q = r 7 0 q ∨ (q = p ∧ ((0 : Int32), v, r).2.2 7 0 q = r 7 0 p + 1) :=
    fun v => ⟨rfl, hJ, ⟨0, (Int32.add_zero _).symm, (Int32.add_zero _).symm⟩, fun _ _ _ _ _ _ _ _ => rfl, fun _ => Or.inl rfl⟩
  unfold rGive
  rw [ep, if_neg (by rw [hh]; decide), if_neg hl, if_neg h7, if_neg h5]
  split
  · exact triv _
  · split
    · exact triv _
    · next hT =>
      split
      · exact triv _
      · split
        · exact triv _
        · next hc =>
          have h7' : r 7 0 p < 9 := by
            obtain ⟨x, y⟩ := w0_eq hI (show p < np r by omega)
            rw [x] at h7 ⊢
            rw [show (9 : Int32) = nN 9 from rfl, nN_inj (by omega) (by decide)] at h7
            rw [show (9 : Int32) = nN 9 from rfl, nN_lt (by omega) (by decide)]
            omega
          obtain ⟨g1, g2, g3, g4⟩ := give_J hN hJ hI hn hp h7' h5 hT hc
          refine ⟨rfl, g1, g2, g3, fun q => ?_⟩
          have := g4 q
          by_cases e : q = p
          · rw [if_pos e] at this
            exact Or.inr ⟨e, this⟩
          · rw [if_neg e] at this
            exact Or.inl this
