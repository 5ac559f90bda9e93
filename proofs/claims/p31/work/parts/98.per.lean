/-! a person more -/
theorem INV_P {n : Nat} {r R : ab_C} {t h s : Int32} {H : Nat} (hI : INV n r) (hlt : np r < 12) (e : ∀ a i q, (a < 3 ∨ 13 < a) → a ≠ 15 → a ≠ 17 → a ≠ 35 → a ≠ 36 → R a i q = r a i q) (ep : ∀ a q, 5 ≤ a → a ≤ 13 → q ≠ np r → R a 0 q = r a 0 q)
    (v5 : R 5 0 (np r) = t) (ht : t = -1 ∨ inb t (np r)) (v9 : R 9 0 (np r) = h) (hh : inb h H) (v7 : R 7 0 (np r) = s) (hs : inb s 10) (v13 : R 13 0 (np r) = 1) (v12 : R 12 0 (np r) = 0) (v35 : R 35 0 0 = nN (np r + 1))
    (v36 : R 36 0 0 = nN H) (hH : nh r ≤ H) (hH4 : H ≤ 4) (v3 : ∀ i, i < H → (R 3 0 i = -1 ∨ inb (R 3 0 i) (np r + 1)) ∧ (R 4 0 i = -1 ∨ inb (R 4 0 i) (np r + 1))) (v3z : ∀ i, H ≤ i → R 3 0 i = 0 ∧ R 4 0 i = 0) : INV n R := by
  have n1 : np R = np r + 1 := by
    show (R 35 0 0).toNatClampNeg = _
    rw [v35, nN_nat (by omega)]
  have n2 : nh R = H := by
    show (R 36 0 0).toNatClampNeg = _
    rw [v36, nN_nat (by omega)]
  have n3 : nsc R = nsc r := congrArg Int32.toNatClampNeg (e 37 0 0 (by decide) (by decide) (by decide) (by decide) (by decide))
  have n4 : nu R = nu r := congrArg Int32.toNatClampNeg (e 38 0 0 (by decide) (by decide) (by decide) (by decide) (by decide))
  obtain ⟨z1, z2, z3, z4⟩ := hI.z0
  obtain ⟨⟨r1, r2, r3, r4, r5, r6⟩, hA, hQ⟩ := hI.rg
  obtain ⟨c1, c2, c3, c4⟩ := hI.cn
  have f5 : ∀ i, i < np R → R 5 0 i = -1 ∨ inb (R 5 0 i) (np R) := fun i hi => by
    rw [n1] at hi ⊢
    by_cases w : i = np r
    · subst w; rw [v5]; exact ht.imp_right (fun z => inb_up z (by omega))
    · rw [ep 5 i (by decide) (by decide) w]; exact (r1 i (by omega)).imp_right (fun z => inb_up z (by omega))
  refine ⟨⟨⟨?_, ?_, ?_, ?_⟩, ⟨⟨f5, fun i hi => ?_, fun i hi => ?_, fun i hi => ?_, fun i hi => ?_, fun i hi => ?_⟩, ?_, ?_⟩, ⟨fun t j a b d => ?_, fun t j a b d => ?_, fun t j a b d => ?_, fun t j a b d => ?_⟩, ⟨fun p q hp hq => ?_, fun p q hq => ?_⟩⟩, fun t ht j => ?_, ?_, ?_, fun j => ?_⟩
  · rw [n1, v35]; exact ⟨rfl, by omega⟩
  · rw [n2, v36]; exact ⟨rfl, hH4⟩
  · rw [n3, e 37 _ _ (by decide) (by decide) (by decide) (by decide) (by decide)]; exact c3
  · rw [n4, e 38 _ _ (by decide) (by decide) (by decide) (by decide) (by decide)]; exact c4
  · rw [n1] at hi; rw [n2]
    by_cases w : i = np r
    · subst w; rw [v9]; exact hh
    · rw [ep 9 i (by decide) (by decide) w]; exact inb_up (r2 i (by omega)) hH
  · rw [n3] at hi; rw [n3, e 23 _ _ (by decide) (by decide) (by decide) (by decide) (by decide)]; exact r3 i hi
  · rw [n2] at hi; rw [n1]; exact v3 i hi
  · rw [n4] at hi; rw [n1, e 30 _ _ (by decide) (by decide) (by decide) (by decide) (by decide)]; exact inb_up (r5 i hi) (by omega)
  · rw [n1] at hi
    by_cases w : i = np r
    · subst w; rw [v7]; exact hs
    · rw [ep 7 i (by decide) (by decide) w]; exact r6 i (by omega)
  · obtain ⟨rk, hrk⟩ := hA
    refine AC_of (by rw [n1]; omega) f5 (fun i => if i = np r then 100 else rk i) (fun i hi hne => ?_)
    rw [n1] at hi
    by_cases w : i = np r
    · subst w
      rw [v5] at hne ⊢
      have := (inb_eq (ht.resolve_left hne)).2
      show (if t.toNatClampNeg = np r then 100 else rk t.toNatClampNeg) < if np r = np r then 100 else rk (np r)
      rw [if_pos rfl, if_neg (by omega)]
      have := (hrk _ this).1
      omega
    · rw [ep 5 i (by decide) (by decide) w] at hne ⊢
      have hin := (inb_eq ((r1 i (by omega)).resolve_left hne)).2
      show (if (r 5 0 i).toNatClampNeg = np r then 100 else rk (r 5 0 i).toNatClampNeg) < if i = np r then 100 else rk i
      rw [if_neg w, if_neg (by omega)]
      exact (hrk i (by omega)).2 hne
  · obtain ⟨rk, hrk⟩ := hQ
    refine ⟨rk, fun i hi => ?_⟩
    rw [n3] at hi
    rw [e 23 _ _ (by decide) (by decide) (by decide) (by decide) (by decide)]
    exact hrk i hi
  · rw [n1] at d; rw [ep t j a b (by omega)]; exact z1 t j a b (by omega)
  · rw [n2] at d
    have : t = 3 ∨ t = 4 := by omega
    rcases this with w | w
    · subst w; exact (v3z j d).1
    · subst w; exact (v3z j d).2
  · rw [n3] at d; rw [e t _ _ (by omega) (by omega) (by omega) (by omega) (by omega)]; exact z3 t j a b d
  · rw [n4] at d; rw [e t _ _ (by omega) (by omega) (by omega) (by omega) (by omega)]; exact z4 t j a b d
  · have hf := hI.fo
    have hz : ∀ q, bt (r 12 0 q) (np r) = false := fun q => hf.2 q (np r) (Nat.le_refl _)
    by_cases w : p = np r
    · rw [w, v12, b_0]
      by_cases w2 : q = np r
      · rw [w2, v12, b_0]
      · rw [ep 12 q (by decide) (by decide) w2, hz]
    · rw [ep 12 p (by decide) (by decide) w]
      by_cases w2 : q = np r
      · rw [w2, v12, b_0, hz]
      · rw [ep 12 q (by decide) (by decide) w2]; exact hf.1 p q hp hq
  · rw [n1] at hq
    by_cases w : p = np r
    · rw [w, v12, b_0]
    · rw [ep 12 p (by decide) (by decide) w]; exact hI.fo.2 p q (by omega)
  · by_cases w : t = 13
    · subst w
      by_cases w2 : j = np r
      · subst w2; exact Or.inr v13
      · rw [ep 13 j (by decide) (by decide) w2]; exact hI.b01 13 ht j
    · rw [e t _ _ (by omega) (by omega) (by omega) (by omega) (by omega)]; exact hI.b01 t ht j
  · rw [n1]; intro w; omega
  · unfold DY
    rw [e 61 _ _ (by decide) (by decide) (by decide) (by decide) (by decide)]
    exact hI.dy
  · rw [e 29 _ _ (by decide) (by decide) (by decide) (by decide) (by decide)]; exact hI.rk j
def perX (c : ab_C) (t k h s : Int32) (m : Nat) : ab_C := u3 (u3 (u3 (u3 (u3 (u3 (u3 c 5 0 m t) 6 0 m k) 9 0 m h) 7 0 m s) 8 0 m 60) 13 0 m 1) 35 0 0 (nN (m + 1))
theorem perX_e {c : ab_C} {t k h s : Int32} {m a i q : Nat} (h1 : a < 5 ∨ 13 < a) (h2 : a ≠ 35) : perX c t k h s m a i q = c a i q := by
  unfold perX
  rw [u3_o h2, u3_o (by omega), u3_o (by omega), u3_o (by omega), u3_o (by omega), u3_o (by omega), u3_o (by omega)]
theorem perX_j {c : ab_C} {t k h s : Int32} {m a q : Nat} (h2 : a ≠ 35) (hq : q ≠ m) : perX c t k h s m a 0 q = c a 0 q := by
  have e : ∀ (C : ab_C) (x : Nat) (w : Int32), u3 C x 0 m w a 0 q = C a 0 q := fun C x w => if_neg (fun y => hq y.2.2)
  unfold perX
  rw [u3_o h2, e, e, e, e, e, e]
theorem perX_5 {c : ab_C} {t k h s : Int32} {m : Nat} : perX c t k h s m 5 0 m = t ∧ perX c t k h s m 9 0 m = h ∧ perX c t k h s m 7 0 m = s ∧ perX c t k h s m 13 0 m = 1 ∧ perX c t k h s m 12 0 m = c 12 0 m := by
  unfold perX
  refine ⟨?_, ?_, ?_, ?_, ?_⟩
  · rw [u3_o (by decide), u3_o (by decide), u3_o (by decide), u3_o (by decide), u3_o (by decide), u3_o (by decide)]; exact u3_in
  · rw [u3_o (by decide), u3_o (by decide), u3_o (by decide), u3_o (by decide)]; exact u3_in
  · rw [u3_o (by decide), u3_o (by decide), u3_o (by decide)]; exact u3_in
  · rw [u3_o (by decide)]; exact u3_in
  · rw [u3_o (by decide), u3_o (by decide), u3_o (by decide), u3_o (by decide), u3_o (by decide), u3_o (by decide), u3_o (by decide)]
theorem fPA_at {m : Nat} {X : ab_C} : ∀ n a i q, fo (fPAdd m) X n a i q = if (a = 15 ∨ a = 17) ∧ i = m ∧ q < n then -1 else X a i q := by
  intro n
  induction n with
  | zero => intro a i q; rw [if_neg (by omega)]; rfl
  | succ n ih =>
    intro a i q
    show u3 (u3 (fo (fPAdd m) X n) 15 m n (-1)) 17 m n (-1) a i q = _
    rw [u3_ap, u3_ap, ih]
    by_cases e : (a = 15 ∨ a = 17) ∧ i = m ∧ q < n + 1
    · rw [if_pos e]
      by_cases w : a = 17 ∧ i = m ∧ q = n
      · rw [if_pos w]
      · rw [if_neg w]
        by_cases w2 : a = 15 ∧ i = m ∧ q = n
        · rw [if_pos w2]
        · rw [if_neg w2, if_pos (by omega)]
    · rw [if_neg e, if_neg (by omega), if_neg (by omega), if_neg (by omega)]
/-- with another row of givers -/
def putG (c : ab_C) (m : Nat) (v : Int32) : ab_C := fun a i q => if (a = 15 ∨ a = 17) ∧ i = m ∧ q < 10 then v else c a i q
theorem putG_o {c : ab_C} {m a i q : Nat} {v : Int32} (h1 : a ≠ 15) (h2 : a ≠ 17) : putG c m v a i q = c a i q := if_neg (fun z => by omega)
theorem per_c {c : ab_C} {t k h s : Int32} (h35 : c 35 0 0 = nN (np c)) : cPAdd c t k h s = putG (perX c t k h s (np c)) (np c) (-1) := by
  unfold cPAdd cPAdd1
  have eF : ∀ X : ab_C, fo (fPAdd (np c)) X 10 = putG X (np c) (-1) := fun X => by
    funext a i z
    exact fPA_at 10 a i z
  rw [eF]
  have e35 : putG (cPAdd0 c t k h s) (np c) (-1) 35 0 0 + 1 = nN (np c + 1) := by
    have : putG (cPAdd0 c t k h s) (np c) (-1) 35 0 0 = c 35 0 0 := by
      rw [putG_o (by decide) (by decide)]
      unfold cPAdd0
      rw [u3_o (by decide), u3_o (by decide), u3_o (by decide), u3_o (by decide), u3_o (by decide), u3_o (by decide)]
    rw [this, h35, nN_succ]
  rw [e35]
  funext a b q
  rw [u3_ap]
  unfold putG perX
  rw [u3_ap]
  by_cases e : a = 35 ∧ b = 0 ∧ q = 0
  · rw [if_pos e, if_pos e, if_neg (by omega)]
  · rw [if_neg e, if_neg e]
    rfl
theorem per_r {r : ab_C} {t k h : Int32} {n : Nat} (hI : INV n r) : ∀ a i q, a ≠ 15 → a ≠ 17 → rPerX r t k h a i q = perX r t k h 0 (np r) a i q := by
  intro a i q h15 h17
  have hz := hI.z0.1
  have e48 : zr r 48 (np r) = r := zr_id (fun a i z b d he hb => by
    match d, he with
    | 0, he => cases he; exact hz 5 _ (by decide) (by decide) (by omega)
    | 1, he => cases he; exact hz 6 _ (by decide) (by decide) (by omega)
    | 2, he => cases he; exact hz 7 _ (by decide) (by decide) (by omega)
    | 3, he => cases he; exact hz 8 _ (by decide) (by decide) (by omega)
    | 4, he => cases he; exact hz 13 _ (by decide) (by decide) (by omega)
    | 5, he => cases he; exact hz 9 _ (by decide) (by decide) (by omega)
    | 6, he => cases he; exact hz 11 _ (by decide) (by decide) (by omega)
    | 7, he => cases he; exact hz 10 _ (by decide) (by decide) (by omega)
    | 8, he => cases he; exact hz 12 _ (by decide) (by decide) (by omega)
    | d + 9, he => cases he)
  have hzr : ∀ (X : ab_C) S, (S = 41 ∨ S = 42) → zr X S (np r) a i q = X a i q := fun X S hS => by
    unfold zr
    cases h9 : lc a i q with
    | none => rfl
    | some x =>
      refine if_neg (fun y => ?_)
      have := lc_lci h9
      rw [y.1] at this
      rcases hS with rfl | rfl
      · have e : (15, x.2.1, x.2.2) = (a, i, q) := Option.some.inj this
        exact h15 (congrArg Prod.fst e).symm
      · have e : (17, x.2.1, x.2.2) = (a, i, q) := Option.some.inj this
        exact h17 (congrArg Prod.fst e).symm
  have hc : ∀ (X Y : ab_C) (s' i' k' : Nat) (v' : Int32), X a i q = Y a i q → u3 X s' i' k' v' a i q = u3 Y s' i' k' v' a i q := fun X Y s' i' k' v' hXY => by
    rw [u3_ap, u3_ap, hXY]
  have e1 : rPerX r t k h a i q = u3 (u3 (u3 (u3 (u3 (u3 r 8 0 (np r) 60) 13 0 (np r) 1) 5 0 (np r) t) 6 0 (np r) k) 9 0 (np r) h) 35 0 0 (nN (np r + 1)) a i q := by
    unfold rPerX rPer0
    rw [e48]
    exact hc _ _ 35 0 0 _ (hc _ _ 9 0 _ _ (hc _ _ 6 0 _ _ (hc _ _ 5 0 _ _ ((hzr _ 42 (Or.inr rfl)).trans (hzr _ 41 (Or.inl rfl))))))
  rw [e1]
  unfold perX
  rw [u3_comm (s := 13) (t := 5) (by decide), u3_comm (s := 8) (t := 5) (by decide), u3_comm (s := 13) (t := 6) (by decide), u3_comm (s := 8) (t := 6) (by decide), u3_comm (s := 13) (t := 9) (by decide), u3_comm (s := 8) (t := 9) (by decide)]
  have e7 : u3 (u3 (u3 (u3 r 5 0 (np r) t) 6 0 (np r) k) 9 0 (np r) h) 7 0 (np r) 0 = u3 (u3 (u3 r 5 0 (np r) t) 6 0 (np r) k) 9 0 (np r) h := u3_self (by
    rw [u3_o (by decide), u3_o (by decide), u3_o (by decide)]
    exact hz 7 _ (by decide) (by decide) (Nat.le_refl _))
  rw [e7]

