/-! p31: sums; what the law keeps of the state -/
theorem rSum_eq {r : ab_C} : (rCt r).2.1 = fo (fun i a => a + r 8 0 i) 0 (np r) :=
  (fo_trip (f := fRct r) (g := fun i a => a + r 8 0 i) (k := fun i a => a + bc (r 12 0 i)) (fun _ _ => rfl) (0, 0, 0) (np r)).1
theorem sum_nN {r : ab_C} {w : Nat → Nat} : ∀ n, (∀ i, i < n → r 8 0 i = nN (w i)) → fo (fun i a => a + r 8 0 i) 0 n = nN (sS w n)
  | 0, _ => rfl
  | n + 1, h => by
    show fo (fun i a => a + r 8 0 i) 0 n + r 8 0 n = _
    rw [sum_nN n (fun i hi => h i (by omega)), h n (by omega), nN_add]
    rfl
theorem sS_le {w : Nat → Nat} {i : Nat} : ∀ n, i < n → w i ≤ sS w n
  | 0, h => absurd h (Nat.not_lt_zero _)
  | n + 1, h => by
    rw [sS_s]
    by_cases e : i = n
    · subst e; omega
    · have := sS_le (w := w) n (show i < n by omega)
      omega
theorem sS_congr {w v : Nat → Nat} : ∀ n, (∀ i, i < n → w i = v i) → sS w n = sS v n
  | 0, _ => rfl
  | n + 1, h => by rw [sS_s, sS_s, sS_congr n (fun i hi => h i (by omega)), h n (by omega)]
theorem sS_add {w v : Nat → Nat} : ∀ n, sS (fun i => w i + v i) n = sS w n + sS v n
  | 0 => rfl
  | n + 1 => by
    rw [sS_s, sS_s, sS_s, sS_add n]
    omega
theorem sS_bd {w : Nat → Nat} {B : Nat} : ∀ n, (∀ i, i < n → w i ≤ B) → sS w n ≤ n * B
  | 0, _ => Nat.zero_le _
  | n + 1, h => by
    rw [sS_s, Nat.succ_mul]
    exact Nat.add_le_add (sS_bd n (fun i hi => h i (by omega))) (h n (by omega))
theorem nN_mul {a b : Nat} : nN a * nN b = nN (a * b) := (Int32.ofNat_mul a b).symm
def dayN (r : ab_C) : Nat := (r 61 0 6).toNatClampNeg
/-- each held step: its giver is another one, who holds it, and its day isn't to come -/
def GV (N : Nat) (r : ab_C) : Prop := ∀ k s, 1 ≤ k → k < N → 1 ≤ s → s < 10 → ¬ r 7 0 k < nN s → ∃ g d, (g < N ∧ g ≠ k) ∧ r 15 k s = nN g ∧ ¬ r 7 0 g < nN s ∧ r 17 k s = nN d ∧ d ≤ dayN r
/-- the house's head -/
def HD (N : Nat) (r : ab_C) : Prop := (r 3 0 0 = -1 ∧ ∀ i, i < N → r 13 0 i = 0) ∨ ∃ h, h < N ∧ r 3 0 0 = nN h ∧ ¬ r 13 0 h = 0
def CO (N B : Nat) (r : ab_C) : Prop := ∃ w : Nat → Nat, (∀ i, i < N → r 8 0 i = nN (w i)) ∧ sS w N ≤ B
def FD (r : ab_C) : Prop := r 7 0 0 = 9 ∧ ∀ s, 1 ≤ s → s < 10 → r 15 0 s = -1
def JJ (N n : Nat) (r : ab_C) : Prop := (np r = N ∧ nh r = 1 ∧ nsc r = 0) ∧ FD r ∧ GV N r ∧ HD N r ∧ r 4 0 0 = -1 ∧ CO N (30000 * n) r
theorem GV_cg {N : Nat} {r r' : ab_C} (h : GV N r) (h7 : ∀ i, i < N → r' 7 0 i = r 7 0 i) (h15 : ∀ i s, i < N → 1 ≤ s → s < 10 → r' 15 i s = r 15 i s ∧ r' 17 i s = r 17 i s) (hd : dayN r ≤ dayN r') : GV N r' := by
  intro k s a b c d e
  rw [h7 k b] at e
  obtain ⟨g, x, ⟨g1, g2⟩, g3, g4, g5, g6⟩ := h k s a b c d e
  exact ⟨g, x, ⟨g1, g2⟩, (h15 k s b c d).1.trans g3, by rw [h7 g g1]; exact g4, (h15 k s b c d).2.trans g5, Nat.le_trans g6 hd⟩
theorem HD_cg {N : Nat} {r r' : ab_C} (h : HD N r) (h3 : r' 3 0 0 = r 3 0 0) (h13 : ∀ i, i < N → r' 13 0 i = r 13 0 i) : HD N r' := by
  rcases h with ⟨a, b⟩ | ⟨x, a, b, c⟩
  · exact Or.inl ⟨h3.trans a, fun i hi => (h13 i hi).trans (b i hi)⟩
  · exact Or.inr ⟨x, a, h3.trans b, by rw [h13 x a]; exact c⟩
theorem FD_cg {r r' : ab_C} (h : FD r) (h7 : r' 7 0 0 = r 7 0 0) (h15 : ∀ s, 1 ≤ s → s < 10 → r' 15 0 s = r 15 0 s) : FD r' := ⟨h7.trans h.1, fun s a b => (h15 s a b).trans (h.2 s a b)⟩
/-- all but the coins kept -/
theorem JJ_cg {N n : Nat} {r r' : ab_C} (hN : 1 ≤ N) (h : JJ N n r) (h35 : r' 35 0 0 = r 35 0 0) (h36 : r' 36 0 0 = r 36 0 0) (h37 : r' 37 0 0 = r 37 0 0) (h7 : ∀ i, i < N → r' 7 0 i = r 7 0 i) (h15 : ∀ i s, i < N → 1 ≤ s → s < 10 → r' 15 i s = r 15 i s ∧ r' 17 i s = r 17 i s) (hd : dayN r ≤ dayN r') (h3 : r' 3 0 0 = r 3 0 0) (h4 : r' 4 0 0 = r 4 0 0) (h13 : ∀ i, i < N → r' 13 0 i = r 13 0 i) {n' : Nat} (hc : CO N (30000 * n') r') : JJ N n' r' := by
  obtain ⟨⟨a1, a2, a3⟩, b, c, d, e, -⟩ := h
  exact ⟨⟨(congrArg Int32.toNatClampNeg h35).trans a1, (congrArg Int32.toNatClampNeg h36).trans a2, (congrArg Int32.toNatClampNeg h37).trans a3⟩, FD_cg b (h7 0 hN) (fun s x y => (h15 0 s hN x y).1), GV_cg c h7 h15 hd, HD_cg d h3 h13, h4.trans e, hc⟩
theorem JJ.up {N n n' : Nat} {r : ab_C} (h : JJ N n r) (hn : n ≤ n') : JJ N n' r := by
  obtain ⟨a, b, c, d, e, w, f, g⟩ := h
  exact ⟨a, b, c, d, e, w, f, Nat.le_trans g (Nat.mul_le_mul_left _ hn)⟩
theorem CO.sum {N B : Nat} {r : ab_C} {w : Nat → Nat} (hn : np r = N) (h : ∀ i, i < N → r 8 0 i = nN (w i)) : (rCt r).2.1 = nN (sS w N) := by
  rw [rSum_eq, hn]
  exact sum_nN N h
/-! days go by -/
theorem pass_at {d : Int32} {a0 : ab_C} : ∀ k s i q, fo (fRpass d) a0 k s i q = if s = 8 ∧ i = 0 ∧ q < k ∧ ¬ a0 13 0 q = 0 then a0 8 0 q + d * (1 + 2 * rPupils a0 (nN q)) else a0 s i q := by
  intro k
  induction k with
  | zero => intro s i q; rw [if_neg (by omega)]; rfl
  | succ k ih =>
    intro s i q
    show fRpass d k (fo (fRpass d) a0 k) s i q = _
    have hp : rPupils (fo (fRpass d) a0 k) (nN k) = rPupils a0 (nN k) := rPup_at (congrArg Int32.toNatClampNeg ((ih 35 0 0).trans (if_neg (by omega)))) (fun i => (ih 5 0 i).trans (if_neg (by omega))) (fun i => (ih 13 0 i).trans (if_neg (by omega))) _
    generalize fo (fRpass d) a0 k = A at *
    unfold fRpass
    rw [hp, ih 13 0 k, if_neg (show ¬ (13 = 8 ∧ 0 = 0 ∧ k < k ∧ ¬ a0 13 0 k = 0) by omega)]
    by_cases e : a0 13 0 k = 0
    · rw [if_pos e, ih]
      by_cases e2 : s = 8 ∧ i = 0 ∧ q < k ∧ ¬ a0 13 0 q = 0
      · rw [if_pos e2, if_pos ⟨e2.1, e2.2.1, by omega, e2.2.2.2⟩]
      · rw [if_neg e2, if_neg]
        rintro ⟨z1, z2, z3, z4⟩
        by_cases y : q = k
        · subst y; exact z4 e
        · exact e2 ⟨z1, z2, by omega, z4⟩
    · rw [if_neg e, u3_ap]
      by_cases e1 : s = 8 ∧ i = 0 ∧ q = k
      · obtain ⟨rfl, rfl, rfl⟩ := e1
        rw [if_pos ⟨rfl, rfl, rfl⟩, if_pos ⟨rfl, rfl, by omega, e⟩, ih 8 0 q, if_neg (by omega)]
      · rw [if_neg e1, ih]
        by_cases e2 : s = 8 ∧ i = 0 ∧ q < k ∧ ¬ a0 13 0 q = 0
        · rw [if_pos e2, if_pos ⟨e2.1, e2.2.1, by omega, e2.2.2.2⟩]
        · rw [if_neg e2, if_neg]
          rintro ⟨z1, z2, z3, z4⟩
          by_cases y : q = k
          · exact e1 ⟨z1, z2, y⟩
          · exact e2 ⟨z1, z2, by omega, z4⟩
theorem rPup_ex {r : ab_C} {p : Int32} : ∀ n, ∃ k, k ≤ n ∧ fo (fRp r p) 0 n = nN k
  | 0 => ⟨0, Nat.le_refl _, rfl⟩
  | n + 1 => by
    obtain ⟨k, hk, e⟩ := rPup_ex (r := r) (p := p) n
    have e2 : fo (fRp r p) 0 (n + 1) = fRp r p n (nN k) := by rw [← e]; rfl
    rw [e2]
    unfold fRp
    split
    · exact ⟨k, by omega, by rw [z01_0, i_add0]⟩
    · split
      · exact ⟨k + 1, by omega, by rw [z01_1, nN_succ]⟩
      · exact ⟨k, by omega, by rw [z01_0, i_add0]⟩
def pupN (r : ab_C) (i : Nat) : Nat := (rPupils r (nN i)).toNatClampNeg
theorem pup_eq {r : ab_C} {i : Nat} (h : np r ≤ 12) : rPupils r (nN i) = nN (pupN r i) ∧ pupN r i ≤ 12 := by
  obtain ⟨k, hk, e⟩ := rPup_ex (r := r) (p := nN i) (np r)
  have e1 : rPupils r (nN i) = nN k := e
  have e2 : pupN r i = k := by unfold pupN; rw [e1, nN_nat (by omega)]
  exact ⟨by rw [e2, e1], by omega⟩
def adN (r : ab_C) (D : Nat) (i : Nat) : Nat := if r 13 0 i = 0 then 0 else D * (1 + 2 * pupN r i)
theorem adN_le {r : ab_C} {D i : Nat} (h : np r ≤ 12) (hD : D ≤ 90) : adN r D i ≤ 2250 := by
  unfold adN
  split
  · omega
  · have := (pup_eq (i := i) h).2
    calc D * (1 + 2 * pupN r i) ≤ 90 * (1 + 2 * 12) := Nat.mul_le_mul hD (by omega)
      _ ≤ 2250 := by decide
theorem day_add {n D : Nat} {r : ab_C} (hI : INV n r) (hn : n ≤ 600) (hD : D ≤ 90) : (r 61 0 6 + nN D) = nN (dayN r + D) ∧ dayN r ≤ 54000 := by
  obtain ⟨E, hE, e⟩ := hI.dy
  have e2 : dayN r = E := by unfold dayN; rw [e, nN_nat (by omega)]
  exact ⟨by rw [e2, e, nN_add], by omega⟩
theorem pass_J {N n D : Nat} {r : ab_C} (hN : 1 ≤ N) (hJ : JJ N n r) (hI : INV n r) (hn : n ≤ 600) (hD : D ≤ 90) : JJ N (n + 1) (rPassX r (nN D)) ∧ (rCt (rPassX r (nN D))).2.1 = (rCt r).2.1 + nN (sS (adN r D) N) := by
  have h12 := hI.cn.1.2
  obtain ⟨⟨a1, a2, a3⟩, -, -, -, -, w, f, g⟩ := id hJ
  obtain ⟨d1, d2⟩ := day_add (D := D) hI hn hD
  have hat : ∀ s i q, rPassX r (nN D) s i q = if s = 8 ∧ i = 0 ∧ q < N ∧ ¬ r 13 0 q = 0 then r 8 0 q + nN D * (1 + 2 * rPupils r (nN q)) else u3 r 61 0 6 (r 61 0 6 + nN D) s i q := by
    intro s i q
    have e := pass_at (d := nN D) (a0 := u3 r 61 0 6 (r 61 0 6 + nN D)) (np r) s i q
    rw [rPup_at (a := u3 r 61 0 6 (r 61 0 6 + nN D)) (b := r) rfl (fun _ => rfl) (fun _ => rfl), a1] at e
    unfold rPassX
    rw [a1]
    exact e
  have ho : ∀ s i q, s ≠ 8 → s ≠ 61 → rPassX r (nN D) s i q = r s i q := fun s i q h8 h61 => by rw [hat, if_neg (fun z => h8 z.1), u3_ap, if_neg (fun z => h61 z.1)]
  have h61 : dayN r ≤ dayN (rPassX r (nN D)) := by
    have e : rPassX r (nN D) 61 0 6 = nN (dayN r + D) := by rw [hat, if_neg (by omega), u3_ap, if_pos ⟨rfl, rfl, rfl⟩, d1]
    unfold dayN at *
    rw [e, nN_nat (by omega)]
    omega
  have h8 : ∀ i, i < N → rPassX r (nN D) 8 0 i = nN (w i + adN r D i) := fun i hi => by
    rw [hat]
    unfold adN
    by_cases e : r 13 0 i = 0
    · rw [if_neg (fun z => z.2.2.2 e), if_pos e, u3_ap, if_neg (by omega), f i hi]
      rfl
    · rw [if_pos ⟨rfl, rfl, hi, e⟩, if_neg e, f i hi, (pup_eq (i := i) h12).1, ← nN_add]
      have e2 : (1 + 2 * nN (pupN r i) : Int32) = nN (1 + 2 * pupN r i) := by rw [← nN_add, ← nN_mul]; rfl
      rw [e2, nN_mul]
  have hsum : sS (fun i => w i + adN r D i) N = sS w N + sS (adN r D) N := sS_add N
  have hb : sS (adN r D) N ≤ N * 2250 := sS_bd N (fun i _ => adN_le h12 hD)
  have hb2 : N * 2250 ≤ 12 * 2250 := Nat.mul_le_mul_right _ (by omega)
  refine ⟨JJ_cg hN hJ (ho _ _ _ (by decide) (by decide)) (ho _ _ _ (by decide) (by decide)) (ho _ _ _ (by decide) (by decide)) (fun i _ => ho _ _ _ (by decide) (by decide)) (fun i s _ _ _ => ⟨ho _ _ _ (by decide) (by decide), ho _ _ _ (by decide) (by decide)⟩) h61 (ho _ _ _ (by decide) (by decide)) (ho _ _ _ (by decide) (by decide)) (fun i _ => ho _ _ _ (by decide) (by decide)) ⟨_, h8, by omega⟩, ?_⟩
  rw [CO.sum (B := 0) ((congrArg Int32.toNatClampNeg (ho 35 0 0 (by decide) (by decide))).trans a1) h8, CO.sum (B := 0) a1 f, hsum, nN_add]
/-! a utensil bought -/
theorem ute_J {N n p q : Nat} {k s t : Int32} {r : ab_C} (hN : 1 ≤ N) (hJ : JJ N n r) (hI : INV n r) (hn : n ≤ 600) (hp : p < N) (hq : q < 10) (hc : ¬ r 8 0 p < nN (4 * q)) : JJ N (n + 1) (rUteX r (nN p) k s t (nN q)) ∧ (rCt (rUteX r (nN p) k s t (nN q))).2.1 = (rCt r).2.1 + (-4) * nN q := by
  have h12 := hI.cn.1.2
  obtain ⟨⟨a1, a2, a3⟩, -, -, -, -, w, f, g⟩ := id hJ
  have hwp := sS_le (w := w) N hp
  have hle : 4 * q ≤ w p := by
    rw [f p hp, nN_lt (by omega) (by omega)] at hc
    omega
  have ek : (nN p).toNatClampNeg = p := nN_nat (by omega)
  obtain ⟨u1, -⟩ := ute_r (p := nN p) (k := k) (s := s) (t := t) (q := nN q) hI rfl
  have hv : r 8 0 p - 4 * nN q = nN (w p - 4 * q) := by
    rw [f p hp, show (4 : Int32) = nN 4 from rfl, nN_mul, nN_sub hle]
  have ho : ∀ a i z, a ≠ 8 → (a < 26 ∨ 30 < a) → a ≠ 38 → a ≠ 34 → rUteX r (nN p) k s t (nN q) a i z = r a i z := fun a i z h1 h2 h3 h4 => by rw [u1 a i z h4, utX_e h1 h2 h3]
  have h8 : ∀ i, i < N → rUteX r (nN p) k s t (nN q) 8 0 i = nN (updN w p (w p - 4 * q) i) := fun i hi => by
    rw [u1 8 0 i (by decide), utX_8, ek, hv]
    unfold updN
    split
    · rfl
    · exact f i hi
  have hs := sS_upd (w := w) (p := p) (x := w p - 4 * q) N
  rw [if_pos hp, if_pos hp] at hs
  refine ⟨JJ_cg hN hJ (ho _ _ _ (by decide) (by decide) (by decide) (by decide)) (ho _ _ _ (by decide) (by decide) (by decide) (by decide)) (ho _ _ _ (by decide) (by decide) (by decide) (by decide)) (fun i _ => ho _ _ _ (by decide) (by decide) (by decide) (by decide)) (fun i s _ _ _ => ⟨ho _ _ _ (by decide) (by decide) (by decide) (by decide), ho _ _ _ (by decide) (by decide) (by decide) (by decide)⟩) ?_ (ho _ _ _ (by decide) (by decide) (by decide) (by decide)) (ho _ _ _ (by decide) (by decide) (by decide) (by decide)) (fun i _ => ho _ _ _ (by decide) (by decide) (by decide) (by decide)) ⟨_, h8, by omega⟩, ?_⟩
  · unfold dayN
    rw [ho 61 0 6 (by decide) (by decide) (by decide) (by decide)]
    exact Nat.le_refl _
  · rw [CO.sum (B := 0) ((congrArg Int32.toNatClampNeg (ho 35 0 0 (by decide) (by decide) (by decide) (by decide))).trans a1) h8, CO.sum (B := 0) a1 f]
    have e : sS w N = sS (updN w p (w p - 4 * q)) N + 4 * q := by omega
    rw [e, ← nN_add, ← nN_mul, show nN 4 = (4 : Int32) from rfl, Int32.add_assoc, ← Int32.add_mul, show (4 : Int32) + -4 = 0 from rfl, Int32.zero_mul, Int32.add_zero]
