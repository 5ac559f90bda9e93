/-! what falls with a step: the same, in whichever order it is gathered -/
def Gv (c : ab_C) (i t q : Nat) : Prop := c 15 i t = nN q
def CL (c : ab_C) (n : Nat) (w0 u : Nat → Nat) : Prop := ∀ i q t, i < n → q < n → 1 ≤ t → t ≤ w0 i → Gv c i t q → u q < t → t ≤ w0 q → u i < t
def GD (c : ab_C) (n p s : Nat) (w v : Nat → Nat) : Prop := (∀ i, v i ≤ w i) ∧ (∀ q, w q < s → v q = w q) ∧ v p < s ∧ (∀ i q t, i < n → q < n → 1 ≤ t → t ≤ w q → v q < t → Gv c i t q → v i < t) ∧
  ∀ u w0 : Nat → Nat, (∀ i, w i ≤ w0 i) → CL c n w0 u → (∀ i, u i ≤ w i) → u p < s → ∀ i, u i ≤ v i
theorem GD_one {c r : ab_C} {n p s : Nat} {w v1 v2 : Nat → Nat} (h1 : GD c n p s w v1) (h2 : GD r n p s w v2) (hg : ∀ i t q, i < n → 1 ≤ t → t ≤ w i → (Gv c i t q ↔ Gv r i t q)) : v1 = v2 := by
  funext i
  refine Nat.le_antisymm ?_ ?_
  · exact h2.2.2.2.2 v1 w (fun _ => Nat.le_refl _) (fun i q t hi hq h1t hti hG hu htq => h1.2.2.2.1 i q t hi hq h1t htq hu ((hg i t q hi h1t hti).mpr hG)) h1.1 h1.2.2.1 i
  · exact h1.2.2.2.2 v2 w (fun _ => Nat.le_refl _) (fun i q t hi hq h1t hti hG hu htq => h2.2.2.2.1 i q t hi hq h1t htq hu ((hg i t q hi h1t hti).mp hG)) h2.1 h2.2.2.1 i
def INN (c : ab_C) (n p t k : Nat) (w v : Nat → Nat) : Prop := (∀ i, v i ≤ w i) ∧ (∀ q, w q < t → v q = w q) ∧ (∀ i q t', i < n → q < n → 1 ≤ t' → t' ≤ w q → v q < t' → Gv c i t' q → v i < t') ∧ (∀ i, i < k → Gv c i t p → v i < t) ∧
  ∀ u w0 : Nat → Nat, (∀ i, w i ≤ w0 i) → CL c n w0 u → (∀ i, u i ≤ w i) → u p < t → t ≤ w0 p → ∀ i, u i ≤ v i
theorem inner {g : Nat → Nat → (Nat → Nat) → (Nat → Nat)} {c : ab_C} {p t n : Nat} {w : Nat → Nat} (h1 : 1 ≤ t) (hp : p < n) (hg : ∀ i w', i < n → (∀ q, w' q ≤ w q) → t ≤ w' i → GD c n i t w' (g i t w')) : ∀ k, k ≤ n → INN c n p t k w (fo (fRi g c p t) w k) := by
  intro k
  induction k with
  | zero => intro _; exact ⟨fun _ => Nat.le_refl _, fun _ _ => rfl, fun i q t' _ _ _ a b => by have b' : w q < t' := b; omega, fun i hi => by omega, fun u w0 _ _ a _ _ => a⟩
  | succ k ih =>
    intro hk
    obtain ⟨a1, a2, a3, a4, a5⟩ := ih (by omega)
    show INN c n p t (k + 1) w (fRi g c p t k (fo (fRi g c p t) w k))
    generalize fo (fRi g c p t) w k = v at *
    unfold fRi
    split
    · next e => exact ⟨a1, a2, a3, fun i hi hG => by
        by_cases e2 : i = k
        · rw [e2]; exact e
        · exact a4 i (by omega) hG, a5⟩
    · next e =>
      split
      · next e2 =>
        obtain ⟨b1, b2, b3, b4, b5⟩ := hg k v (by omega) a1 (by omega)
        refine ⟨fun i => Nat.le_trans (b1 i) (a1 i), fun q hq => (b2 q (by rw [a2 q hq]; exact hq)).trans (a2 q hq), fun i q t' hi hq h1t hw hv hG => ?_, fun i hi hG => ?_, fun u w0 c1 c2 c3 c4 c5 => ?_⟩
        · by_cases e3 : v q < t'
          · exact Nat.lt_of_le_of_lt (b1 i) (a3 i q t' hi hq h1t hw e3 hG)
          · exact b4 i q t' hi hq h1t (by omega) hv hG
        · by_cases e3 : i = k
          · rw [e3]; exact b3
          · exact Nat.lt_of_le_of_lt (b1 i) (a4 i (by omega) hG)
        · have hu := a5 u w0 c1 c2 c3 c4 c5
          refine b5 u w0 (fun i => Nat.le_trans (a1 i) (c1 i)) c2 hu ?_
          exact c2 k p t (by omega) hp h1 (Nat.le_trans (Nat.le_of_not_lt e) (Nat.le_trans (a1 k) (c1 k))) e2 c4 c5
      · next e2 => exact ⟨a1, a2, a3, fun i hi hG => by
          by_cases e3 : i = k
          · rw [e3] at hG; exact absurd hG e2
          · exact a4 i (by omega) hG, a5⟩
/-- the class's order -/
def dO (g : Nat → Nat → (Nat → Nat) → (Nat → Nat)) (c : ab_C) (p s n : Nat) : Nat → (Nat → Nat) → (Nat → Nat) := fun j w => fo (fRi g c p (s + j)) w n
def dFall (c : ab_C) : Nat → Nat → Nat → (Nat → Nat) → (Nat → Nat)
  | 0, _, _, w => w
  | k + 1, p, s, w => fo (dO (dFall c k) c p s (np c)) (updN w p (s - 1)) (w p + 1 - s)
theorem updN_p (w : Nat → Nat) (p x : Nat) : updN w p x p = x := if_pos rfl
theorem updN_ne (w : Nat → Nat) {p x i : Nat} (h : i ≠ p) : updN w p x i = w i := if_neg h
theorem updN_le {w : Nat → Nat} {p x : Nat} (h : x ≤ w p) (i : Nat) : updN w p x i ≤ w i := by
  by_cases e : i = p
  · rw [e, updN_p]; exact h
  · rw [updN_ne _ e]; exact Nat.le_refl _
theorem dO_GD {g : Nat → Nat → (Nat → Nat) → (Nat → Nat)} {c : ab_C} {p s n : Nat} {w : Nat → Nat} (h1 : 1 ≤ s) (hp : p < n) (hs : s ≤ w p) (hg : ∀ i t w', i < n → s ≤ t → (∀ q, w' q ≤ updN w p (s - 1) q) → t ≤ w' i → GD c n i t w' (g i t w')) :
    GD c n p s w (fo (dO g c p s n) (updN w p (s - 1)) (w p + 1 - s)) := by
  have hw1 : ∀ i, updN w p (s - 1) i ≤ w i := updN_le (by omega)
  have main : ∀ j, j ≤ w p + 1 - s → (fun v : Nat → Nat => (∀ i, v i ≤ updN w p (s - 1) i) ∧ (∀ q, updN w p (s - 1) q < s → v q = updN w p (s - 1) q) ∧ (∀ i q t', i < n → q < n → 1 ≤ t' → t' ≤ updN w p (s - 1) q → v q < t' → Gv c i t' q → v i < t') ∧ (∀ i t', i < n → s ≤ t' → t' < s + j → Gv c i t' p → v i < t') ∧
      ∀ u w0 : Nat → Nat, (∀ i, w i ≤ w0 i) → CL c n w0 u → (∀ i, u i ≤ w i) → u p < s → ∀ i, u i ≤ v i) (fo (dO g c p s n) (updN w p (s - 1)) j) := by
    intro j
    induction j with
    | zero =>
      intro _
      refine ⟨fun _ => Nat.le_refl _, fun _ _ => rfl, fun i q t' _ _ _ a b => by have b' : updN w p (s - 1) q < t' := b; omega, fun i t' _ a b => by omega, fun u w0 _ _ a b i => ?_⟩
      show u i ≤ updN w p (s - 1) i
      by_cases e : i = p
      · rw [e, updN_p]; omega
      · rw [updN_ne _ e]; exact a i
    | succ j ih =>
      intro hj
      obtain ⟨a1, a2, a3, a4, a5⟩ := ih (by omega)
      have hI := inner (g := g) (c := c) (p := p) (t := s + j) (n := n) (w := fo (dO g c p s n) (updN w p (s - 1)) j) (by omega) hp (fun i w' hi hw' ht => hg i (s + j) w' hi (by omega) (fun q => Nat.le_trans (hw' q) (a1 q)) ht) n (Nat.le_refl n)
      have e9 : fo (dO g c p s n) (updN w p (s - 1)) (j + 1) = fo (fRi g c p (s + j)) (fo (dO g c p s n) (updN w p (s - 1)) j) n := rfl
      rw [e9]
      generalize fo (dO g c p s n) (updN w p (s - 1)) j = v at *
      generalize fo (fRi g c p (s + j)) v n = v' at *
      obtain ⟨b1, b2, b3, b4, b5⟩ := hI
      refine ⟨fun i => Nat.le_trans (b1 i) (a1 i), fun q hq => (b2 q (by rw [a2 q hq]; omega)).trans (a2 q hq), fun i q t' hi hq h1t hw hv hG => ?_, fun i t' hi ht1 ht2 hG => ?_, fun u w0 c1 c2 c3 c4 => ?_⟩
      · by_cases e3 : v q < t'
        · exact Nat.lt_of_le_of_lt (b1 i) (a3 i q t' hi hq h1t hw e3 hG)
        · exact b3 i q t' hi hq h1t (by omega) hv hG
      · by_cases e3 : t' = s + j
        · rw [e3] at hG ⊢; exact b4 i hi hG
        · exact Nat.lt_of_le_of_lt (b1 i) (a4 i t' hi ht1 (by omega) hG)
      · exact b5 u w0 (fun i => Nat.le_trans (a1 i) (Nat.le_trans (hw1 i) (c1 i))) c2 (a5 u w0 c1 c2 c3 c4) (by omega) (Nat.le_trans (by omega) (c1 p))
  obtain ⟨a1, a2, a3, a4, a5⟩ := main (w p + 1 - s) (Nat.le_refl _)
  generalize fo (dO g c p s n) (updN w p (s - 1)) (w p + 1 - s) = v at *
  have hvp : v p = s - 1 := by
    have := a2 p (by rw [updN_p]; omega)
    rw [updN_p] at this; exact this
  refine ⟨fun i => Nat.le_trans (a1 i) (hw1 i), fun q hq => ?_, by omega, fun i q t' hi hq h1t hw hv hG => ?_, a5⟩
  · have hne : q ≠ p := fun e => by rw [e] at hq; omega
    have := a2 q (by rw [updN_ne _ hne]; exact hq)
    rw [updN_ne _ hne] at this; exact this
  · by_cases e : q = p
    · subst e
      exact a4 i t' hi (by omega) (by omega) hG
    · exact a3 i q t' hi hq h1t (by rw [updN_ne _ e]; exact hw) hv hG
theorem dFall_GD {c : ab_C} : ∀ k p s w, p < np c → 1 ≤ s → s ≤ w p → cnw w s (np c) ≤ k → GD c (np c) p s w (dFall c k p s w) := by
  intro k
  induction k with
  | zero =>
    intro p s w hp _ hs hk
    have := cnw_pos hs (np c) hp
    omega
  | succ k ih =>
    intro p s w hp h1 hs hk
    refine dO_GD h1 hp hs (fun i t w' hi ht hw' hti => ih i t w' hi (by omega) hti ?_)
    have := cnw_lt (w := w) (w' := w') (s := s) (s' := t) (p := p) (fun i => Nat.le_trans (hw' i) (updN_le (by omega) i)) ht hs (by have := hw' p; rw [updN_p] at this; omega) (np c) hp
    omega
/-- the reference's order -/
theorem rO_GD {g : Nat → Nat → (Nat → Nat) → (Nat → Nat)} {c : ab_C} {p s n : Nat} {w : Nat → Nat} (h1 : 1 ≤ s) (hp : p < n) (hs : s ≤ w p) (hg : ∀ i t w', i < n → s ≤ t → (∀ q, w' q ≤ w q) → w' p < t → t ≤ w' i → GD c n i t w' (g i t w')) :
    GD c n p s w (fo (fRo g c p (w p) n) w (w p + 1 - s)) := by
  have main : ∀ j, j ≤ w p + 1 - s → (fun v : Nat → Nat => (∀ i, v i ≤ w i) ∧ (v p = w p - j ∧ ∀ q, w q < s → v q = w q) ∧ (∀ i q t', i < n → q < n → q ≠ p → 1 ≤ t' → t' ≤ w q → v q < t' → Gv c i t' q → v i < t') ∧ (∀ i t', i < n → w p - j < t' → t' ≤ w p → Gv c i t' p → v i < t') ∧
      ∀ u w0 : Nat → Nat, (∀ i, w i ≤ w0 i) → CL c n w0 u → (∀ i, u i ≤ w i) → u p < s → ∀ i, u i ≤ v i) (fo (fRo g c p (w p) n) w j) := by
    intro j
    induction j with
    | zero =>
      intro _
      exact ⟨fun _ => Nat.le_refl _, ⟨rfl, fun _ _ => rfl⟩, fun i q t' _ _ _ _ a b => by have b' : w q < t' := b; omega, fun i t' _ a b => by omega, fun u w0 _ _ a b => a⟩
    | succ j ih =>
      intro hj
      obtain ⟨a1, ⟨a0, a2⟩, a3, a4, a5⟩ := ih (by omega)
      have e9 : fo (fRo g c p (w p) n) w (j + 1) = fo (fRi g c p (w p - j)) (updN (fo (fRo g c p (w p) n) w j) p (w p - j - 1)) n := rfl
      rw [e9]
      generalize fo (fRo g c p (w p) n) w j = v at *
      have hx : ∀ i, updN v p (w p - j - 1) i ≤ v i := updN_le (by omega)
      have hI := inner (g := g) (c := c) (p := p) (t := w p - j) (n := n) (w := updN v p (w p - j - 1)) (by omega) hp (fun i w' hi hw' ht => hg i (w p - j) w' hi (by omega) (fun q => Nat.le_trans (hw' q) (Nat.le_trans (hx q) (a1 q))) (by have := hw' p; rw [updN_p] at this; omega) ht) n (Nat.le_refl n)
      generalize fo (fRi g c p (w p - j)) (updN v p (w p - j - 1)) n = v' at *
      obtain ⟨b1, b2, b3, b4, b5⟩ := hI
      have hvp : v' p = w p - (j + 1) := by
        have := b2 p (by rw [updN_p]; omega)
        rw [updN_p] at this; omega
      refine ⟨fun i => Nat.le_trans (b1 i) (Nat.le_trans (hx i) (a1 i)), ⟨hvp, fun q hq => ?_⟩, fun i q t' hi hq hne h1t hw hv hG => ?_, fun i t' hi ht1 ht2 hG => ?_, fun u w0 c1 c2 c3 c4 => ?_⟩
      · have hne : q ≠ p := fun e => by rw [e] at hq; omega
        have e := a2 q hq
        have := b2 q (by rw [updN_ne _ hne, e]; omega)
        rw [updN_ne _ hne] at this
        exact this.trans e
      · by_cases e3 : v q < t'
        · exact Nat.lt_of_le_of_lt (b1 i) (Nat.lt_of_le_of_lt (hx i) (a3 i q t' hi hq hne h1t hw e3 hG))
        · exact b3 i q t' hi hq h1t (by rw [updN_ne _ hne]; omega) hv hG
      · by_cases e3 : t' = w p - j
        · rw [e3] at hG ⊢; exact b4 i hi hG
        · exact Nat.lt_of_le_of_lt (b1 i) (Nat.lt_of_le_of_lt (hx i) (a4 i t' hi (by omega) ht2 hG))
      · have hu := a5 u w0 c1 c2 c3 c4
        refine b5 u w0 (fun i => Nat.le_trans (hx i) (Nat.le_trans (a1 i) (c1 i))) c2 (fun i => ?_) (by omega) (Nat.le_trans (by omega) (c1 p))
        by_cases e : i = p
        · rw [e, updN_p]; omega
        · rw [updN_ne _ e]; exact hu i
  obtain ⟨a1, ⟨a0, a2⟩, a3, a4, a5⟩ := main (w p + 1 - s) (Nat.le_refl _)
  generalize fo (fRo g c p (w p) n) w (w p + 1 - s) = v at *
  refine ⟨a1, a2, by omega, fun i q t' hi hq h1t hw hv hG => ?_, a5⟩
  by_cases e : q = p
  · subst e
    exact a4 i t' hi (by omega) (by omega) hG
  · exact a3 i q t' hi hq e h1t hw hv hG
theorem rFall_GD {c : ab_C} : ∀ k p s w, p < np c → 1 ≤ s → s ≤ w p → cnw w s (np c) ≤ k → GD c (np c) p s w (rFall c k p s w) := by
  intro k
  induction k with
  | zero =>
    intro p s w hp _ hs hk
    have := cnw_pos hs (np c) hp
    omega
  | succ k ih =>
    intro p s w hp h1 hs hk
    refine rO_GD h1 hp hs (fun i t w' hi ht hw' hwp hti => ih i t w' hi (by omega) hti ?_)
    have := cnw_lt (w := w) (w' := w') (s := s) (s' := t) (p := p) hw' ht hs hwp (np c) hp
    omega

