/-! the class's count of what falls -/
def kc (c : ab_C) (w : Nat → Nat) : ab_C := fun x y z => if x = 2 ∧ y = 0 ∧ z < np c then nN (w z) else c x y z
theorem kc_ne {c : ab_C} {w : Nat → Nat} {x y z : Nat} (h : x ≠ 2) : kc c w x y z = c x y z := if_neg (fun e => h e.1)
theorem kc_at {c : ab_C} {w : Nat → Nat} {z : Nat} (h : z < np c) : kc c w 2 0 z = nN (w z) := if_pos ⟨rfl, rfl, h⟩
theorem kc_np {c : ab_C} {w : Nat → Nat} : np (kc c w) = np c := by unfold np; rw [kc_ne (by decide)]
theorem kc_u {c : ab_C} {w : Nat → Nat} {p x : Nat} (h : p < np c) : u3 (kc c w) 2 0 p (nN x) = kc c (updN w p x) := by
  funext a b d
  rw [u3_ap]
  unfold kc updN
  by_cases e : a = 2 ∧ b = 0 ∧ d = p
  · obtain ⟨rfl, rfl, rfl⟩ := e
    rw [if_pos ⟨rfl, rfl, rfl⟩, if_pos ⟨rfl, rfl, h⟩, if_pos rfl]
  · rw [if_neg e]
    by_cases e2 : a = 2 ∧ b = 0 ∧ d < np c
    · rw [if_pos e2, if_pos e2, if_neg (fun z => e ⟨e2.1, e2.2.1, z⟩)]
    · rw [if_neg e2, if_neg e2]
/-- all steps together -/
def sS (w : Nat → Nat) (n : Nat) : Nat := fo (fun i a => a + w i) 0 n
theorem sS_s (w : Nat → Nat) (n : Nat) : sS w (n + 1) = sS w n + w n := rfl
theorem sS_upd {w : Nat → Nat} {p x : Nat} : ∀ n, sS (updN w p x) n + (if p < n then w p else 0) = sS w n + (if p < n then x else 0) := by
  intro n
  induction n with
  | zero => rfl
  | succ n ih =>
    rw [sS_s, sS_s]
    by_cases e : n = p
    · subst e
      rw [if_neg (by omega), if_neg (by omega)] at ih
      rw [if_pos (by omega), if_pos (by omega), updN_p]
      omega
    · rw [updN_ne _ e]
      by_cases e2 : p < n
      · rw [if_pos e2, if_pos e2] at ih
        rw [if_pos (by omega), if_pos (by omega)]
        omega
      · rw [if_neg e2, if_neg e2] at ih
        rw [if_neg (by omega), if_neg (by omega)]
        omega
theorem i_tel (a b d : Int32) : (a - b) + (b - d) = a - d := by
  rw [Int32.sub_eq_add_neg, Int32.sub_eq_add_neg, Int32.sub_eq_add_neg, Int32.add_assoc, ← Int32.add_assoc (-b), Int32.add_left_neg, Int32.zero_add]
theorem nN_sub {a b : Nat} (h : b ≤ a) : nN a - nN b = nN (a - b) := by
  have e : nN a = nN (a - b) + nN b := by rw [nN_add]; exact congrArg nN (by omega)
  rw [e, Int32.add_sub_cancel]
theorem cDrop_kc {c : ab_C} (hn : np c ≤ 12) : ∀ k p s w, (∀ i, w i ≤ 9) → p < np c → 1 ≤ s → s ≤ w p → cnw w s (np c) ≤ k → cDrop k (nN p) s (kc c w) = (nN (sS w (np c)) - nN (sS (dFall c k p s w) (np c)), kc c (dFall c k p s w)) := by
  intro k
  induction k with
  | zero =>
    intro p s w _ hp _ hs hk
    have := cnw_pos hs (np c) hp
    omega
  | succ k ih =>
    intro p s w h9 hp h1 hs hk
    have hp2 : p < 2147483648 := by omega
    have hw9 := h9 p
    rw [cDrop_s, nN_nat hp2, kc_at hp, kc_np, nN_nat (show w p < 2147483648 by omega), nN_pred h1, kc_u hp]
    have hst : nN (w p) - nN s + 1 = nN (sS w (np c)) - nN (sS (updN w p (s - 1)) (np c)) := by
      have e := sS_upd (w := w) (p := p) (x := s - 1) (np c)
      rw [if_pos hp, if_pos hp] at e
      have e2 : w p ≤ sS w (np c) := by
        clear e
        have : ∀ n, p < n → w p ≤ sS w n := by
          intro n
          induction n with
          | zero => intro h; omega
          | succ n ih2 =>
            intro h
            rw [sS_s]
            by_cases e : p = n
            · subst e; omega
            · have := ih2 (by omega); omega
        exact this _ hp
      rw [nN_sub hs, nN_succ, nN_sub (by omega)]
      exact congrArg nN (by omega)
    rw [hst]
    have hw1 : ∀ i, updN w p (s - 1) i ≤ w i := updN_le (by omega)
    have main : ∀ j, j ≤ w p + 1 - s → (∀ i, fo (dO (dFall c k) c p s (np c)) (updN w p (s - 1)) j i ≤ updN w p (s - 1) i) ∧ fo (fDo (cDrop k) (nN p) s (np c)) (nN (sS w (np c)) - nN (sS (updN w p (s - 1)) (np c)), kc c (updN w p (s - 1))) j = (nN (sS w (np c)) - nN (sS (fo (dO (dFall c k) c p s (np c)) (updN w p (s - 1)) j) (np c)), kc c (fo (dO (dFall c k) c p s (np c)) (updN w p (s - 1)) j)) := by
      intro j
      induction j with
      | zero => intro _; exact ⟨fun _ => Nat.le_refl _, rfl⟩
      | succ j ihj =>
        intro hj
        obtain ⟨a1, a2⟩ := ihj (by omega)
        have e8 : fo (fDo (cDrop k) (nN p) s (np c)) (nN (sS w (np c)) - nN (sS (updN w p (s - 1)) (np c)), kc c (updN w p (s - 1))) (j + 1) = fo (fDi (cDrop k) (nN p) (s + j)) (fo (fDo (cDrop k) (nN p) s (np c)) (nN (sS w (np c)) - nN (sS (updN w p (s - 1)) (np c)), kc c (updN w p (s - 1))) j) (np c) := rfl
        have e9 : fo (dO (dFall c k) c p s (np c)) (updN w p (s - 1)) (j + 1) = fo (fRi (dFall c k) c p (s + j)) (fo (dO (dFall c k) c p s (np c)) (updN w p (s - 1)) j) (np c) := rfl
        rw [e8, e9, a2]
        generalize fo (dO (dFall c k) c p s (np c)) (updN w p (s - 1)) j = v at *
        clear a2 e8 e9 ihj hst
        have hcn : ∀ w' : Nat → Nat, (∀ q, w' q ≤ v q) → cnw w' (s + j) (np c) ≤ k := fun w' hw' => by
          have hv : ∀ i, w' i ≤ updN w p (s - 1) i := fun i => Nat.le_trans (hw' i) (a1 i)
          have := cnw_lt (w := w) (w' := w') (s := s) (s' := s + j) (p := p) (fun i => Nat.le_trans (hv i) (hw1 i)) (by omega) hs (by have := hv p; rw [updN_p] at this; omega) (np c) hp
          omega
        have hI := inner (g := dFall c k) (c := c) (p := p) (t := s + j) (n := np c) (w := v) (by omega) hp (fun i w' hi hw' ht => dFall_GD k i (s + j) w' hi (by omega) ht (hcn w' hw'))
        have inn : ∀ q, q ≤ np c → fo (fDi (cDrop k) (nN p) (s + j)) (nN (sS w (np c)) - nN (sS v (np c)), kc c v) q = (nN (sS w (np c)) - nN (sS (fo (fRi (dFall c k) c p (s + j)) v q) (np c)), kc c (fo (fRi (dFall c k) c p (s + j)) v q)) := by
          intro q
          induction q with
          | zero => intro _; rfl
          | succ q ihq =>
            intro hq
            have b1 := (hI q (by omega)).1
            show fDi (cDrop k) (nN p) (s + j) q (fo (fDi (cDrop k) (nN p) (s + j)) (nN (sS w (np c)) - nN (sS v (np c)), kc c v) q) = (_, kc c (fRi (dFall c k) c p (s + j) q (fo (fRi (dFall c k) c p (s + j)) v q)))
            rw [ihq (by omega)]
            have e7 : fo (fRi (dFall c k) c p (s + j)) v (q + 1) = fRi (dFall c k) c p (s + j) q (fo (fRi (dFall c k) c p (s + j)) v q) := rfl
            rw [e7]
            generalize fo (fRi (dFall c k) c p (s + j)) v q = v2 at *
            have hv9 : ∀ i, v2 i ≤ 9 := fun i => Nat.le_trans (b1 i) (Nat.le_trans (a1 i) (Nat.le_trans (hw1 i) (h9 i)))
            have hq9 := hv9 q
            have hsj : s + j ≤ 9 := by omega
            unfold fDi fRi
            simp only [kc_at (show q < np c by omega), kc_ne (show (15 : Nat) ≠ 2 by decide), nN_lt (show v2 q < 2147483648 by omega) (show s + j < 2147483648 by omega)]
            by_cases d1 : v2 q < s + j
            · rw [if_pos d1, if_pos d1]
            · rw [if_neg d1, if_neg d1]
              by_cases d2 : c 15 q (s + j) = nN p
              · rw [if_pos d2, if_pos d2, ih q (s + j) v2 hv9 (by omega) (by omega) (by omega) (hcn v2 b1), i_tel]
              · rw [if_neg d2, if_neg d2]
        have hfin := inn (np c) (Nat.le_refl _)
        refine ⟨fun i => Nat.le_trans ((hI (np c) (Nat.le_refl _)).1 i) (a1 i), ?_⟩
        rw [hfin]
    exact (main _ (Nat.le_refl _)).2
/-- what a person's revoked step takes with it -/
theorem cKept_kc {c : ab_C} (hs : ∀ i, i < np c → inb (c 7 0 i) 10) : cKept c = kc c (w0 c) := by
  funext x y z
  unfold cKept
  rw [cKept_eq]
  unfold kc w0
  by_cases e : x = 2 ∧ y = 0 ∧ z < np c
  · rw [if_pos e, if_pos e, if_pos e.2.2]
    exact (inb_eq (hs z e.2.2)).1
  · rw [if_neg e, if_neg e]
theorem w0_9 {c : ab_C} (hs : ∀ i, i < np c → inb (c 7 0 i) 10) (i : Nat) : w0 c i ≤ 9 := by
  unfold w0
  split
  · next h => have := (inb_eq (hs i h)).2; omega
  · omega
theorem w0_EQ {c r : ab_C} (h : EQ c r) : w0 c = w0 r := by
  funext i
  unfold w0
  rw [h.gnp, h.st 7 rfl]
theorem cFall_eq {c r : ab_C} {n : Nat} (h : EQ c r) (hi : INV n r) {p s : Int32} (hp : inb p (np r)) (hs : cRng s 1 9 = true) (hh : ¬ r 7 0 p.toNatClampNeg < s) : cFall c p s = (rFalling r p s, kc c (rFall r 12 p.toNatClampNeg s.toNatClampNeg (w0 r))) := by
  obtain ⟨k, h1, h9, rfl⟩ := rng_ex1 hs
  obtain ⟨j, hj, rfl⟩ := nN_ex hp
  have h12 := hi.cn.1.2
  have hr7 := hi.rv.2.2.2.2.2
  have hc7 : ∀ i, i < np c → inb (c 7 0 i) 10 := fun i hi => by rw [h.gnp] at hi; rw [h.st 7 rfl]; exact hr7 i hi
  rw [nN_nat (show j < 2147483648 by omega)] at hh ⊢
  rw [nN_nat (show k < 2147483648 by omega)]
  have hwp : k ≤ w0 r j := by
    unfold w0
    rw [if_pos hj]
    obtain ⟨e, hl⟩ := inb_eq (hr7 j hj)
    rw [e, nN_lt (by omega) (by omega)] at hh
    omega
  have hjc : j < np c := by rw [h.gnp]; exact hj
  have g1 := dFall_GD (c := c) 12 j k (w0 r) hjc h1 hwp (Nat.le_trans (cnw_n _ _ _) (by rw [h.gnp]; exact h12))
  have g2 := rFall_GD (c := r) 12 j k (w0 r) hj h1 hwp (Nat.le_trans (cnw_n _ _ _) h12)
  rw [h.gnp] at g1
  have hv : dFall c 12 j k (w0 r) = rFall r 12 j k (w0 r) := by
    refine GD_one g1 g2 (fun i t q hin h1t hti => ?_)
    unfold Gv
    have h7 := inb_eq (hr7 i hin)
    have hti2 : t ≤ (r 7 0 i).toNatClampNeg := by unfold w0 at hti; rw [if_pos hin] at hti; exact hti
    rw [(h.held hin h1t (by omega) (by rw [h7.1, nN_lt (by omega) (by omega)]; omega)).1]
  unfold cFall
  rw [nN_nat (show k < 2147483648 by omega), cKept_kc hc7, w0_EQ h, cDrop_kc (by rw [h.gnp]; exact h12) 12 j k (w0 r) (w0_9 hr7) hjc h1 hwp (Nat.le_trans (cnw_n _ _ _) (by rw [h.gnp]; exact h12)), hv, h.gnp]
  refine congrArg (fun x => (x, _)) ?_
  unfold rFalling
  rw [nN_nat (show j < 2147483648 by omega), nN_nat (show k < 2147483648 by omega)]
  generalize rFall r 12 j k (w0 r) = v
  have : ∀ q, q ≤ np r → nN (sS (w0 r) q) - nN (sS v q) = fo (fRfl r v) 0 q := by
    intro q
    induction q with
    | zero => intro _; exact Int32.sub_self _
    | succ q ih =>
      intro hq
      have e7 : r 7 0 q = nN (w0 r q) := by
        unfold w0
        rw [if_pos (by omega)]
        exact (inb_eq (hr7 q (by omega))).1
      show _ = fo (fRfl r v) 0 q + (r 7 0 q - nN (v q))
      rw [← ih (by omega), e7, sS_s, sS_s, ← nN_add, ← nN_add]
      simp only [Int32.sub_eq_add_neg, Int32.neg_add]
      ac_rfl
  exact this _ (Nat.le_refl _)

