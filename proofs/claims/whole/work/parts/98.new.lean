/-! a secret more, a utensil more -/
theorem QC_of {c : ab_C} (hn : nsc c ≤ 8) (hv : ∀ i, i < nsc c → c 23 0 i = -1 ∨ inb (c 23 0 i) (nsc c)) (rk : Nat → Nat) (h : ∀ i, i < nsc c → ¬ c 23 0 i = -1 → rk (c 23 0 i).toNatClampNeg < rk i) : QC c := by
  refine ⟨fun i => bcnt (fun j => decide (rk j < rk i)) (nsc c), fun i hi => ⟨?_, fun hne => ?_⟩⟩
  · have := bcnt_lt (f := fun j => decide (rk j < rk i)) (g := fun _ => true) (nsc c) hi (decide_eq_false (Nat.lt_irrefl _)) rfl (fun _ _ _ => rfl)
    rw [bcnt_tt] at this
    show bcnt (fun j => decide (rk j < rk i)) (nsc c) < 8
    omega
  · have ht := (inb_eq ((hv i hi).resolve_left hne)).2
    have h1 := h i hi hne
    refine bcnt_lt (nsc c) ht (decide_eq_false (Nat.lt_irrefl _)) (decide_eq_true h1) (fun j hj hl => ?_)
    have := of_decide_eq_true hl
    exact decide_eq_true (by omega)
theorem u3_2 {c : ab_C} {s m : Nat} {v : Int32} {q : Nat} : u3 c s 0 m v s 0 q = if q = m then v else c s 0 q := by
  rw [u3_ap]
  by_cases e : q = m
  · rw [if_pos ⟨rfl, rfl, e⟩, if_pos e]
  · rw [if_neg (fun z => e z.2.2), if_neg e]
theorem u3_o {c : ab_C} {s i k a b q : Nat} {v : Int32} (h : a ≠ s) : u3 c s i k v a b q = c a b q := if_neg (fun z => h z.1)
def secX (c : ab_C) (j : Nat) (v s k : Int32) (m : Nat) : ab_C := u3 (u3 (u3 (u3 c 11 0 j v) 22 0 m s) 23 0 m k) 37 0 0 (nN (m + 1))
theorem secX_e {c : ab_C} {j m : Nat} {v s k : Int32} {a i q : Nat} (h1 : a ≠ 11) (h2 : a ≠ 22) (h3 : a ≠ 23) (h4 : a ≠ 37) : secX c j v s k m a i q = c a i q := by
  unfold secX
  rw [u3_o h4, u3_o h3, u3_o h2, u3_o h1]
theorem secX_11 {c : ab_C} {j m : Nat} {v s k : Int32} {q : Nat} : secX c j v s k m 11 0 q = if q = j then v else c 11 0 q := by
  unfold secX
  rw [u3_o (by decide), u3_o (by decide), u3_o (by decide), u3_2]
theorem secX_22 {c : ab_C} {j m : Nat} {v s k : Int32} {q : Nat} : secX c j v s k m 22 0 q = if q = m then s else c 22 0 q := by
  unfold secX
  rw [u3_o (by decide), u3_o (by decide), u3_2, u3_o (by decide)]
theorem secX_23 {c : ab_C} {j m : Nat} {v s k : Int32} {q : Nat} : secX c j v s k m 23 0 q = if q = m then k else c 23 0 q := by
  unfold secX
  rw [u3_o (by decide), u3_2, u3_o (by decide), u3_o (by decide)]
theorem secX_ST {n j : Nat} {c r : ab_C} {v s k : Int32} (h : ST n c r) (hj : j < np r) (h8 : nsc r < 8) (hk : k = -1 ∨ inb k (nsc r)) : ST n (secX c j v s k (nsc r)) (secX r j v s k (nsc r)) := by
  have e : ∀ (c : ab_C) a i q, a ≠ 11 → a ≠ 22 → a ≠ 23 → a ≠ 37 → secX c j v s k (nsc r) a i q = c a i q := fun c a i q h1 h2 h3 h4 => secX_e h1 h2 h3 h4
  have n1 : np (secX r j v s k (nsc r)) = np r := congrArg Int32.toNatClampNeg (e r 35 0 0 (by decide) (by decide) (by decide) (by decide))
  have n2 : nh (secX r j v s k (nsc r)) = nh r := congrArg Int32.toNatClampNeg (e r 36 0 0 (by decide) (by decide) (by decide) (by decide))
  have e37 : secX r j v s k (nsc r) 37 0 0 = nN (nsc r + 1) := u3_in
  have n3 : nsc (secX r j v s k (nsc r)) = nsc r + 1 := by
    show (secX r j v s k (nsc r) 37 0 0).toNatClampNeg = _
    rw [e37, nN_nat (by omega)]
  have n4 : nu (secX r j v s k (nsc r)) = nu r := congrArg Int32.toNatClampNeg (e r 38 0 0 (by decide) (by decide) (by decide) (by decide))
  obtain ⟨z1, z2, z3, z4⟩ := h.2.1.z0
  obtain ⟨⟨r1, r2, r3, r4, r5, r6⟩, hA, hQ⟩ := h.2.1.rg
  obtain ⟨c1, c2, c3, c4⟩ := h.2.1.cn
  have hkk : ∀ i, i < nsc r + 1 → secX r j v s k (nsc r) 23 0 i = -1 ∨ inb (secX r j v s k (nsc r) 23 0 i) (nsc r + 1) := fun i hi => by
    rw [secX_23]
    split
    · exact hk.imp_right (fun z => inb_up z (by omega))
    · exact (r3 i (by omega)).imp_right (fun z => inb_up z (by omega))
  refine ⟨⟨EQ0_u (EQ0_u (EQ0_u (EQ0_u h.1.1))), ⟨?_, ?_, ?_, ?_⟩, ⟨?_, ?_, ?_, ?_, ?_⟩, fun a q ha h1 h9 hq => ?_, fun u q hu hq => ?_⟩, ?_, fun i hi => ?_, fun i hi => ?_⟩
  · rw [e _ _ _ _ (by decide) (by decide) (by decide) (by decide), e _ _ _ _ (by decide) (by decide) (by decide) (by decide)]; exact h.1.c35
  · rw [e _ _ _ _ (by decide) (by decide) (by decide) (by decide), e _ _ _ _ (by decide) (by decide) (by decide) (by decide)]; exact h.1.c36
  · exact u3_in.trans u3_in.symm
  · rw [e _ _ _ _ (by decide) (by decide) (by decide) (by decide), e _ _ _ _ (by decide) (by decide) (by decide) (by decide)]; exact h.1.c38
  · rw [e _ _ _ _ (by decide) (by decide) (by decide) (by decide), e _ _ _ _ (by decide) (by decide) (by decide) (by decide)]; exact h.1.d6
  · rw [e _ _ _ _ (by decide) (by decide) (by decide) (by decide), e _ _ _ _ (by decide) (by decide) (by decide) (by decide)]; exact h.1.d7
  · rw [e _ _ _ _ (by decide) (by decide) (by decide) (by decide), e _ _ _ _ (by decide) (by decide) (by decide) (by decide)]; exact h.1.d8
  · rw [e _ _ _ _ (by decide) (by decide) (by decide) (by decide), e _ _ _ _ (by decide) (by decide) (by decide) (by decide)]; exact h.1.d9
  · rw [e _ _ _ _ (by decide) (by decide) (by decide) (by decide), e _ _ _ _ (by decide) (by decide) (by decide) (by decide)]; exact h.1.d10
  · rw [n1] at ha
    rw [e _ _ _ _ (by decide) (by decide) (by decide) (by decide)] at hq
    rw [e _ _ _ _ (by decide) (by decide) (by decide) (by decide), e _ _ _ _ (by decide) (by decide) (by decide) (by decide), e _ _ _ _ (by decide) (by decide) (by decide) (by decide), e _ _ _ _ (by decide) (by decide) (by decide) (by decide)]
    exact h.1.held ha h1 h9 hq
  · rw [n4] at hu
    rw [n1, e _ _ _ _ (by decide) (by decide) (by decide) (by decide), e _ _ _ _ (by decide) (by decide) (by decide) (by decide)]
    exact h.1.seen hu hq
  · refine ⟨⟨⟨?_, ?_, ?_, ?_⟩, ⟨⟨fun i hi => ?_, fun i hi => ?_, fun i hi => ?_, fun i hi => ?_, fun i hi => ?_, fun i hi => ?_⟩, ?_, ?_⟩, ⟨fun t j a b d => ?_, fun t j a b d => ?_, fun t j a b d => ?_, fun t j a b d => ?_⟩, ?_⟩, fun t ht j => ?_, ?_, ?_, fun j => ?_⟩
    · rw [n1, e _ 35 _ _ (by decide) (by decide) (by decide) (by decide)]; exact c1
    · rw [n2, e _ 36 _ _ (by decide) (by decide) (by decide) (by decide)]; exact c2
    · rw [n3, e37]; exact ⟨rfl, by omega⟩
    · rw [n4, e _ 38 _ _ (by decide) (by decide) (by decide) (by decide)]; exact c4
    · rw [n1] at hi; rw [n1, e _ 5 _ _ (by decide) (by decide) (by decide) (by decide)]; exact r1 i hi
    · rw [n1] at hi; rw [n2, e _ 9 _ _ (by decide) (by decide) (by decide) (by decide)]; exact r2 i hi
    · rw [n3] at hi ⊢; exact hkk i hi
    · rw [n2] at hi; rw [n1, e _ 3 _ _ (by decide) (by decide) (by decide) (by decide), e _ 4 _ _ (by decide) (by decide) (by decide) (by decide)]; exact r4 i hi
    · rw [n4] at hi; rw [n1, e _ 30 _ _ (by decide) (by decide) (by decide) (by decide)]; exact r5 i hi
    · rw [n1] at hi; rw [e _ 7 _ _ (by decide) (by decide) (by decide) (by decide)]; exact r6 i hi
    · obtain ⟨rk, hrk⟩ := hA
      refine ⟨rk, fun i hi => ?_⟩
      rw [n1] at hi
      rw [e _ 5 _ _ (by decide) (by decide) (by decide) (by decide)]
      exact hrk i hi
    · obtain ⟨rk, hrk⟩ := hQ
      refine QC_of (by omega) (fun i hi => by rw [n3] at hi ⊢; exact hkk i hi) (fun i => if i = nsc r then 100 else rk i) (fun i hi hne => ?_)
      rw [n3] at hi
      rw [secX_23] at hne ⊢
      by_cases z : i = nsc r
      · rw [if_pos z] at hne ⊢
        have hkl := (inb_eq (hk.resolve_left hne)).2
        show (if k.toNatClampNeg = nsc r then 100 else rk k.toNatClampNeg) < if i = nsc r then 100 else rk i
        rw [if_pos z, if_neg (by omega)]
        have := (hrk _ hkl).1
        omega
      · rw [if_neg z] at hne ⊢
        have hin := (inb_eq ((r3 i (by omega)).resolve_left hne)).2
        show (if (r 23 0 i).toNatClampNeg = nsc r then 100 else rk (r 23 0 i).toNatClampNeg) < if i = nsc r then 100 else rk i
        rw [if_neg z, if_neg (by omega)]
        exact (hrk i (by omega)).2 hne
    · rw [n1] at d
      by_cases w : t = 11
      · subst w; rw [secX_11, if_neg (by omega)]; exact z1 11 j a b d
      · rw [e _ t _ _ w (by omega) (by omega) (by omega)]; exact z1 t j a b d
    · rw [n2] at d; rw [e _ t _ _ (by omega) (by omega) (by omega) (by omega)]; exact z2 t j a b d
    · rw [n3] at d
      by_cases w : t = 22
      · subst w; rw [secX_22, if_neg (by omega)]; exact z3 22 j a b (by omega)
      · by_cases w2 : t = 23
        · subst w2; rw [secX_23, if_neg (by omega)]; exact z3 23 j a b (by omega)
        · rw [e _ t _ _ (by omega) w w2 (by omega)]; exact z3 t j a b (by omega)
    · rw [n4] at d; rw [e _ t _ _ (by omega) (by omega) (by omega) (by omega)]; exact z4 t j a b d
    · unfold FO
      rw [n1]
      simp only [e _ 12 0 _ (by decide) (by decide) (by decide) (by decide)]
      exact h.2.1.fo
    · rw [e _ t _ _ (by omega) (by omega) (by omega) (by omega)]; exact h.2.1.b01 t ht j
    · rw [n1, n2]; exact h.2.1.hz
    · unfold DY
      rw [e _ 61 _ _ (by decide) (by decide) (by decide) (by decide)]
      exact h.2.1.dy
    · rw [e _ 29 _ _ (by decide) (by decide) (by decide) (by decide)]; exact h.2.1.rk j
  · rw [e _ _ _ _ (by decide) (by decide) (by decide) (by decide)]; exact h.2.2.1 i hi
  · rw [e _ _ _ _ (by decide) (by decide) (by decide) (by decide)]; exact h.2.2.2 i hi
def kSec (c : ab_C) (p s k : Int32) : Int32 × Int32 × ab_C := if cHas c p = true then (if cHasSN c k = true then (if cRng s 0 9 = true then (if c 37 0 0 < 8 then (if c 13 0 p.toNatClampNeg = 0 then (3, 0, c) else if cHolds c p s = true then (0, nN (nsc c), cSecret c p s k) else (3, 0, c)) else (3, 0, c)) else (2, 0, c)) else (1, 0, c)) else (1, 0, c)
theorem o_secret {m : ab_M} {p s k : Int32} (h1 : CI m) : SP_X6_secret [vA 61 0, vI p, vI s, vI k] m = kout cd3 (kSec (mi m) p s k) m := by
  rw [e_X6_secret h1]
  simp only [kSec, kout_i, kout_0, kout_e t10, kout_e t20, kout_e t30, cd3_1, cd3_2, cd3_3]
theorem g_secret {n : Nat} {c r : ab_C} (h : ST n c r) (p s k : Int32) : AG (n + 1) (kSec c p s k) (rSecret r p s k) := by
  refine AG_b (h.1.has h.2.1 p) (fun e => ?_) (AG_no h t10)
  have hp := has_in h.2.1 e
  have hpl := (inb_eq hp).2
  have hns := h.2.1.cn.2.2.1
  have hK : (cHasSN c k = true) ↔ ¬ (¬ k = -1 ∧ rHasS r k = false) := by
    unfold cHasSN
    rw [h.1.hasS h.2.1]
    by_cases z : k = -1
    · simp [z]
    · simp [z]
  refine AG_n hK (fun zk => AG_b rfl (fun _ => AG_n ?_ (fun z8 => AG_p (live_p h) (fun _ => AG_no h t30) (fun _ => AG_n (cHolds_iff h) (fun _ => ?_) (fun _ => AG_no h t30))) (fun _ => AG_no h t30)) (AG_no h t20)) (fun _ => AG_no h t10)
  · rw [h.1.c37, hns.1, nN_lt8 (by omega)]
    omega
  · have eC : cSecret c p s k = secX c p.toNatClampNeg (r 11 0 p.toNatClampNeg ||| sB (nN (nsc r))) s k (nsc r) := by
      unfold cSecret cSAdd secX
      rw [u3_o (show (11 : Nat) ≠ 37 by decide), u3_o (show (11 : Nat) ≠ 23 by decide), u3_o (show (11 : Nat) ≠ 22 by decide), rI_s h 11 _ rfl, h.1.gnsc]
      rw [u3_comm (s := 37) (t := 11) (by decide), u3_comm (s := 23) (t := 11) (by decide), u3_comm (s := 22) (t := 11) (by decide)]
    have eR : rSecX r p s k = secX r p.toNatClampNeg (r 11 0 p.toNatClampNeg ||| sB (nN (nsc r))) s k (nsc r) := by
      unfold rSecX secX
      have hz := h.2.1.z0.2.2.1
      rw [zr_id (fun a i q b d he hb => by
        match d, he with
        | 0, he => cases he; exact (u3_o (by decide)).trans (hz 22 _ (by decide) (by decide) (by omega))
        | 1, he => cases he; exact (u3_o (by decide)).trans (hz 23 _ (by decide) (by decide) (by omega))
        | 2, he => cases he; exact (u3_o (by decide)).trans (hz 24 _ (by decide) (by decide) (by omega))
        | 3, he => cases he; exact (u3_o (by decide)).trans (hz 25 _ (by decide) (by decide) (by omega))
        | d + 4, he => cases he)]
      rw [u3_self (s := 24) (by rw [u3_o (by decide), u3_o (by decide), u3_o (by decide)]; exact hz 24 _ (by decide) (by decide) (Nat.le_refl _)), u3_self (s := 25) (by rw [u3_o (by decide), u3_o (by decide), u3_o (by decide)]; exact hz 25 _ (by decide) (by decide) (Nat.le_refl _))]
    rw [eC, eR]
    refine AG_do (by rw [nN_sub1, h.1.gnsc]) (secX_ST h hpl (by omega) ?_)
    by_cases z : k = -1
    · exact Or.inl z
    · refine Or.inr (hasS_in h.2.1 ?_)
      cases h9 : rHasS r k with
      | true => rfl
      | false => exact absurd ⟨z, h9⟩ zk
