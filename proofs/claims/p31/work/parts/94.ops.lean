/-! time passes; lessons -/
theorem ST_8 {n : Nat} {c r : ab_C} {i : Nat} {v : Int32} (h : ST n c r) (hi : i < np r) : ST n (u3 c 8 0 i v) (u3 r 8 0 i v) := ST_u h rfl (by decide) (by decide) (RG_u3 h.2.1.rg rfl) (rg_p (by decide) (by decide) hi) (by omega) (by omega)
theorem rPup_at {a b : ab_C} (h : np a = np b) (h5 : ∀ i, a 5 0 i = b 5 0 i) (h13 : ∀ i, a 13 0 i = b 13 0 i) (p : Int32) : rPupils a p = rPupils b p := by
  unfold rPupils
  rw [h]
  refine fo_congr _ (fun i x _ => ?_)
  simp only [fRp, h5, h13]
theorem fRpass_61 {d v : Int32} {r : ab_C} : ∀ k, fo (fRpass d) (u3 r 61 0 6 v) k = u3 (fo (fRpass d) r k) 61 0 6 v := by
  intro k
  induction k with
  | zero => rfl
  | succ k ih =>
    show fRpass d k (fo (fRpass d) (u3 r 61 0 6 v) k) = u3 (fRpass d k (fo (fRpass d) r k)) 61 0 6 v
    rw [ih]
    generalize fo (fRpass d) r k = b
    unfold fRpass
    have e : ∀ s i q, s ≠ 61 → u3 b 61 0 6 v s i q = b s i q := fun s i q hs => by rw [u3_ap, if_neg (fun z => hs z.1)]
    rw [e 13 _ _ (by decide), e 8 _ _ (by decide), rPup_at (a := u3 b 61 0 6 v) (b := b) rfl (fun i => e 5 _ _ (by decide)) (fun i => e 13 _ _ (by decide))]
    split
    · rfl
    · rw [u3_comm (by decide)]
theorem INV_day {n : Nat} {r : ab_C} {d : Int32} (h : INV n r) (hn : n ≤ 600) (hd : cRng d 1 90 = true) : INV (n + 1) (u3 r 61 0 6 (r 61 0 6 + d)) := by
  obtain ⟨D, hD, e⟩ := h.dy
  have hd2 : ∃ k, k ≤ 90 ∧ d = nN k := by
    unfold cRng at hd
    simp only [Bool.and_eq_true, Bool.not_eq_true', decide_eq_false_iff_not] at hd
    have h1 := hd.1
    have h2 := hd.2
    rw [Int32.lt_iff_toInt_lt] at h1 h2
    have e1 : (1 : Int32).toInt = 1 := rfl
    have e2 : (90 : Int32).toInt = 90 := rfl
    refine ⟨d.toInt.toNat, by omega, ?_⟩
    apply Int32.toInt_inj.mp
    rw [nN_toInt (by omega)]
    omega
  obtain ⟨k, hk, rfl⟩ := hd2
  have hI := h.up (Nat.le_succ n)
  have e9 : ∀ t a q, t ≠ 61 → u3 r 61 0 6 (r 61 0 6 + nN k) t a q = r t a q := fun t a q ht => by rw [u3_ap, if_neg (fun z => ht z.1)]
  obtain ⟨z1, z2, z3, z4⟩ := h.z0
  refine ⟨⟨h.cn, RG_u3 h.rg rfl, ⟨fun t j a b d => (e9 t 0 j (by omega)).trans (z1 t j a b d), fun t j a b d => (e9 t 0 j (by omega)).trans (z2 t j a b d), fun t j a b d => (e9 t 0 j (by omega)).trans (z3 t j a b d), fun t j a b d => (e9 t 0 j (by omega)).trans (z4 t j a b d)⟩, h.fo⟩, fun t ht j => ?_, h.hz, ⟨D + k, by omega, ?_⟩, h.rk⟩
  · rw [e9 t 0 j (by omega)]; exact h.b01 t ht j
  · rw [u3_ap, if_pos ⟨rfl, rfl, rfl⟩, e, nN_add]
def kPass (c : ab_C) (d : Int32) : Int32 × Int32 × ab_C := if cRng d 1 90 = true then (0, cPass c d 61 0 6, cPass c d) else (1, 0, c)
theorem o_pass {m : ab_M} {d : Int32} (h1 : CI m) : SP_X6_pass [vA 61 0, vI d] m = kout cd1 (kPass (mi m) d) m := by
  rw [e_X6_pass h1]
  simp only [kPass, kout_i, kout_0, kout_e t10, cd1]
theorem g_pass {n : Nat} {c r : ab_C} (h : ST n c r) (hn : n ≤ 600) (d : Int32) : AG (n + 1) (kPass c d) (rPass r d) := by
  refine AG_b rfl (fun e => ?_) (AG_no h t10)
  have main : ∀ k, k ≤ np r → ST n (fo (fPass d) c k) (fo (fRpass d) r k) ∧ np (fo (fRpass d) r k) = np r ∧ fo (fRpass d) r k 61 0 6 = r 61 0 6 := by
    intro k
    induction k with
    | zero => intro _; exact ⟨h, rfl, rfl⟩
    | succ k ih =>
      intro hk
      obtain ⟨h1, h2, h3⟩ := ih (by omega)
      show ST n (fPass d k (fo (fPass d) c k)) (fRpass d k (fo (fRpass d) r k)) ∧ np (fRpass d k (fo (fRpass d) r k)) = np r ∧ fRpass d k (fo (fRpass d) r k) 61 0 6 = r 61 0 6
      generalize fo (fPass d) c k = a at *
      generalize fo (fRpass d) r k = b at *
      unfold fPass fRpass
      rw [rI_s h1 13 _ rfl, rI_s h1 8 _ rfl, cPupils_eq h1.1]
      split
      · exact ⟨h1, h2, h3⟩
      · exact ⟨ST_8 h1 (by omega), h2, h3⟩
  obtain ⟨h1, h2, h3⟩ := main (np r) (Nat.le_refl _)
  have eR : rPassX r d = u3 (fo (fRpass d) r (np r)) 61 0 6 (fo (fRpass d) r (np r) 61 0 6 + d) := by
    unfold rPassX
    rw [fRpass_61, h3]
  have eC : cPass c d = u3 (fo (fPass d) c (np r)) 61 0 6 (fo (fRpass d) r (np r) 61 0 6 + d) := by
    unfold cPass
    rw [h.1.gnp, h1.1.d6]
  rw [eR, eC]
  exact ⟨rfl, fun _ => rfl, EQ_61 h1.1, INV_day h1.2.1 hn e, h1.2.2⟩
/-- the fee -/
theorem pay_ST {n : Nat} {r : ab_C} (hv : RV r) {rk : Nat → Nat} (hrk : ∀ i, i < np r → ¬ r 5 0 i = -1 → rk (r 5 0 i).toNatClampNeg < rk i) : ∀ k one left (a b : ab_C), ST n a b → np b = np r → (∀ i, b 5 0 i = r 5 0 i) → (∀ i, b 13 0 i = r 13 0 i) → ¬ one = -1 → inb one (np r) → rk one.toNatClampNeg < k → ST n (u3 (cShare k one left a).2 61 0 9 ((cShare k one left a).2 61 0 9 + (cShare k one left a).1)) (rPay r k one left b) := by
  intro k
  induction k with
  | zero => intro one left a b _ _ _ _ _ _ hk; omega
  | succ k ih =>
    intro one left a b h hnp h5 h13 ho hin hk
    have hl := (inb_eq hin).2
    unfold cShare rPay
    rw [if_neg ho, if_neg ho, rI_s h 13 _ rfl, rI_s h 5 _ rfl, rI_s h 8 _ rfl, h5, h13]
    have hend : ∀ (q : Nat) (x : Int32) (a : ab_C), cShare q (-1) x a = (x, a) := fun q x a => by cases q <;> rfl
    have hend2 : ∀ (q : Nat) (x : Int32) (a : ab_C), rPay r q (-1) x a = a := fun q x a => by cases q <;> rfl
    by_cases e1 : r 13 0 one.toNatClampNeg = 0
    · rw [if_pos e1, if_pos e1]
      by_cases e2 : r 5 0 one.toNatClampNeg = -1
      · rw [if_pos e2, e2, hend, hend2]
        show ST n (u3 a 61 0 9 (a 61 0 9 + left)) _
        rw [h.1.d9]
        exact ST_61 h (by decide)
      · rw [if_neg e2]
        exact ih _ _ _ _ h hnp h5 h13 e2 ((hv.1 _ hl).resolve_left e2) (by have := hrk _ hl e2; omega)
    · rw [if_neg e1, if_neg e1]
      have h' := ST_8 (v := b 8 0 one.toNatClampNeg + (if r 5 0 one.toNatClampNeg = -1 then left else (left + 1) / 2)) h (show one.toNatClampNeg < np b by omega)
      by_cases e2 : r 5 0 one.toNatClampNeg = -1
      · rw [if_pos e2] at h' ⊢
        rw [e2, hend, hend2, Int32.sub_self]
        show ST n (u3 (u3 a 8 0 one.toNatClampNeg (b 8 0 one.toNatClampNeg + left)) 61 0 9 (u3 a 8 0 one.toNatClampNeg (b 8 0 one.toNatClampNeg + left) 61 0 9 + 0)) _
        rw [u3_self (c := u3 a 8 0 one.toNatClampNeg (b 8 0 one.toNatClampNeg + left)) (s := 61) (i := 0) (k := 9) (Int32.add_zero _).symm]
        exact h'
      · refine ih _ _ _ _ h' hnp (fun i => ?_) (fun i => ?_) e2 ((hv.1 _ hl).resolve_left e2) (by have := hrk _ hl e2; omega)
        · rw [u3_ap, if_neg (by omega)]; exact h5 i
        · rw [u3_ap, if_neg (by omega)]; exact h13 i
/-- a step more -/
theorem ST_raise {n p k : Nat} {c r : ab_C} {t d : Int32} (h : ST n c r) (hp : p < np r) (hk : 1 ≤ k ∧ k < 10) (h7 : ∀ q, 1 ≤ q → q < 10 → q < k → ¬ r 7 0 p < nN q) : ST n (u3 (u3 (u3 c 7 0 p (nN k)) 15 p k t) 17 p k d) (u3 (u3 (u3 r 7 0 p (nN k)) 15 p k t) 17 p k d) := by
  have e : ∀ (c : ab_C) s a q, s ≠ 7 → s ≠ 15 → s ≠ 17 → u3 (u3 (u3 c 7 0 p (nN k)) 15 p k t) 17 p k d s a q = c s a q := fun c s a q h7 h15 h17 => by rw [u3_ap, if_neg (fun z => h17 z.1), u3_ap, if_neg (fun z => h15 z.1), u3_ap, if_neg (fun z => h7 z.1)]
  have e7 : ∀ (c : ab_C) a q, u3 (u3 (u3 c 7 0 p (nN k)) 15 p k t) 17 p k d 7 a q = u3 c 7 0 p (nN k) 7 a q := fun c a q => by rw [u3_ap, if_neg (by omega), u3_ap, if_neg (by omega)]
  have e15 : ∀ (c : ab_C) a q, u3 (u3 (u3 c 7 0 p (nN k)) 15 p k t) 17 p k d 15 a q = if a = p ∧ q = k then t else c 15 a q := fun c a q => by
    rw [u3_ap, if_neg (by omega), u3_ap]
    by_cases z : a = p ∧ q = k
    · rw [if_pos ⟨rfl, z⟩, if_pos z]
    · rw [if_neg (fun w => z w.2), if_neg z, u3_ap, if_neg (by omega)]
  have e17 : ∀ (c : ab_C) a q, u3 (u3 (u3 c 7 0 p (nN k)) 15 p k t) 17 p k d 17 a q = if a = p ∧ q = k then d else c 17 a q := fun c a q => by
    rw [u3_ap]
    by_cases z : a = p ∧ q = k
    · rw [if_pos ⟨rfl, z⟩, if_pos z]
    · rw [if_neg (fun w => z w.2), if_neg z, u3_ap, if_neg (by omega), u3_ap, if_neg (by omega)]
  have n1 : np (u3 (u3 (u3 r 7 0 p (nN k)) 15 p k t) 17 p k d) = np r := congrArg Int32.toNatClampNeg (e r 35 0 0 (by decide) (by decide) (by decide))
  have n4 : nu (u3 (u3 (u3 r 7 0 p (nN k)) 15 p k t) 17 p k d) = nu r := congrArg Int32.toNatClampNeg (e r 38 0 0 (by decide) (by decide) (by decide))
  have hI7 : INV n (u3 r 7 0 p (nN k)) := INV_u h.2.1 rfl (by decide) (RG_7 h.2.1.rg (by rw [inb_nN (by omega)]; omega)) (rg_p (by decide) (by decide) hp) (by omega) (by omega)
  refine ⟨⟨fun s hs => ?_, ⟨?_, ?_, ?_, ?_⟩, ⟨?_, ?_, ?_, ?_, ?_⟩, fun a q ha h1 h9 hq => ?_, fun u q hu hq => ?_⟩, INV_of hI7 (fun s i q hs => ?_), fun i hi => ?_, fun i hi => ?_⟩
  · have hn := eqS_ne hs
    funext q
    by_cases z : s = 7
    · subst z
      rw [e7, e7, u3_ap, u3_ap]
      split
      · rfl
      · exact rI_s h 7 _ rfl
    · rw [e _ _ _ _ z (by omega) (by omega), e _ _ _ _ z (by omega) (by omega)]
      exact rI_s h s _ hs
  all_goals first
    | (rw [e c _ _ _ (by decide) (by decide) (by decide), e r _ _ _ (by decide) (by decide) (by decide)]; first | exact h.1.c35 | exact h.1.c36 | exact h.1.c37 | exact h.1.c38 | exact h.1.d6 | exact h.1.d7 | exact h.1.d8 | exact h.1.d9 | exact h.1.d10)
    | skip
  · rw [e15, e15, e17, e17]
    rw [e7, u3_ap] at hq
    rw [n1] at ha
    by_cases z : a = p ∧ q = k
    · rw [if_pos z, if_pos z, if_pos z, if_pos z]; exact ⟨rfl, rfl⟩
    · rw [if_neg z, if_neg z, if_neg z, if_neg z]
      by_cases z2 : a = p
      · rw [if_pos ⟨rfl, rfl, z2⟩, nN_lt (by omega) (by omega)] at hq
        subst z2
        exact h.1.held hp h1 h9 (h7 q h1 h9 (by omega))
      · rw [if_neg (fun w => z2 w.2.2)] at hq
        exact h.1.held ha h1 h9 hq
  · rw [n4] at hu
    rw [n1, e c _ _ _ (by decide) (by decide) (by decide), e r _ _ _ (by decide) (by decide) (by decide)]
    exact h.1.seen hu hq
  · have hne : s ≠ 15 ∧ s ≠ 17 := by
      rcases hs with z | z | z
      · have := eqS_ne z; omega
      · omega
      · omega
    rw [u3_ap, if_neg (fun z => hne.2 z.1), u3_ap, if_neg (fun z => hne.1 z.1)]
  · rw [e _ _ _ _ (by decide) (by decide) (by decide)]; exact h.2.2.1 i hi
  · rw [e _ _ _ _ (by decide) (by decide) (by decide)]; exact h.2.2.2 i hi

