/-! the lists grow by one -/
def AD (m m' : ab_M) (s n : Nat) (x e' : Nat × Nat) : Prop :=
  (∀ t i, t ≠ 59 → t ≠ 65 → (∀ k, (¬ (t = s ∧ i = 0 ∧ (k = 0 ∨ k = 2)) → mi m' t i k = mi m t i k) ∧ (¬ (t = s ∧ i = 0 ∧ k = 1) → mr m' t i k = mr m t i k) ∧ ml m' t i k = ml m t i k ∧ md m' t i k = md m t i k) ∧ mn m' t i = mn m t i) ∧
  (mi m' s 0 2 = nN (n + 1) ∧ mr m' s 0 1 = some e') ∧
  (∀ t, mc m t ≤ mc m' t ∧ (t ≠ 59 → t ≠ 65 → mc m' t = mc m t)) ∧
  (∀ t i, t = 59 ∨ t = 65 → i < mc m t → ¬ (t, i) = ela m (s, 0) → (∀ k, mr m' t i k = mr m t i k) ∧ mn m' t i = mn m t i) ∧
  (((e'.1 = 59 ∧ mn m' 59 e'.2 = 10) ∨ (e'.1 = 65 ∧ mn m' 65 e'.2 = 15)) ∧ e'.2 < mc m' e'.1 ∧ n + 1 ≤ mn m' e'.1 e'.2) ∧
  (e' = ela m (s, 0) ∨ mc m e'.1 ≤ e'.2) ∧
  ((∀ i, i < n → mr m' e'.1 e'.2 i = mr m (ela m (s, 0)).1 (ela m (s, 0)).2 i) ∧ mr m' e'.1 e'.2 n = some x) ∧
  ((mnc m ≤ mnc m' ∧ mns m ≤ mns m') ∧ mnc m' ≤ mnc m + 1 ∧ mns m' ≤ mns m + 15)
theorem add_AD {m : ab_M} {s n : Nat} {f : Nat → Nat × Nat} {x : Nat × Nat} (hf : ∀ i, (SK (f i).1 = 9 ∨ SK (f i).1 = 10 ∨ SK (f i).1 = 100) ∧ 2 ≤ (f i).1) (hs : isS s) (hL : Rls m s n f) (hI : LI m s) (h1 : mn m 1 0 = 0) (hn : n ≤ 12) (hx : (SK x.1 = 9 ∨ SK x.1 = 10 ∨ SK x.1 = 100) ∧ 2 ≤ x.1) : ∃ m' e', SP_Jx4a65c_add_9ea2d [vA s 0, vR (some x)] m = okV (vI 1) m' ∧ AD m m' s n x e' := by
  obtain ⟨⟨l1, l2, l3⟩, l4, l5, l6, l7⟩ := id hL
  have hnB : n < 2147483648 := by omega
  have en : (mi m s 0 2).toNatClampNeg = n := by rw [l4, nN_nat hnB]
  have hs59 : s ≠ 59 ∧ s ≠ 65 ∧ s ≠ 1 := by rcases hs with rfl | rfl | rfl | rfl <;> decide
  have pu : PUc m (s, 0) x (mi m (s, 0).1 (s, 0).2 2).toNatClampNeg := by
    show PUc m (s, 0) x (mi m s 0 2).toNatClampNeg
    rw [en]
    refine ⟨⟨l1, l2, l3, l4⟩, hx, ?_⟩
    rcases hI with ⟨e, z⟩ | ⟨e, ec, z⟩ | ⟨e, -, z⟩
    · refine Or.inl ⟨e, h1, ?_⟩
      rw [l4] at z
      exact (nN_inj (a := n) (b := 0) hnB (by decide)).mp z
    · by_cases q : n = 10
      · refine Or.inr (Or.inl ⟨by rw [e]; exact z, q, fun y => ?_, ⟨show 2 ≤ (ela m (s, 0)).1 by rw [e]; decide, show (ela m (s, 0)).2 < mc m (ela m (s, 0)).1 by rw [e]; exact ec, fun k y hk hy => ?_⟩⟩)
        · rw [y] at e; cases e
        · have hk2 : k < mn m (ela m (s, 0)).1 (ela m (s, 0)).2 := hk
          rw [e, z] at hk2
          have := l7 k (by omega)
          have hy2 : mr m (ela m (s, 0)).1 (ela m (s, 0)).2 k = some y := hy
          rw [this] at hy2
          cases hy2
          exact hf k
      · rw [e, z] at l5
        refine Or.inr (Or.inr ⟨by rw [e, z]; omega, l6, by rw [e]; decide⟩)
    · exact Or.inr (Or.inr ⟨by rw [e, z]; omega, l6, by rw [e]; decide⟩)
  have ea := e_Jx4a65c_add_9ea2d (m := m) (o := (s, 0)) (x := x) pu
  simp only at ea
  rw [en] at ea
  generalize hv : mi m s 0 0 + 1 = v at ea
  have ee : ela (sI m s 0 0 v) (s, 0) = ela m (s, 0) := rfl
  rcases hI with ⟨e, z⟩ | ⟨e, ec, z⟩ | ⟨e, ec, z⟩
  · -- the first entry
    have n0 : n = 0 := by rw [l4] at z; exact (nN_inj (a := n) (b := 0) hnB (by decide)).mp z
    subst n0
    have c1 : mr (sI m s 0 0 v) s 0 1 = some (1, 0) := l2.trans (by rw [e])
    have em : mPut (sI m s 0 0 v) (s, 0) x 0 = sI (sR (sR (al (sI m s 0 0 v) 59 10 10) s 0 1 (some (59, mc m 59))) 59 (mc m 59) 0 (some x)) s 0 2 (nN 0 + 1) := by
      unfold mPut
      rw [ee, e, if_pos (show (0 : Nat) = mn (sI m s 0 0 v) (1, 0).1 (1, 0).2 from h1.symm), grM_1 (m := sI m s 0 0 v) (o := (s, 0)) c1, grA_1 (m := sI m s 0 0 v) (o := (s, 0)) c1]
      rfl
    refine ⟨_, (59, mc m 59), ea, ?_⟩
    rw [em]
    refine ⟨fun t i h59 h65 => ⟨fun k => ⟨fun hk => ?_, fun hk => ?_, ?_, ?_⟩, ?_⟩, ⟨?_, ?_⟩, fun t => ⟨?_, fun h59 _ => ?_⟩, fun t i ht hi hne => ⟨fun k => ?_, ?_⟩, ⟨Or.inl ⟨rfl, ?_⟩, ?_, ?_⟩, Or.inr (Nat.le_refl _), ⟨fun i hi => absurd hi (Nat.not_lt_zero _), ?_⟩, ?_⟩
    · rw [mi_sI, u3_ap, if_neg (fun y => hk ⟨y.1, y.2.1, Or.inr y.2.2⟩), mi_sR, mi_sR, mi_al, u2_ap, if_neg (fun y => h59 y.1), mi_sI, u3_ap, if_neg (fun y => hk ⟨y.1, y.2.1, Or.inl y.2.2⟩)]
    · rw [mr_sI, mr_sR, u3_ap, if_neg (fun y => h59 y.1), mr_sR, u3_ap, if_neg hk, mr_al, u2_ap, if_neg (fun y => h59 y.1)]; rfl
    · rw [ml_sI, ml_sR, ml_sR, ml_al, u2_ap, if_neg (fun y => h59 y.1)]; rfl
    · rw [md_sI, md_sR, md_sR, md_al, u2_ap, if_neg (fun y => h59 y.1)]; rfl
    · rw [mn_sI, mn_sR, mn_sR, mn_al, u2_ap, if_neg (fun y => h59 y.1)]; rfl
    · rw [mi_sI, u3_ap, if_pos ⟨rfl, rfl, rfl⟩, nN_succ]
    · rw [mr_sI, mr_sR, u3_ap, if_neg (fun y => hs59.1 y.1), mr_sR, u3_ap, if_pos ⟨rfl, rfl, rfl⟩]
    · rw [mc_sI, mc_sR, mc_sR, mc_al]; unfold u1; split
      · next y => rw [y]; exact Nat.le_succ _
      · exact Nat.le_refl _
    · rw [mc_sI, mc_sR, mc_sR, mc_al]; exact if_neg h59
    · rw [mr_sI, mr_sR, u3_ap, if_neg (fun y => by have := y.2.1; have := y.1; subst this; omega), mr_sR, u3_ap, if_neg (fun y => by rcases ht with q | q <;> rw [q] at y <;> omega), mr_al, u2_ap, if_neg (fun y => by have := y.1; subst this; have := y.2; rw [mc_sI] at this; omega)]; rfl
    · rw [mn_sI, mn_sR, mn_sR, mn_al, u2_ap, if_neg (fun y => by have := y.1; subst this; have := y.2; rw [mc_sI] at this; omega)]; rfl
    · rw [mn_sI, mn_sR, mn_sR, mn_al, u2_ap, if_pos ⟨rfl, rfl⟩]
    · show mc m 59 < u1 (mc m) 59 (mc m 59 + 1) 59
      unfold u1; rw [if_pos rfl]; exact Nat.lt_succ_self _
    · show 0 + 1 ≤ mn _ 59 (mc m 59)
      rw [mn_sI, mn_sR, mn_sR, mn_al, u2_ap, if_pos ⟨rfl, rfl⟩]; decide
    · rw [mr_sI, mr_sR, u3_ap, if_pos ⟨rfl, rfl, rfl⟩]
    · exact ⟨⟨Nat.le_add_right _ _, Nat.le_add_right _ _⟩, Nat.le_refl _, Nat.add_le_add_left (by decide) _⟩
  · rw [e, z] at l5
    by_cases q : n = 10
    · -- full
      subst q
      have c1 : ¬ mr (sI m s 0 0 v) s 0 1 = some (1, 0) := by
        show ¬ mr m s 0 1 = some (1, 0)
        rw [show mr m s 0 1 = some (ela m (s, 0)) from l2]
        intro y
        rw [Option.some.inj y] at e; cases e
      have em : mPut (sI m s 0 0 v) (s, 0) x 10 = sI (sR (sR (sC (sI m s 0 0 v) (ela m (s, 0)) 15) s 0 1 (some (65, mc m 65))) 65 (mc m 65) 10 (some x)) s 0 2 (nN 10 + 1) := by
        unfold mPut
        rw [ee, if_pos (show (10 : Nat) = mn (sI m s 0 0 v) (ela m (s, 0)).1 (ela m (s, 0)).2 by rw [mn_sI, e, z]), grM_2 (m := sI m s 0 0 v) (o := (s, 0)) c1, grA_2 (m := sI m s 0 0 v) (o := (s, 0)) c1]
        rfl
      refine ⟨_, (65, mc m 65), ea, ?_⟩
      rw [em]
      refine ⟨fun t i h59 h65 => ⟨fun k => ⟨fun hk => ?_, fun hk => ?_, ?_, ?_⟩, ?_⟩, ⟨?_, ?_⟩, fun t => ⟨?_, fun _ h65 => ?_⟩, fun t i ht hi hne => ⟨fun k => ?_, ?_⟩, ⟨Or.inr ⟨rfl, ?_⟩, ?_, ?_⟩, Or.inr (Nat.le_refl _), ⟨fun i hi => ?_, ?_⟩, ?_⟩
      · rw [mi_sI, u3_ap, if_neg (fun y => hk ⟨y.1, y.2.1, Or.inr y.2.2⟩), mi_sR, mi_sR, mi_sC, mi_al, u2_ap, if_neg (fun y => h65 y.1), mi_sI, u3_ap, if_neg (fun y => hk ⟨y.1, y.2.1, Or.inl y.2.2⟩)]
      · rw [mr_sI, mr_sR, u3_ap, if_neg (fun y => h65 y.1), mr_sR, u3_ap, if_neg hk, mr_sC, if_neg (fun y => h65 y.1)]; rfl
      · rw [ml_sI, ml_sR, ml_sR, ml_sC, ml_al, u2_ap, if_neg (fun y => h65 y.1)]; rfl
      · rw [md_sI, md_sR, md_sR, md_sC, md_al, u2_ap, if_neg (fun y => h65 y.1)]; rfl
      · rw [mn_sI, mn_sR, mn_sR, mn_sC, mn_al, u2_ap, if_neg (fun y => h65 y.1)]; rfl
      · rw [mi_sI, u3_ap, if_pos ⟨rfl, rfl, rfl⟩, nN_succ]
      · rw [mr_sI, mr_sR, u3_ap, if_neg (fun y => hs59.2.1 y.1), mr_sR, u3_ap, if_pos ⟨rfl, rfl, rfl⟩]
      · rw [mc_sI, mc_sR, mc_sR, mc_sC, mc_al]; unfold u1; split
        · next y => rw [y]; exact Nat.le_succ _
        · exact Nat.le_refl _
      · rw [mc_sI, mc_sR, mc_sR, mc_sC, mc_al]; exact if_neg h65
      · rw [mr_sI, mr_sR, u3_ap, if_neg (fun y => by have := y.2.1; have := y.1; subst this; omega), mr_sR, u3_ap, if_neg (fun y => by rcases ht with q | q <;> rw [q] at y <;> omega), mr_sC, if_neg (fun y => by have := y.1; subst this; have := y.2; rw [mc_sI] at this; omega)]; rfl
      · rw [mn_sI, mn_sR, mn_sR, mn_sC, mn_al, u2_ap, if_neg (fun y => by have := y.1; subst this; have := y.2; rw [mc_sI] at this; omega)]; rfl
      · rw [mn_sI, mn_sR, mn_sR, mn_sC, mn_al, u2_ap, if_pos ⟨rfl, rfl⟩]
      · show mc m 65 < u1 (mc m) 65 (mc m 65 + 1) 65
        unfold u1; rw [if_pos rfl]; exact Nat.lt_succ_self _
      · show 10 + 1 ≤ mn _ 65 (mc m 65)
        rw [mn_sI, mn_sR, mn_sR, mn_sC, mn_al, u2_ap, if_pos ⟨rfl, rfl⟩]; decide
      · show mr _ 65 (mc m 65) i = _
        rw [mr_sI, mr_sR, u3_ap, if_neg (fun y => by have := y.2.2; omega), mr_sR, u3_ap, if_neg (fun y => hs59.2.1 y.1.symm), mr_sC, if_pos ⟨rfl, rfl⟩, if_pos (by show i < mn m (ela m (s, 0)).1 (ela m (s, 0)).2; rw [e, z]; exact hi)]
        rfl
      · rw [mr_sI, mr_sR, u3_ap, if_pos ⟨rfl, rfl, rfl⟩]
      · exact ⟨⟨Nat.le_add_right _ _, Nat.le_add_right _ _⟩, Nat.le_refl _, Nat.le_refl _⟩
    · have em : mPut (sI m s 0 0 v) (s, 0) x n = sI (sR (sI m s 0 0 v) (ela m (s, 0)).1 (ela m (s, 0)).2 n (some x)) s 0 2 (nN n + 1) := by
        unfold mPut
        rw [ee, if_neg (show ¬ n = mn (sI m s 0 0 v) (ela m (s, 0)).1 (ela m (s, 0)).2 by rw [mn_sI, e, z]; exact q)]
      refine ⟨_, ela m (s, 0), ea, ?_⟩
      rw [em]
      refine ⟨fun t i h59 h65 => ⟨fun k => ⟨fun hk => ?_, fun hk => ?_, rfl, rfl⟩, rfl⟩, ⟨?_, ?_⟩, fun t => ⟨Nat.le_refl _, fun _ _ => rfl⟩, fun t i ht hi hne => ⟨fun k => ?_, rfl⟩, ⟨Or.inl ⟨e, z⟩, by rw [e]; exact ec, ?_⟩, Or.inl rfl, ⟨fun i hi => ?_, ?_⟩, ⟨⟨Nat.le_refl _, Nat.le_refl _⟩, Nat.le_succ _, Nat.le_add_right _ _⟩⟩
      · rw [mi_sI, u3_ap, if_neg (fun y => hk ⟨y.1, y.2.1, Or.inr y.2.2⟩), mi_sR, mi_sI, u3_ap, if_neg (fun y => hk ⟨y.1, y.2.1, Or.inl y.2.2⟩)]
      · rw [mr_sI, mr_sR, u3_ap, if_neg (fun y => h59 (y.1.trans e))]; rfl
      · rw [mi_sI, u3_ap, if_pos ⟨rfl, rfl, rfl⟩, nN_succ]
      · rw [mr_sI, mr_sR, u3_ap, if_neg (fun y => hs59.1 (y.1.trans e))]; exact l2
      · rw [mr_sI, mr_sR, u3_ap, if_neg (fun y => hne (Prod.ext y.1 y.2.1))]; rfl
      · show n + 1 ≤ mn m (ela m (s, 0)).1 (ela m (s, 0)).2
        rw [e, z]; omega
      · rw [mr_sI, mr_sR, u3_ap, if_neg (fun y => by have := y.2.2; omega)]; rfl
      · rw [mr_sI, mr_sR, u3_ap, if_pos ⟨rfl, rfl, rfl⟩]
  · rw [e, z] at l5
    have em : mPut (sI m s 0 0 v) (s, 0) x n = sI (sR (sI m s 0 0 v) (ela m (s, 0)).1 (ela m (s, 0)).2 n (some x)) s 0 2 (nN n + 1) := by
      unfold mPut
      rw [ee, if_neg (show ¬ n = mn (sI m s 0 0 v) (ela m (s, 0)).1 (ela m (s, 0)).2 by rw [mn_sI, e, z]; omega)]
    refine ⟨_, ela m (s, 0), ea, ?_⟩
    rw [em]
    refine ⟨fun t i h59 h65 => ⟨fun k => ⟨fun hk => ?_, fun hk => ?_, rfl, rfl⟩, rfl⟩, ⟨?_, ?_⟩, fun t => ⟨Nat.le_refl _, fun _ _ => rfl⟩, fun t i ht hi hne => ⟨fun k => ?_, rfl⟩, ⟨Or.inr ⟨e, z⟩, by rw [e]; exact ec, ?_⟩, Or.inl rfl, ⟨fun i hi => ?_, ?_⟩, ⟨⟨Nat.le_refl _, Nat.le_refl _⟩, Nat.le_succ _, Nat.le_add_right _ _⟩⟩
    · rw [mi_sI, u3_ap, if_neg (fun y => hk ⟨y.1, y.2.1, Or.inr y.2.2⟩), mi_sR, mi_sI, u3_ap, if_neg (fun y => hk ⟨y.1, y.2.1, Or.inl y.2.2⟩)]
    · rw [mr_sI, mr_sR, u3_ap, if_neg (fun y => h65 (y.1.trans e))]; rfl
    · rw [mi_sI, u3_ap, if_pos ⟨rfl, rfl, rfl⟩, nN_succ]
    · rw [mr_sI, mr_sR, u3_ap, if_neg (fun y => hs59.2.1 (y.1.trans e))]; exact l2
    · rw [mr_sI, mr_sR, u3_ap, if_neg (fun y => hne (Prod.ext y.1 y.2.1))]; rfl
    · show n + 1 ≤ mn m (ela m (s, 0)).1 (ela m (s, 0)).2
      rw [e, z]; omega
    · rw [mr_sI, mr_sR, u3_ap, if_neg (fun y => by have := y.2.2; omega)]; rfl
    · rw [mr_sI, mr_sR, u3_ap, if_pos ⟨rfl, rfl, rfl⟩]
/-- what the lists' arrays satisfy -/
def RC2 (m : ab_M) : Prop := mn m 1 0 = 0 ∧ (∀ s, isS s → LI m s) ∧ (∀ s t, isS s → isS t → s ≠ t → ela m (s, 0) = ela m (t, 0) → (ela m (s, 0)).1 = 1)
theorem isS_ne {s : Nat} (h : isS s) : s ≠ 59 ∧ s ≠ 65 ∧ s ≠ 1 := by rcases h with rfl | rfl | rfl | rfl <;> decide
theorem AD.other {m m' : ab_M} {s n k t : Nat} {x e' : Nat × Nat} {g : Nat → Nat × Nat} (h : AD m m' s n x e') (hs : isS s) (ht : isS t) (hne : t ≠ s) (hc : RC2 m) (hL : Rls m t k g) : Rls m' t k g ∧ ela m' (t, 0) = ela m (t, 0) ∧ mi m' t 0 2 = mi m t 0 2 ∧ mn m' (ela m (t, 0)).1 (ela m (t, 0)).2 = mn m (ela m (t, 0)).1 (ela m (t, 0)).2 := by
  obtain ⟨⟨l1, l2, l3⟩, l4, l5, l6, l7⟩ := id hL
  obtain ⟨a1, a2, a3, a4, a5, a6, a7, a8⟩ := h
  have tn := isS_ne ht
  have e : ela m' (t, 0) = ela m (t, 0) := by
    unfold ela
    rw [((a1 t 0 tn.1 tn.2.1).1 1).2.1 (fun z => hne z.1)]
  have key : (∀ i, mr m' (ela m (t, 0)).1 (ela m (t, 0)).2 i = mr m (ela m (t, 0)).1 (ela m (t, 0)).2 i) ∧ mn m' (ela m (t, 0)).1 (ela m (t, 0)).2 = mn m (ela m (t, 0)).1 (ela m (t, 0)).2 := by
    have hnn : ¬ (ela m (t, 0)).1 = 1 → ¬ ((ela m (t, 0)).1, (ela m (t, 0)).2) = ela m (s, 0) := fun z y => z (hc.2.2 t s ht hs hne y)
    rcases hc.2.1 t ht with ⟨z, -⟩ | ⟨z, y, -⟩ | ⟨z, y, -⟩
    · rw [z]
      have h1s := (isS_ne hs).2.2
      exact ⟨fun i => ((a1 1 0 (by decide) (by decide)).1 i).2.1 (fun q => h1s q.1.symm), (a1 1 0 (by decide) (by decide)).2⟩
    · have := a4 (ela m (t, 0)).1 (ela m (t, 0)).2 (Or.inl z) (by rw [z]; exact y) (hnn (by rw [z]; decide))
      exact this
    · have := a4 (ela m (t, 0)).1 (ela m (t, 0)).2 (Or.inr z) (by rw [z]; exact y) (hnn (by rw [z]; decide))
      exact this
  have hz : mi m' t 0 2 = mi m t 0 2 := ((a1 t 0 tn.1 tn.2.1).1 2).1 (fun z => hne z.1)
  refine ⟨⟨⟨l1, ?_, by rw [e]; exact l3⟩, by rw [hz]; exact l4, by rw [e, key.2]; exact l5, by rw [e, key.2]; exact l6, fun i hi => by rw [e, key.1]; exact l7 i hi⟩, e, hz, key.2⟩
  rw [e]
  exact (((a1 t 0 tn.1 tn.2.1).1 1).2.1 (fun z => hne z.1)).trans l2
theorem AD.self {m m' : ab_M} {s n : Nat} {x e' : Nat × Nat} {f : Nat → Nat × Nat} (h : AD m m' s n x e') (hL : Rls m s n f) (hf : f n = x) : Rls m' s (n + 1) f ∧ ela m' (s, 0) = e' := by
  obtain ⟨⟨l1, l2, l3⟩, l4, l5, l6, l7⟩ := id hL
  obtain ⟨a1, a2, a3, a4, a5, a6, a7, a8⟩ := h
  have e : ela m' (s, 0) = e' := by unfold ela; rw [a2.2]; rfl
  refine ⟨⟨⟨l1, by rw [e]; exact a2.2, ?_⟩, a2.1, by rw [e]; exact a5.2.2, ?_, fun i hi => ?_⟩, e⟩
  · rw [e]
    rcases a5.1 with z | z <;> rw [z.1] <;> rfl
  · rw [e]
    rcases a5.1 with z | z <;> rw [z.1, z.2] <;> decide
  · rw [e]
    by_cases q : i = n
    · subst q; rw [a7.2, hf]
    · rw [a7.1 i (by omega)]; exact l7 i (by omega)
theorem AD.rc2 {m m' : ab_M} {s n : Nat} {x e' : Nat × Nat} {f : Nat → Nat × Nat} (h : AD m m' s n x e') (hs : isS s) (hL : Rls m s n f) (hf : f n = x) (hc : RC2 m) (hLs : ∀ t, isS t → t ≠ s → ∃ k g, Rls m t k g) : RC2 m' := by
  have hself := h.self hL hf
  have hoth : ∀ t, isS t → t ≠ s → ela m' (t, 0) = ela m (t, 0) ∧ mi m' t 0 2 = mi m t 0 2 ∧ mn m' (ela m (t, 0)).1 (ela m (t, 0)).2 = mn m (ela m (t, 0)).1 (ela m (t, 0)).2 := by
    intro t ht hne
    obtain ⟨k, g, hg⟩ := hLs t ht hne
    exact (h.other hs ht hne hc hg).2
  obtain ⟨a1, a2, a3, a4, a5, a6, a7, a8⟩ := h
  have hlt : ∀ t, isS t → ¬ (ela m (t, 0)).1 = 1 → (ela m (t, 0)).2 < mc m (ela m (t, 0)).1 := by
    intro t ht z
    rcases hc.2.1 t ht with ⟨q, -⟩ | ⟨q, y, -⟩ | ⟨q, y, -⟩
    · exact absurd (by rw [q]) z
    · rw [q]; exact y
    · rw [q]; exact y
  have he1 : ¬ e'.1 = 1 := by rcases a5.1 with z | z <;> rw [z.1] <;> decide
  refine ⟨((a1 1 0 (by decide) (by decide)).2).trans hc.1, fun t ht => ?_, fun t u ht hu hne he => ?_⟩
  · by_cases q : t = s
    · subst q
      unfold LI
      rw [hself.2]
      rcases a5.1 with z | z
      · exact Or.inr (Or.inl ⟨z.1, by have := a5.2.1; rw [z.1] at this; exact this, z.2⟩)
      · exact Or.inr (Or.inr ⟨z.1, by have := a5.2.1; rw [z.1] at this; exact this, z.2⟩)
    · obtain ⟨o1, o2, o3⟩ := hoth t ht q
      unfold LI
      rw [o1, o2]
      rcases hc.2.1 t ht with ⟨z, y⟩ | ⟨z, y, w⟩ | ⟨z, y, w⟩
      · exact Or.inl ⟨z, y⟩
      · rw [z] at o3
        exact Or.inr (Or.inl ⟨z, Nat.lt_of_lt_of_le y (a3 59).1, o3.trans w⟩)
      · rw [z] at o3
        exact Or.inr (Or.inr ⟨z, Nat.lt_of_lt_of_le y (a3 65).1, o3.trans w⟩)
  · have hx : ∀ t, isS t → t ≠ s → ela m (t, 0) = e' → False := by
      intro t ht hne he
      rcases a6 with z | z
      · exact he1 (by rw [← he]; exact hc.2.2 t s ht hs hne (he.trans z))
      · have := hlt t ht (by rw [he]; exact he1)
        rw [he] at this; omega
    by_cases q : t = s
    · subst q
      rw [hself.2, (hoth u hu (Ne.symm hne)).1] at he
      exact (hx u hu (Ne.symm hne) he.symm).elim
    · by_cases q2 : u = s
      · subst q2
        rw [hself.2, (hoth t ht q).1] at he
        exact (hx t ht q he).elim
      · rw [(hoth t ht q).1] at he ⊢
        rw [(hoth u hu q2).1] at he
        exact hc.2.2 t u ht hu hne he
theorem AD.fr {m m' : ab_M} {s n : Nat} {x e' : Nat × Nat} (h : AD m m' s n x e') (hs : isS s) : FR m m' 1 15 := by
  obtain ⟨a1, a2, a3, a4, a5, a6, a7, a8⟩ := h
  have hsf : frS s = false := by rcases hs with rfl | rfl | rfl | rfl <;> rfl
  have hne : ∀ t, frS t = true → t ≠ 59 ∧ t ≠ 65 ∧ t ≠ s := by
    intro t ht
    refine ⟨?_, ?_, ?_⟩
    · rintro rfl; cases ht
    · rintro rfl; cases ht
    · rintro rfl; rw [hsf] at ht; cases ht
  refine ⟨fun t ht => ?_, fun t => (a3 t).1, a8.1, a8.2⟩
  obtain ⟨h1, h2, h3⟩ := hne t ht
  refine ⟨?_, ?_, ?_, ?_, ?_, (a3 t).2 h1 h2⟩
  · funext i k; exact ((a1 t i h1 h2).1 k).1 (fun z => h3 z.1)
  · funext i k; exact ((a1 t i h1 h2).1 k).2.1 (fun z => h3 z.1)
  · funext i k; exact ((a1 t i h1 h2).1 k).2.2.1
  · funext i k; exact ((a1 t i h1 h2).1 k).2.2.2
  · funext i; exact (a1 t i h1 h2).2
theorem AD.grc {m m' : ab_M} {s n S : Nat} {x e' : Nat × Nat} (h : AD m m' s n x e') (hs : isS s) (hS : lc S 0 0 = some (s, 0, 2)) (h0 : lci s 0 0 = none) : rc m' = u3 (rc m) S 0 0 (nN (n + 1)) := by
  obtain ⟨a1, a2, -⟩ := h
  funext s' i' k'
  rw [u3_ap]
  unfold rc
  cases h9 : lc s' i' k' with
  | none =>
    rw [if_neg]
    rintro ⟨rfl, rfl, rfl⟩
    rw [hS] at h9; cases h9
  | some y =>
    have hy := (lc_gb h9).2
    have y1 : y.1 ≠ 59 ∧ y.1 ≠ 65 := by omega
    by_cases q : y = (s, 0, 2)
    · subst q
      have g1 := (lc_lci h9).symm.trans (lc_lci hS)
      have g3 := Option.some.inj g1
      rw [if_pos ⟨congrArg Prod.fst g3, congrArg (fun q => q.2.1) g3, congrArg (fun q => q.2.2) g3⟩]
      exact a2.1
    · rw [if_neg]
      · refine ((a1 y.1 y.2.1 y1.1 y1.2).1 y.2.2).1 ?_
        rintro ⟨z1, z2, z3 | z3⟩
        · have := lc_lci h9
          rw [z1, z2, z3, h0] at this; cases this
        · exact q (Prod.ext z1 (Prod.ext z2 z3))
      · rintro ⟨rfl, rfl, rfl⟩
        rw [hS] at h9
        exact q (Option.some.inj h9).symm
