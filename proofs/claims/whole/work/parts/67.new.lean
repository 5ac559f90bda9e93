/-! new people, houses, secrets, utensils of the reference -/
def zr (c : ab_C) (S n : Nat) : ab_C := fun s i k => match lc s i k with
  | some x => if x.1 = S ∧ x.2.1 = n then 0 else c s i k
  | none => c s i k
theorem rc_alz {m : ab_M} {S L w : Nat} : rc (al m S L w) = zr (rc m) S (mc m S) := by
  funext s i k
  cases h9 : lc s i k with
  | none => simp only [rc, zr, h9]
  | some x =>
    simp only [rc, zr, h9, mi_al, u2]
    split <;> rfl
theorem Rls_of2 {m m' : ab_M} {s n : Nat} {f : Nat → Nat × Nat} (h : Rls m s n f) (hs : isS s) (hr : ∀ s i k, s = 1 ∨ s = 59 ∨ s = 65 ∨ isS s → mr m' s i k = mr m s i k) (hn : ∀ s i, s = 1 ∨ s = 59 ∨ s = 65 ∨ isS s → mn m' s i = mn m s i) (hz : mi m' s 0 2 = mi m s 0 2) : Rls m' s n f := by
  obtain ⟨⟨h1, h2, h3⟩, h4, h5, h6, h7⟩ := h
  have e : ela m' (s, 0) = ela m (s, 0) := by unfold ela; rw [hr _ _ _ (Or.inr (Or.inr (Or.inr hs)))]
  have hk : ∀ x, SK x = 104 → x = 1 ∨ x = 59 ∨ x = 65 := by
    intro x hx
    by_cases hb : x < 66
    · have : ∀ y, y < 66 → SK y = 104 → y = 1 ∨ y = 59 ∨ y = 65 := by decide
      exact this x hb hx
    · exfalso
      unfold SK at hx
      rw [List.getD_eq_getElem?_getD, List.getElem?_eq_none (by show 66 ≤ x; omega)] at hx
      cases hx
  have e104 : (ela m (s, 0)).1 = 1 ∨ (ela m (s, 0)).1 = 59 ∨ (ela m (s, 0)).1 = 65 ∨ isS (ela m (s, 0)).1 := by
    rcases hk _ h3 with z | z | z
    · exact Or.inl z
    · exact Or.inr (Or.inl z)
    · exact Or.inr (Or.inr (Or.inl z))
  refine ⟨⟨h1, by rw [e, hr _ _ _ (Or.inr (Or.inr (Or.inr hs)))]; exact h2, by rw [e]; exact h3⟩, by rw [hz]; exact h4, ?_, ?_, fun i hi => ?_⟩
  · rw [e, hn _ _ e104]; exact h5
  · rw [e, hn _ _ e104]; exact h6
  · rw [e, hr _ _ _ e104]; exact h7 i hi
/-- cells are new, but those that the reference's lists need lie as they did -/
theorem RM_of2 {m m' : ab_M} (h : RM m) (hr : ∀ s i k, s = 1 ∨ s = 59 ∨ s = 65 ∨ isS s ∨ s = 62 → mr m' s i k = mr m s i k) (hn : ∀ s i, s = 1 ∨ s = 59 ∨ s = 65 ∨ isS s → mn m' s i = mn m s i) (hz : mi m' 44 0 2 = mi m 44 0 2 ∧ mi m' 45 0 2 = mi m 45 0 2 ∧ mi m' 46 0 2 = mi m 46 0 2 ∧ mi m' 47 0 2 = mi m 47 0 2)
    (h9 : ∀ i, i < 12 → mr m' 48 i 9 = some (41, i) ∧ mr m' 48 i 10 = some (42, i) ∧ mn m' 41 i = 10 ∧ mn m' 42 i = 10 ∧ mr m' 53 i 7 = some (43, i) ∧ mn m' 43 i = 12) (h8 : ∀ i, i < 8 → mn m' 52 i = 4) (h4 : ∀ i, i < 4 → mn m' (hrow i).1 (hrow i).2 = 2) : RM m' := by
  obtain ⟨⟨a1, a2, a3, a4⟩, ⟨b1, b2⟩, ⟨c1, c2⟩, ⟨d1, d2⟩, ⟨e1, e2⟩, f1, f2, f3⟩ := h
  obtain ⟨z1, z2, z3, z4⟩ := hz
  have n1 : np (rc m') = np (rc m) := congrArg Int32.toNatClampNeg z1
  have n2 : nh (rc m') = nh (rc m) := congrArg Int32.toNatClampNeg z2
  have n3 : nsc (rc m') = nsc (rc m) := congrArg Int32.toNatClampNeg z3
  have n4 : nu (rc m') = nu (rc m) := congrArg Int32.toNatClampNeg z4
  have h62 := fun k => hr 62 0 k (Or.inr (Or.inr (Or.inr (Or.inr rfl))))
  have hr' : ∀ s i k, s = 1 ∨ s = 59 ∨ s = 65 ∨ isS s → mr m' s i k = mr m s i k := fun s i k hs => hr s i k (by rcases hs with z | z | z | z; exact Or.inl z; exact Or.inr (Or.inl z); exact Or.inr (Or.inr (Or.inl z)); exact Or.inr (Or.inr (Or.inr (Or.inl z))))
  refine ⟨⟨(h62 1).trans a1, (h62 2).trans a2, (h62 3).trans a3, (h62 4).trans a4⟩, ⟨?_, ?_⟩, ⟨?_, ?_⟩, ⟨?_, ?_⟩, ⟨?_, ?_⟩, h9, h8, h4⟩
  · rw [n1]; exact Rls_of2 b1 (Or.inl rfl) hr' hn z1
  · rw [n1]; exact b2
  · rw [n2]; exact Rls_of2 c1 (Or.inr (Or.inl rfl)) hr' hn z2
  · rw [n2]; exact c2
  · rw [n3]; exact Rls_of2 d1 (Or.inr (Or.inr (Or.inl rfl))) hr' hn z3
  · rw [n3]; exact d2
  · rw [n4]; exact Rls_of2 e1 (Or.inr (Or.inr (Or.inr rfl))) hr' hn z4
  · rw [n4]; exact e2
theorem RC2_of {m m' : ab_M} (h : RC2 m) (hr : ∀ s i k, isS s → mr m' s i k = mr m s i k) (hn : ∀ s i, s = 1 ∨ s = 59 ∨ s = 65 → mn m' s i = mn m s i) (hc : ∀ s, s = 59 ∨ s = 65 → mc m' s = mc m s) (hz : ∀ s, isS s → mi m' s 0 2 = mi m s 0 2) : RC2 m' := by
  have he : ∀ s, isS s → ela m' (s, 0) = ela m (s, 0) := fun s hs => by unfold ela; rw [hr _ _ _ hs]
  refine ⟨(hn 1 0 (Or.inl rfl)).trans h.1, fun s hs => ?_, fun s t hs ht => ?_⟩
  · unfold LI
    rw [he s hs, hc 59 (Or.inl rfl), hc 65 (Or.inr rfl), hn 59 _ (Or.inr (Or.inl rfl)), hn 65 _ (Or.inr (Or.inr rfl)), hz s hs]
    exact h.2.1 s hs
  · rw [he s hs, he t ht]; exact h.2.2 s t hs ht
theorem RC.c2 {m : ab_M} (h : RC m) : RC2 m := h.2.2.2.2

theorem RM_AD44 {m m' : ab_M} {x e' : Nat × Nat} (h : RM m) (hc : RC2 m) (hA : AD m m' 44 (np (rc m)) x e') (hx : (fun i => (48, i)) (np (rc m)) = x) (hn : np (rc m) < 12) : RM m' ∧ RC2 m' := by
  obtain ⟨⟨a1, a2, a3, a4⟩, ⟨b1, b2⟩, ⟨c1, c2⟩, ⟨d1, d2⟩, ⟨e1, e2⟩, f1, f2, f3⟩ := h
  have g0 := hA.1
  have rcm := hA.grc (S := 35) (Or.inl rfl) rfl rfl
  have n0 : np (rc m') = np (rc m) + 1 := by rw [rcm]; unfold np; rw [u3_ap, if_pos ⟨rfl, rfl, rfl⟩]; exact nN_nat (by show np (rc m) + 1 < _; omega)
  have l0 := hA.self b1 hx
  have n1 : nh (rc m') = nh (rc m) := by rw [rcm]; unfold nh; rw [u3_ap, if_neg (fun z => absurd z.1 (by decide))]
  have l1 := hA.other (Or.inl rfl) (Or.inr (Or.inl rfl)) (by decide) hc c1
  have n2 : nsc (rc m') = nsc (rc m) := by rw [rcm]; unfold nsc; rw [u3_ap, if_neg (fun z => absurd z.1 (by decide))]
  have l2 := hA.other (Or.inl rfl) (Or.inr (Or.inr (Or.inl rfl))) (by decide) hc d1
  have n3 : nu (rc m') = nu (rc m) := by rw [rcm]; unfold nu; rw [u3_ap, if_neg (fun z => absurd z.1 (by decide))]
  have l3 := hA.other (Or.inl rfl) (Or.inr (Or.inr (Or.inr rfl))) (by decide) hc e1
  have m62 : ∀ k, mr m' 62 0 k = mr m 62 0 k := fun k => ((g0 62 0 (by decide) (by decide)).1 k).2.1 (fun z => absurd z.1 (by decide))
  have m48 : ∀ i k, mr m' 48 i k = mr m 48 i k := fun i k => ((g0 48 i (by decide) (by decide)).1 k).2.1 (fun z => absurd z.1 (by decide))
  have m53 : ∀ i k, mr m' 53 i k = mr m 53 i k := fun i k => ((g0 53 i (by decide) (by decide)).1 k).2.1 (fun z => absurd z.1 (by decide))
  have hmn : ∀ t i, t ≠ 59 → t ≠ 65 → mn m' t i = mn m t i := fun t i h1 h2 => (g0 t i h1 h2).2
  refine ⟨⟨⟨(m62 1).trans a1, (m62 2).trans a2, (m62 3).trans a3, (m62 4).trans a4⟩, ⟨?_, ?_⟩, ⟨?_, ?_⟩, ⟨?_, ?_⟩, ⟨?_, ?_⟩, fun i hi => ?_, fun i hi => (hmn 52 i (by decide) (by decide)).trans (f2 i hi), fun i hi => ?_⟩, hA.rc2 (Or.inl rfl) b1 hx hc (fun t ht hne => ?_)⟩
  · rw [n0]; exact l0.1
  · rw [n0]; omega
  · rw [n1]; exact l1.1
  · rw [n1]; exact c2
  · rw [n2]; exact l2.1
  · rw [n2]; exact d2
  · rw [n3]; exact l3.1
  · rw [n3]; exact e2
  · obtain ⟨p1, p2, p3, p4, p5, p6⟩ := f1 i hi
    exact ⟨(m48 i 9).trans p1, (m48 i 10).trans p2, (hmn 41 i (by decide) (by decide)).trans p3, (hmn 42 i (by decide) (by decide)).trans p4, (m53 i 7).trans p5, (hmn 43 i (by decide) (by decide)).trans p6⟩
  · rw [hmn _ _ (by rcases hrow_c i with e | e <;> rw [e] <;> decide) (by rcases hrow_c i with e | e <;> rw [e] <;> decide)]; exact f3 i hi
  · rcases ht with rfl | rfl | rfl | rfl
    · exact ⟨_, _, b1⟩
    · exact ⟨_, _, c1⟩
    · exact ⟨_, _, d1⟩
    · exact ⟨_, _, e1⟩
theorem RM_AD45 {m m' : ab_M} {x e' : Nat × Nat} (h : RM m) (hc : RC2 m) (hA : AD m m' 45 (nh (rc m)) x e') (hx : hrow (nh (rc m)) = x) (hn : nh (rc m) < 4) : RM m' ∧ RC2 m' := by
  obtain ⟨⟨a1, a2, a3, a4⟩, ⟨b1, b2⟩, ⟨c1, c2⟩, ⟨d1, d2⟩, ⟨e1, e2⟩, f1, f2, f3⟩ := h
  have g0 := hA.1
  have rcm := hA.grc (S := 36) (Or.inr (Or.inl rfl)) rfl rfl
  have n0 : np (rc m') = np (rc m) := by rw [rcm]; unfold np; rw [u3_ap, if_neg (fun z => absurd z.1 (by decide))]
  have l0 := hA.other (Or.inr (Or.inl rfl)) (Or.inl rfl) (by decide) hc b1
  have n1 : nh (rc m') = nh (rc m) + 1 := by rw [rcm]; unfold nh; rw [u3_ap, if_pos ⟨rfl, rfl, rfl⟩]; exact nN_nat (by show nh (rc m) + 1 < _; omega)
  have l1 := hA.self c1 hx
  have n2 : nsc (rc m') = nsc (rc m) := by rw [rcm]; unfold nsc; rw [u3_ap, if_neg (fun z => absurd z.1 (by decide))]
  have l2 := hA.other (Or.inr (Or.inl rfl)) (Or.inr (Or.inr (Or.inl rfl))) (by decide) hc d1
  have n3 : nu (rc m') = nu (rc m) := by rw [rcm]; unfold nu; rw [u3_ap, if_neg (fun z => absurd z.1 (by decide))]
  have l3 := hA.other (Or.inr (Or.inl rfl)) (Or.inr (Or.inr (Or.inr rfl))) (by decide) hc e1
  have m62 : ∀ k, mr m' 62 0 k = mr m 62 0 k := fun k => ((g0 62 0 (by decide) (by decide)).1 k).2.1 (fun z => absurd z.1 (by decide))
  have m48 : ∀ i k, mr m' 48 i k = mr m 48 i k := fun i k => ((g0 48 i (by decide) (by decide)).1 k).2.1 (fun z => absurd z.1 (by decide))
  have m53 : ∀ i k, mr m' 53 i k = mr m 53 i k := fun i k => ((g0 53 i (by decide) (by decide)).1 k).2.1 (fun z => absurd z.1 (by decide))
  have hmn : ∀ t i, t ≠ 59 → t ≠ 65 → mn m' t i = mn m t i := fun t i h1 h2 => (g0 t i h1 h2).2
  refine ⟨⟨⟨(m62 1).trans a1, (m62 2).trans a2, (m62 3).trans a3, (m62 4).trans a4⟩, ⟨?_, ?_⟩, ⟨?_, ?_⟩, ⟨?_, ?_⟩, ⟨?_, ?_⟩, fun i hi => ?_, fun i hi => (hmn 52 i (by decide) (by decide)).trans (f2 i hi), fun i hi => ?_⟩, hA.rc2 (Or.inr (Or.inl rfl)) c1 hx hc (fun t ht hne => ?_)⟩
  · rw [n0]; exact l0.1
  · rw [n0]; exact b2
  · rw [n1]; exact l1.1
  · rw [n1]; omega
  · rw [n2]; exact l2.1
  · rw [n2]; exact d2
  · rw [n3]; exact l3.1
  · rw [n3]; exact e2
  · obtain ⟨p1, p2, p3, p4, p5, p6⟩ := f1 i hi
    exact ⟨(m48 i 9).trans p1, (m48 i 10).trans p2, (hmn 41 i (by decide) (by decide)).trans p3, (hmn 42 i (by decide) (by decide)).trans p4, (m53 i 7).trans p5, (hmn 43 i (by decide) (by decide)).trans p6⟩
  · rw [hmn _ _ (by rcases hrow_c i with e | e <;> rw [e] <;> decide) (by rcases hrow_c i with e | e <;> rw [e] <;> decide)]; exact f3 i hi
  · rcases ht with rfl | rfl | rfl | rfl
    · exact ⟨_, _, b1⟩
    · exact ⟨_, _, c1⟩
    · exact ⟨_, _, d1⟩
    · exact ⟨_, _, e1⟩
theorem RM_AD46 {m m' : ab_M} {x e' : Nat × Nat} (h : RM m) (hc : RC2 m) (hA : AD m m' 46 (nsc (rc m)) x e') (hx : (fun i => (52, i)) (nsc (rc m)) = x) (hn : nsc (rc m) < 8) : RM m' ∧ RC2 m' := by
  obtain ⟨⟨a1, a2, a3, a4⟩, ⟨b1, b2⟩, ⟨c1, c2⟩, ⟨d1, d2⟩, ⟨e1, e2⟩, f1, f2, f3⟩ := h
  have g0 := hA.1
  have rcm := hA.grc (S := 37) (Or.inr (Or.inr (Or.inl rfl))) rfl rfl
  have n0 : np (rc m') = np (rc m) := by rw [rcm]; unfold np; rw [u3_ap, if_neg (fun z => absurd z.1 (by decide))]
  have l0 := hA.other (Or.inr (Or.inr (Or.inl rfl))) (Or.inl rfl) (by decide) hc b1
  have n1 : nh (rc m') = nh (rc m) := by rw [rcm]; unfold nh; rw [u3_ap, if_neg (fun z => absurd z.1 (by decide))]
  have l1 := hA.other (Or.inr (Or.inr (Or.inl rfl))) (Or.inr (Or.inl rfl)) (by decide) hc c1
  have n2 : nsc (rc m') = nsc (rc m) + 1 := by rw [rcm]; unfold nsc; rw [u3_ap, if_pos ⟨rfl, rfl, rfl⟩]; exact nN_nat (by show nsc (rc m) + 1 < _; omega)
  have l2 := hA.self d1 hx
  have n3 : nu (rc m') = nu (rc m) := by rw [rcm]; unfold nu; rw [u3_ap, if_neg (fun z => absurd z.1 (by decide))]
  have l3 := hA.other (Or.inr (Or.inr (Or.inl rfl))) (Or.inr (Or.inr (Or.inr rfl))) (by decide) hc e1
  have m62 : ∀ k, mr m' 62 0 k = mr m 62 0 k := fun k => ((g0 62 0 (by decide) (by decide)).1 k).2.1 (fun z => absurd z.1 (by decide))
  have m48 : ∀ i k, mr m' 48 i k = mr m 48 i k := fun i k => ((g0 48 i (by decide) (by decide)).1 k).2.1 (fun z => absurd z.1 (by decide))
  have m53 : ∀ i k, mr m' 53 i k = mr m 53 i k := fun i k => ((g0 53 i (by decide) (by decide)).1 k).2.1 (fun z => absurd z.1 (by decide))
  have hmn : ∀ t i, t ≠ 59 → t ≠ 65 → mn m' t i = mn m t i := fun t i h1 h2 => (g0 t i h1 h2).2
  refine ⟨⟨⟨(m62 1).trans a1, (m62 2).trans a2, (m62 3).trans a3, (m62 4).trans a4⟩, ⟨?_, ?_⟩, ⟨?_, ?_⟩, ⟨?_, ?_⟩, ⟨?_, ?_⟩, fun i hi => ?_, fun i hi => (hmn 52 i (by decide) (by decide)).trans (f2 i hi), fun i hi => ?_⟩, hA.rc2 (Or.inr (Or.inr (Or.inl rfl))) d1 hx hc (fun t ht hne => ?_)⟩
  · rw [n0]; exact l0.1
  · rw [n0]; exact b2
  · rw [n1]; exact l1.1
  · rw [n1]; exact c2
  · rw [n2]; exact l2.1
  · rw [n2]; omega
  · rw [n3]; exact l3.1
  · rw [n3]; exact e2
  · obtain ⟨p1, p2, p3, p4, p5, p6⟩ := f1 i hi
    exact ⟨(m48 i 9).trans p1, (m48 i 10).trans p2, (hmn 41 i (by decide) (by decide)).trans p3, (hmn 42 i (by decide) (by decide)).trans p4, (m53 i 7).trans p5, (hmn 43 i (by decide) (by decide)).trans p6⟩
  · rw [hmn _ _ (by rcases hrow_c i with e | e <;> rw [e] <;> decide) (by rcases hrow_c i with e | e <;> rw [e] <;> decide)]; exact f3 i hi
  · rcases ht with rfl | rfl | rfl | rfl
    · exact ⟨_, _, b1⟩
    · exact ⟨_, _, c1⟩
    · exact ⟨_, _, d1⟩
    · exact ⟨_, _, e1⟩
theorem RM_AD47 {m m' : ab_M} {x e' : Nat × Nat} (h : RM m) (hc : RC2 m) (hA : AD m m' 47 (nu (rc m)) x e') (hx : (fun i => (53, i)) (nu (rc m)) = x) (hn : nu (rc m) < 12) : RM m' ∧ RC2 m' := by
  obtain ⟨⟨a1, a2, a3, a4⟩, ⟨b1, b2⟩, ⟨c1, c2⟩, ⟨d1, d2⟩, ⟨e1, e2⟩, f1, f2, f3⟩ := h
  have g0 := hA.1
  have rcm := hA.grc (S := 38) (Or.inr (Or.inr (Or.inr rfl))) rfl rfl
  have n0 : np (rc m') = np (rc m) := by rw [rcm]; unfold np; rw [u3_ap, if_neg (fun z => absurd z.1 (by decide))]
  have l0 := hA.other (Or.inr (Or.inr (Or.inr rfl))) (Or.inl rfl) (by decide) hc b1
  have n1 : nh (rc m') = nh (rc m) := by rw [rcm]; unfold nh; rw [u3_ap, if_neg (fun z => absurd z.1 (by decide))]
  have l1 := hA.other (Or.inr (Or.inr (Or.inr rfl))) (Or.inr (Or.inl rfl)) (by decide) hc c1
  have n2 : nsc (rc m') = nsc (rc m) := by rw [rcm]; unfold nsc; rw [u3_ap, if_neg (fun z => absurd z.1 (by decide))]
  have l2 := hA.other (Or.inr (Or.inr (Or.inr rfl))) (Or.inr (Or.inr (Or.inl rfl))) (by decide) hc d1
  have n3 : nu (rc m') = nu (rc m) + 1 := by rw [rcm]; unfold nu; rw [u3_ap, if_pos ⟨rfl, rfl, rfl⟩]; exact nN_nat (by show nu (rc m) + 1 < _; omega)
  have l3 := hA.self e1 hx
  have m62 : ∀ k, mr m' 62 0 k = mr m 62 0 k := fun k => ((g0 62 0 (by decide) (by decide)).1 k).2.1 (fun z => absurd z.1 (by decide))
  have m48 : ∀ i k, mr m' 48 i k = mr m 48 i k := fun i k => ((g0 48 i (by decide) (by decide)).1 k).2.1 (fun z => absurd z.1 (by decide))
  have m53 : ∀ i k, mr m' 53 i k = mr m 53 i k := fun i k => ((g0 53 i (by decide) (by decide)).1 k).2.1 (fun z => absurd z.1 (by decide))
  have hmn : ∀ t i, t ≠ 59 → t ≠ 65 → mn m' t i = mn m t i := fun t i h1 h2 => (g0 t i h1 h2).2
  refine ⟨⟨⟨(m62 1).trans a1, (m62 2).trans a2, (m62 3).trans a3, (m62 4).trans a4⟩, ⟨?_, ?_⟩, ⟨?_, ?_⟩, ⟨?_, ?_⟩, ⟨?_, ?_⟩, fun i hi => ?_, fun i hi => (hmn 52 i (by decide) (by decide)).trans (f2 i hi), fun i hi => ?_⟩, hA.rc2 (Or.inr (Or.inr (Or.inr rfl))) e1 hx hc (fun t ht hne => ?_)⟩
  · rw [n0]; exact l0.1
  · rw [n0]; exact b2
  · rw [n1]; exact l1.1
  · rw [n1]; exact c2
  · rw [n2]; exact l2.1
  · rw [n2]; exact d2
  · rw [n3]; exact l3.1
  · rw [n3]; omega
  · obtain ⟨p1, p2, p3, p4, p5, p6⟩ := f1 i hi
    exact ⟨(m48 i 9).trans p1, (m48 i 10).trans p2, (hmn 41 i (by decide) (by decide)).trans p3, (hmn 42 i (by decide) (by decide)).trans p4, (m53 i 7).trans p5, (hmn 43 i (by decide) (by decide)).trans p6⟩
  · rw [hmn _ _ (by rcases hrow_c i with e | e <;> rw [e] <;> decide) (by rcases hrow_c i with e | e <;> rw [e] <;> decide)]; exact f3 i hi
  · rcases ht with rfl | rfl | rfl | rfl
    · exact ⟨_, _, b1⟩
    · exact ⟨_, _, c1⟩
    · exact ⟨_, _, d1⟩
    · exact ⟨_, _, e1⟩
