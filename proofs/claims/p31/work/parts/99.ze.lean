/-! the law: what holds between its calls -/
theorem CR_eq {m m' : ab_M} (h : CR m) (hr : ∀ s i k, s < 41 ∨ s = 61 → mr m' s i k = mr m s i k) (hn : ∀ s i, s < 41 ∨ s = 61 → mn m' s i = mn m s i) : CR m' := by
  obtain ⟨h1, h2, h3⟩ := h
  have a1 : ∀ x ∈ CRr, x.1.1 < 41 ∨ x.1.1 = 61 := by decide
  have a2 : ∀ x ∈ CRn, x.1 < 41 := by decide
  refine ⟨fun x hx => (hr _ _ _ (a1 x hx)).trans (h1 x hx), fun x hx => (hn _ _ (Or.inl (a2 x hx))).trans (h2 x hx), fun i hi => ?_⟩
  obtain ⟨b1, b2, b3, b4, b5, b6⟩ := h3 i hi
  exact ⟨(hr _ _ _ (by omega)).trans b1, (hr _ _ _ (by omega)).trans b2, (hr _ _ _ (by omega)).trans b3, (hn _ _ (by omega)).trans b4, (hn _ _ (by omega)).trans b5, (hn _ _ (by omega)).trans b6⟩
theorem ST_cg {n : Nat} {c c' r : ab_C} (h : ST n c r) (he : ∀ s, s < 41 ∨ s = 61 → c' s = c s) : ST n c' r := by
  refine ⟨EQ_scr h.1 (fun s i k hs => ?_), h.2.1, fun i hi => ?_, fun i hi => ?_⟩
  · have : s < 41 ∨ s = 61 := by
      rcases hs with hs | hs
      · have := eqS_ne hs; omega
      · omega
    rw [he s this]
  · rw [he 2 (by omega)]; exact h.2.2.1 i hi
  · rw [he 18 (by omega)]; exact h.2.2.2 i hi
/-! indices of the script -/
theorem Closed.sub {T T' : ab_T} {R : ab_R → Prop} {K : ab_K} (h : Closed T R K) (hs : ∀ x ∈ T', x ∈ T) : Closed T' R K := ⟨fun p f hf => h.1 p f (hs _ hf), h.2⟩
