/-! quarrels and adoptions -/
theorem INV_of {n : Nat} {r r' : ab_C} (h : INV n r) (he : ∀ s i k, eqS s = true ∨ (35 ≤ s ∧ s ≤ 38) ∨ s = 61 → r' s i k = r s i k) : INV n r' := by
  have e : ∀ s i k, 3 ≤ s → s ≤ 13 → r' s i k = r s i k := fun s i k a b => he s i k (Or.inl (by unfold eqS; simp [a, b]))
  have e2 : ∀ s i k, 22 ≤ s → s ≤ 32 → r' s i k = r s i k := fun s i k a b => he s i k (Or.inl (by unfold eqS; simp [a, b]))
  have n1 : np r' = np r := congrArg Int32.toNatClampNeg (he 35 0 0 (by simp))
  have n2 : nh r' = nh r := congrArg Int32.toNatClampNeg (he 36 0 0 (by simp))
  have n3 : nsc r' = nsc r := congrArg Int32.toNatClampNeg (he 37 0 0 (by simp))
  have n4 : nu r' = nu r := congrArg Int32.toNatClampNeg (he 38 0 0 (by simp))
  obtain ⟨z1, z2, z3, z4⟩ := h.z0
  refine ⟨⟨?_, RG_of h.rg (fun s i k hs => ?_), ⟨fun t j a b d => ?_, fun t j a b d => ?_, fun t j a b d => ?_, fun t j a b d => ?_⟩, ?_⟩, fun t ht j => ?_, ?_, ?_, fun j => ?_⟩
  · unfold CN
    rw [n1, n2, n3, n4, he 35 _ _ (by simp), he 36 _ _ (by simp), he 37 _ _ (by simp), he 38 _ _ (by simp)]
    exact h.cn
  · unfold rgS at hs
    simp only [Bool.or_eq_true, beq_iff_eq] at hs
    refine he s i k ?_
    unfold eqS
    rcases hs with rfl | rfl | rfl | rfl | rfl | rfl | rfl | rfl | rfl | rfl | rfl <;> simp
  · rw [n1] at d; rw [e t 0 j (by omega) b]; exact z1 t j a b d
  · rw [n2] at d; rw [e t 0 j a (by omega)]; exact z2 t j a b d
  · rw [n3] at d; rw [e2 t 0 j a (by omega)]; exact z3 t j a b d
  · rw [n4] at d; rw [e2 t 0 j (by omega) b]; exact z4 t j a b d
  · unfold FO
    rw [n1]
    simp only [e 12 0 _ (by decide) (by decide)]
    exact h.fo
  · have : r' t 0 j = r t 0 j := by rcases ht with z | z | z | z <;> subst z <;> first | exact e _ _ _ (by decide) (by decide) | exact e2 _ _ _ (by decide) (by decide)
    rw [this]; exact h.b01 t ht j
  · rw [n1, n2]; exact h.hz
  · unfold DY
    rw [he 61 _ _ (by simp)]
    exact h.dy
  · rw [e2 29 _ _ (by decide) (by decide)]
    exact h.rk j
theorem u3_self {c : ab_C} {s i k : Nat} {v : Int32} (h : c s i k = v) : u3 c s i k v = c := by
  funext a b d
  rw [u3_ap]
  split
  · next e => obtain ⟨rfl, rfl, rfl⟩ := e; exact h.symm
  · rfl
/-! teachers: ranks -/
theorem bcnt_lt {f g : Nat → Bool} {x : Nat} : ∀ n, x < n → f x = false → g x = true → (∀ j, j < n → f j = true → g j = true) → bcnt f n < bcnt g n := by
  intro n
  induction n with
  | zero => intro h; omega
  | succ n ih =>
    intro hx hf hg h
    have hle : bcnt f n ≤ bcnt g n := by
      have : ∀ m, m ≤ n → bcnt f m ≤ bcnt g m := by
        intro m
        induction m with
        | zero => intro _; exact Nat.le_refl 0
        | succ m ihm =>
          intro hm
          have := ihm (by omega)
          rw [bcnt_s, bcnt_s]
          cases h9 : f m with
          | true => rw [h m (by omega) h9, if_pos rfl, if_pos rfl]; omega
          | false => rw [if_neg (by decide)]; split <;> omega
      exact this n (Nat.le_refl n)
    rw [bcnt_s, bcnt_s]
    by_cases e : x = n
    · subst e
      rw [hf, hg, if_neg (by decide), if_pos rfl]; omega
    · have := ih (by omega) hf hg (fun j hj => h j (by omega))
      cases h9 : f n with
      | true => rw [h n (by omega) h9, if_pos rfl, if_pos rfl]; omega
      | false => rw [if_neg (by decide)]; split <;> omega
theorem bcnt_tt : ∀ n, bcnt (fun _ => true) n = n := by
  intro n
  induction n with
  | zero => rfl
  | succ n ih => rw [bcnt_s, if_pos rfl, ih]
/-- any ranks will do -/
theorem AC_of {c : ab_C} (hn : np c ≤ 12) (hv : ∀ i, i < np c → c 5 0 i = -1 ∨ inb (c 5 0 i) (np c)) (rk : Nat → Nat) (h : ∀ i, i < np c → ¬ c 5 0 i = -1 → rk (c 5 0 i).toNatClampNeg < rk i) : AC c := by
  refine ⟨fun i => bcnt (fun j => decide (rk j < rk i)) (np c), fun i hi => ⟨?_, fun hne => ?_⟩⟩
  · have := bcnt_lt (f := fun j => decide (rk j < rk i)) (g := fun _ => true) (np c) hi (decide_eq_false (Nat.lt_irrefl _)) rfl (fun _ _ _ => rfl)
    rw [bcnt_tt] at this
    show bcnt (fun j => decide (rk j < rk i)) (np c) < 12
    omega
  · have ht := (inb_eq ((hv i hi).resolve_left hne)).2
    have h1 := h i hi hne
    refine bcnt_lt (np c) ht (decide_eq_false (Nat.lt_irrefl _)) (decide_eq_true h1) (fun j hj hl => ?_)
    have := of_decide_eq_true hl
    exact decide_eq_true (by omega)
