/-! heirs, loans, repairs, secrets: the same */ -/
theorem rg_p {r : ab_C} {s i : Nat} (h1 : 5 ≤ s) (h2 : s ≤ 13) (h : i < np r) : rngS r s i := ⟨fun _ _ => h, fun z => by omega, fun z => by omega, fun z => by omega⟩
theorem rg_h {r : ab_C} {s i : Nat} (h1 : s = 3 ∨ s = 4) (h : i < nh r) : rngS r s i := ⟨fun z => by omega, fun _ => h, fun z => by omega, fun z => by omega⟩
theorem rg_s {r : ab_C} {s i : Nat} (h1 : 22 ≤ s) (h2 : s ≤ 25) (h : i < nsc r) : rngS r s i := ⟨fun _ z => by omega, fun z => by omega, fun _ _ => h, fun z => by omega⟩
theorem rg_u {r : ab_C} {s i : Nat} (h1 : 26 ≤ s) (h2 : s ≤ 32) (h : i < nu r) : rngS r s i := ⟨fun _ z => by omega, fun z => by omega, fun _ z => by omega, fun _ _ => h⟩
theorem u3_comm {c : ab_C} {s t i j k l : Nat} {v w : Int32} (h : s ≠ t) : u3 (u3 c s i k v) t j l w = u3 (u3 c t j l w) s i k v := by
  funext a b d
  simp only [u3_ap]
  by_cases e1 : a = t ∧ b = j ∧ d = l
  · by_cases e2 : a = s ∧ b = i ∧ d = k
    · exact absurd (e2.1.symm.trans e1.1) h
    · rw [if_pos e1, if_neg e2, if_pos e1]
  · by_cases e2 : a = s ∧ b = i ∧ d = k
    · rw [if_neg e1, if_pos e2, if_pos e2]
    · rw [if_neg e1, if_neg e2, if_neg e2, if_neg e1]
theorem AG_do {n : Nat} {v w : Int32} {c r : ab_C} (hv : v = w) (h : ST n c r) : AG (n + 1) (0, v, c) (0, w, r) := ⟨rfl, fun _ => hv, h.up (Nat.le_succ n)⟩
theorem live_p {c r : ab_C} {n : Nat} (h : ST n c r) {p : Int32} : (c 13 0 p.toNatClampNeg = 0) ↔ (r 13 0 p.toNatClampNeg = 0) := by rw [rI_s h 13 _ rfl]
