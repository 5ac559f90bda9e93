/-! the class and the reference, side by side -/
def eqS (s : Nat) : Bool := (decide (3 ≤ s) && decide (s ≤ 13)) || (decide (22 ≤ s) && decide (s ≤ 32))
def EQ (c r : ab_C) : Prop := (∀ s, eqS s = true → c s 0 = r s 0) ∧ (c 35 0 0 = r 35 0 0 ∧ c 36 0 0 = r 36 0 0 ∧ c 37 0 0 = r 37 0 0 ∧ c 38 0 0 = r 38 0 0) ∧ (c 61 0 6 = r 61 0 6 ∧ c 61 0 7 = r 61 0 7 ∧ c 61 0 8 = r 61 0 8 ∧ c 61 0 9 = r 61 0 9 ∧ c 61 0 10 = r 61 0 10) ∧
  (∀ i k, i < np r → 1 ≤ k → k < 10 → ¬ r 7 0 i < nN k → c 15 i k = r 15 i k ∧ c 17 i k = r 17 i k) ∧
  ∀ u k, u < nu r → k < 12 → ((c 34 u k = r 34 u k ∧ ¬ r 34 u k < 0) ∨ (c 34 u k = -1000 ∧ r 34 u k = -1)) ∧ (np r ≤ k → r 34 u k = -1)
theorem EQ.st {c r : ab_C} (h : EQ c r) (s : Nat) (hs : eqS s = true) : c s 0 = r s 0 := h.1 s hs
theorem EQ.gnp {c r : ab_C} (h : EQ c r) : np c = np r := congrArg Int32.toNatClampNeg h.2.1.1
theorem EQ.gnh {c r : ab_C} (h : EQ c r) : nh c = nh r := congrArg Int32.toNatClampNeg h.2.1.2.1
theorem EQ.gnsc {c r : ab_C} (h : EQ c r) : nsc c = nsc r := congrArg Int32.toNatClampNeg h.2.1.2.2.1
theorem EQ.gnu {c r : ab_C} (h : EQ c r) : nu c = nu r := congrArg Int32.toNatClampNeg h.2.1.2.2.2
theorem EQ.c35 {c r : ab_C} (h : EQ c r) : c 35 0 0 = r 35 0 0 := h.2.1.1
theorem EQ.c36 {c r : ab_C} (h : EQ c r) : c 36 0 0 = r 36 0 0 := h.2.1.2.1
theorem EQ.c37 {c r : ab_C} (h : EQ c r) : c 37 0 0 = r 37 0 0 := h.2.1.2.2.1
theorem EQ.c38 {c r : ab_C} (h : EQ c r) : c 38 0 0 = r 38 0 0 := h.2.1.2.2.2
theorem EQ.d6 {c r : ab_C} (h : EQ c r) : c 61 0 6 = r 61 0 6 := h.2.2.1.1
theorem EQ.d7 {c r : ab_C} (h : EQ c r) : c 61 0 7 = r 61 0 7 := h.2.2.1.2.1
theorem EQ.d8 {c r : ab_C} (h : EQ c r) : c 61 0 8 = r 61 0 8 := h.2.2.1.2.2.1
theorem EQ.d9 {c r : ab_C} (h : EQ c r) : c 61 0 9 = r 61 0 9 := h.2.2.1.2.2.2.1
theorem EQ.d10 {c r : ab_C} (h : EQ c r) : c 61 0 10 = r 61 0 10 := h.2.2.1.2.2.2.2
theorem EQ.held {c r : ab_C} (h : EQ c r) {i k : Nat} (hi : i < np r) (h1 : 1 ≤ k) (h9 : k < 10) (hs : ¬ r 7 0 i < nN k) : c 15 i k = r 15 i k ∧ c 17 i k = r 17 i k := h.2.2.2.1 i k hi h1 h9 hs
theorem EQ.seen {c r : ab_C} (h : EQ c r) {u k : Nat} (hu : u < nu r) (hk : k < 12) : ((c 34 u k = r 34 u k ∧ ¬ r 34 u k < 0) ∨ (c 34 u k = -1000 ∧ r 34 u k = -1)) ∧ (np r ≤ k → r 34 u k = -1) := h.2.2.2.2 u k hu hk
def CN (r : ab_C) : Prop := (r 35 0 0 = nN (np r) ∧ np r ≤ 12) ∧ (r 36 0 0 = nN (nh r) ∧ nh r ≤ 4) ∧ (r 37 0 0 = nN (nsc r) ∧ nsc r ≤ 8) ∧ (r 38 0 0 = nN (nu r) ∧ nu r ≤ 12)
def Z0 (r : ab_C) : Prop := (∀ s i, 5 ≤ s → s ≤ 13 → np r ≤ i → r s 0 i = 0) ∧ (∀ s i, 3 ≤ s → s ≤ 4 → nh r ≤ i → r s 0 i = 0) ∧ (∀ s i, 22 ≤ s → s ≤ 25 → nsc r ≤ i → r s 0 i = 0) ∧ (∀ s i, 26 ≤ s → s ≤ 32 → nu r ≤ i → r s 0 i = 0)
def FO (r : ab_C) : Prop := (∀ p q, p < 12 → q < 12 → bt (r 12 0 p) q = bt (r 12 0 q) p) ∧ ∀ p q, np r ≤ q → bt (r 12 0 p) q = false
def B01 (r : ab_C) : Prop := ∀ s, s = 13 ∨ s = 24 ∨ s = 25 ∨ s = 32 → ∀ i, r s 0 i = 0 ∨ r s 0 i = 1
def DY (n : Nat) (r : ab_C) : Prop := ∃ D, D ≤ 90 * n ∧ r 61 0 6 = nN D
def RK (r : ab_C) : Prop := ∀ i, inb (r 29 0 i) 10
def INV (n : Nat) (r : ab_C) : Prop := (CN r ∧ RG r ∧ Z0 r ∧ FO r) ∧ B01 r ∧ (np r = 0 → nh r = 0) ∧ DY n r ∧ RK r
theorem INV.cn {n : Nat} {r : ab_C} (h : INV n r) : CN r := h.1.1
theorem INV.rg {n : Nat} {r : ab_C} (h : INV n r) : RG r := h.1.2.1
theorem INV.rv {n : Nat} {r : ab_C} (h : INV n r) : RV r := h.1.2.1.1
theorem INV.z0 {n : Nat} {r : ab_C} (h : INV n r) : Z0 r := h.1.2.2.1
theorem INV.fo {n : Nat} {r : ab_C} (h : INV n r) : FO r := h.1.2.2.2
theorem INV.b01 {n : Nat} {r : ab_C} (h : INV n r) : B01 r := h.2.1
theorem INV.hz {n : Nat} {r : ab_C} (h : INV n r) : np r = 0 → nh r = 0 := h.2.2.1
theorem INV.dy {n : Nat} {r : ab_C} (h : INV n r) : DY n r := h.2.2.2.1
theorem INV.rk {n : Nat} {r : ab_C} (h : INV n r) : RK r := h.2.2.2.2
theorem INV.up {n k : Nat} {r : ab_C} (h : INV n r) (hk : n ≤ k) : INV k r := by
  obtain ⟨D, hD, e⟩ := h.dy
  exact ⟨h.1, h.b01, h.hz, ⟨D, by omega, e⟩, h.rk⟩
/-- the class's own bounds, from the reference's -/
theorem CI_EQ {m : ab_M} {c r : ab_C} {n : Nat} (hR : CR m) (h : EQ c r) (hi : INV n r) : CI (wI m c) := by
  refine ⟨hR, ?_⟩
  rw [mi_wI, h.gnp, h.gnh, h.gnsc, h.gnu, h.c35, h.c36, h.c37, h.c38]
  exact hi.cn
theorem inb_0 {a : Nat} (h : 0 < a) : inb 0 a := by
  unfold inb
  rintro (z | z)
  · exact absurd z (by decide)
  · have e : (0 : Int32).toNatClampNeg = 0 := rfl
    omega
theorem CV_EQ {c r : ab_C} {n : Nat} (h : EQ c r) (hi : INV n r) (hk : KE c) (hb : BE c) : CV c := by
  obtain ⟨⟨v1, v2, v3, v4, v5, v6⟩, -, -⟩ := hi.rg
  obtain ⟨z1, z2, z3, z4⟩ := hi.z0
  obtain ⟨⟨-, n1⟩, ⟨-, n2⟩, ⟨-, n3⟩, ⟨-, n4⟩⟩ := hi.cn
  refine ⟨fun i hi => ?_, fun i hi => ?_, fun i hi => ?_, hk, fun i hi => ?_, fun i hi => ?_, fun i hi => ?_, hb⟩
  · rw [h.st 5 rfl]
    rcases Nat.lt_or_ge i (np r) with q | q
    · exact (v1 i q).imp_right (fun z => inb_up z n1)
    · rw [z1 5 i (by decide) (by decide) q]; exact Or.inr (inb_0 (by decide))
  · rw [h.st 9 rfl]
    rcases Nat.lt_or_ge i (np r) with q | q
    · exact inb_up (v2 i q) n2
    · rw [z1 9 i (by decide) (by decide) q]; exact inb_0 (by decide)
  · rw [h.st 7 rfl]
    rcases Nat.lt_or_ge i (np r) with q | q
    · exact v6 i q
    · rw [z1 7 i (by decide) (by decide) q]; exact inb_0 (by decide)
  · rw [h.st 23 rfl]
    rcases Nat.lt_or_ge i (nsc r) with q | q
    · exact (v3 i q).imp_right (fun z => inb_up z n3)
    · rw [z3 23 i (by decide) (by decide) q]; exact Or.inr (inb_0 (by decide))
  · rw [h.st 30 rfl]
    rcases Nat.lt_or_ge i (nu r) with q | q
    · exact inb_up (v5 i q) n1
    · rw [z4 30 i (by decide) (by decide) q]; exact inb_0 (by decide)
  · rw [h.st 3 rfl, h.st 4 rfl]
    rcases Nat.lt_or_ge i (nh r) with q | q
    · exact ⟨(v4 i q).1.imp_right (fun z => inb_up z n1), (v4 i q).2.imp_right (fun z => inb_up z n1)⟩
    · rw [z2 3 i (by decide) (by decide) q, z2 4 i (by decide) (by decide) q]
      exact ⟨Or.inr (inb_0 (by decide)), Or.inr (inb_0 (by decide))⟩
/-! the class's functions read nothing else -/
theorem cUnb_cg {c r : ab_C} (h : EQ c r) : ∀ k p, cUnb c k p = cUnb r k p := by
  intro k
  induction k with
  | zero => intro p; rfl
  | succ k ih =>
    intro p
    simp only [cUnb, h.st 13 rfl, h.st 3 rfl, h.st 9 rfl, h.st 5 rfl, ih]
theorem cUnd_cg {c r : ab_C} (h1 : c 11 0 = r 11 0) (h2 : c 23 0 = r 23 0) (p : Nat) : ∀ k s, cUnd c p k s = cUnd r p k s := by
  intro k
  induction k with
  | zero => intro s; rfl
  | succ k ih =>
    intro s
    simp only [cUnd, h1, h2, ih]
theorem has_rng {p x : Int32} {n : Nat} (hx : x = nN n) (hn : n < 1000) : (! decide (p < 0) && decide (p < x)) = cRng p 0 (x - 1) := by
  subst hx
  have h1 := rng_in0 (p := p) hn
  have h2 : inb p n ↔ (¬ p < 0 ∧ p < nN n) := by
    constructor
    · intro h
      obtain ⟨e, hl⟩ := inb_eq h
      have hB : p.toNatClampNeg < 2147483648 := by omega
      refine ⟨by rw [e]; exact nN_neg hB, ?_⟩
      rw [e, nN_lt hB (by omega)]; exact hl
    · rintro ⟨a, b⟩
      exact inb_lt (n := n) (L := n) (by rw [decide_eq_false a, decide_eq_true b]; rfl) rfl (Nat.le_refl _) (by omega)
  cases h9 : cRng p 0 (nN n - 1) with
  | true =>
    obtain ⟨a, b⟩ := h2.mp (h1.mp h9)
    rw [decide_eq_false a, decide_eq_true b]; rfl
  | false =>
    by_cases a : p < 0
    · rw [decide_eq_true a]; rfl
    · by_cases b : p < nN n
      · have := h1.mpr (h2.mpr ⟨a, b⟩)
        rw [h9] at this; cases this
      · rw [decide_eq_false b, Bool.and_false]
theorem EQ.has {c r : ab_C} {n : Nat} (h : EQ c r) (hi : INV n r) (p : Int32) : cHas c p = rHas r p := by
  unfold cHas rHas
  rw [h.c35]
  exact has_rng hi.cn.1.1 (by have := hi.cn.1.2; omega)
theorem EQ.hasH {c r : ab_C} {n : Nat} (h : EQ c r) (hi : INV n r) (p : Int32) : cHasH c p = rHasH r p := by
  unfold cHasH rHasH
  rw [h.c36]
  exact has_rng hi.cn.2.1.1 (by have := hi.cn.2.1.2; omega)
theorem has_in {r : ab_C} {n : Nat} (hi : INV n r) {p : Int32} (h : rHas r p = true) : inb p (np r) := (rng_in0 (n := np r) (by have := hi.cn.1.2; omega)).mp (by rw [← hi.cn.1.1]; exact h)
theorem hasH_in {r : ab_C} {n : Nat} (hi : INV n r) {p : Int32} (h : rHasH r p = true) : inb p (nh r) := (rng_in0 (n := nh r) (by have := hi.cn.2.1.2; omega)).mp (by rw [← hi.cn.2.1.1]; exact h)
