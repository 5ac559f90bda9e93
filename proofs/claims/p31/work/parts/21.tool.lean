/-! small numbers as ints; folds; the class's cells as functions -/
abbrev ab_C : Type := Nat → Nat → Nat → Int32
def nN (n : Nat) : Int32 := Int32.ofNat n
theorem nN_toInt {n : Nat} (h : n < 2147483648) : (nN n).toInt = (n : Int) := Int32.toInt_ofNat_of_lt h
theorem nN_lt {a b : Nat} (ha : a < 2147483648) (hb : b < 2147483648) : (nN a < nN b) = (a < b) := by
  rw [Int32.lt_iff_toInt_lt, nN_toInt ha, nN_toInt hb]
  exact propext (by omega)
theorem nN_succ {a : Nat} : nN a + 1 = nN (a + 1) := (Int32.ofNat_add a 1).symm
theorem nN_nat {a : Nat} (ha : a < 2147483648) : (nN a).toNatClampNeg = a := by
  show (nN a).toInt.toNat = a
  rw [nN_toInt ha]; omega
theorem nN_neg {a : Nat} (ha : a < 2147483648) : ¬ nN a < 0 := by
  rw [Int32.lt_iff_toInt_lt, nN_toInt ha]
  show ¬ (a : Int) < 0
  omega
theorem inb_nN {a L : Nat} (ha : a < 2147483648) : inb (nN a) L = (a < L) := by
  unfold inb
  rw [nN_nat ha]
  exact propext ⟨fun h => by have := nN_neg ha; omega, fun h h' => h'.elim (nN_neg ha) (fun z => by omega)⟩
theorem nN_inj {a b : Nat} (ha : a < 2147483648) (hb : b < 2147483648) : (nN a = nN b) = (a = b) := by
  refine propext ⟨fun h => ?_, fun h => h ▸ rfl⟩
  have := congrArg Int32.toInt h
  rw [nN_toInt ha, nN_toInt hb] at this
  omega
theorem inb_eq {x : Int32} {L : Nat} (h : inb x L) : x = nN x.toNatClampNeg ∧ x.toNatClampNeg < L := by
  unfold inb at h
  have h1 : ¬ x < 0 := fun z => h (Or.inl z)
  have h2 : ¬ L ≤ x.toNatClampNeg := fun z => h (Or.inr z)
  refine ⟨?_, by omega⟩
  apply Int32.toInt_inj.mp
  rw [Int32.lt_iff_toInt_lt] at h1
  have e : (0 : Int32).toInt = 0 := rfl
  rw [e] at h1
  have hb := Int32.toInt_lt x
  have e2 : x.toNatClampNeg = x.toInt.toNat := rfl
  rw [nN_toInt (by rw [e2]; omega), e2]; omega
/-- the memory with other ints -/
def wI (m : ab_M) (c : ab_C) : ab_M := (c, m.2)
theorem sI_wI (m : ab_M) (c : ab_C) (s i k : Nat) (v : Int32) : sI (wI m c) s i k v = wI m (u3 c s i k v) := rfl
theorem sI_eq (m : ab_M) (s i k : Nat) (v : Int32) : sI m s i k v = wI m (u3 (mi m) s i k v) := rfl
theorem wI_wI (m : ab_M) (c c' : ab_C) : wI (wI m c) c' = wI m c' := rfl
theorem mi_wI (m : ab_M) (c : ab_C) : mi (wI m c) = c := rfl
theorem mr_wI (m : ab_M) (c : ab_C) : mr (wI m c) = mr m := rfl
theorem mn_wI (m : ab_M) (c : ab_C) : mn (wI m c) = mn m := rfl
theorem mc_wI (m : ab_M) (c : ab_C) : mc (wI m c) = mc m := rfl
/-- s behind the steps 0 … n-1 -/
def fo {σ : Type} (f : Nat → σ → σ) (s : σ) : Nat → σ
  | 0 => s
  | n + 1 => f n (fo f s n)
theorem fo_loop {σ : Type} {f : Nat → σ → σ} {s : σ} {n : Nat} {P : Nat → σ → Prop} (hb : ∀ i a, i < n → a = fo f s i → P (i + 1) (f i a) → P i a) (he : P n (fo f s n)) : P 0 s := by
  have h : ∀ k, k ≤ n → P (n - k) (fo f s (n - k)) := by
    intro k
    induction k with
    | zero => intro _; exact he
    | succ k ih =>
      intro hk
      have e : n - k = (n - (k + 1)) + 1 := by omega
      have h := ih (by omega)
      rw [e] at h
      exact hb _ _ (by omega) rfl h
  have := h n (Nat.le_refl n)
  rw [Nat.sub_self] at this
  exact this
theorem fo_inv {σ : Type} {f : Nat → σ → σ} {s : σ} {n : Nat} (I : Nat → σ → Prop) (h0 : I 0 s) (hs : ∀ i a, i < n → I i a → I (i + 1) (f i a)) : ∀ k, k ≤ n → I k (fo f s k) := by
  intro k
  induction k with
  | zero => intro _; exact h0
  | succ k ih => intro hk; exact hs k _ (by omega) (ih (by omega))
theorem inb5 : inb 5 10 := by unfold inb; decide
def bI (b : Bool) : Int32 := if b = true then 1 else 0
theorem bI0 {b : Bool} : (bI b = 0) = (b = false) := by cases b <;> simp [bI]
theorem bI01 {b : Bool} : (bI b = 0 ∨ bI b = 1) = True := by cases b <;> simp [bI]
/-- the numbers of people, houses, secrets, utensils -/
def np (c : ab_C) : Nat := (c 35 0 0).toNatClampNeg
def nh (c : ab_C) : Nat := (c 36 0 0).toNatClampNeg
def nsc (c : ab_C) : Nat := (c 37 0 0).toNatClampNeg
def nu (c : ab_C) : Nat := (c 38 0 0).toNatClampNeg
/-- the cells of the class, and its counts within their bounds -/
def CI (m : ab_M) : Prop := CR m ∧ (mi m 35 0 0 = nN (np (mi m)) ∧ np (mi m) ≤ 12) ∧ (mi m 36 0 0 = nN (nh (mi m)) ∧ nh (mi m) ≤ 4) ∧ (mi m 37 0 0 = nN (nsc (mi m)) ∧ nsc (mi m) ≤ 8) ∧ (mi m 38 0 0 = nN (nu (mi m)) ∧ nu (mi m) ≤ 12)
theorem nN_lt12 {i : Nat} (h : i < 2147483648) : (nN i < 12) = (i < 12) := nN_lt (b := 12) h (by decide)
theorem nN_lt8 {i : Nat} (h : i < 2147483648) : (nN i < 8) = (i < 8) := nN_lt (b := 8) h (by decide)
theorem nN_lt4 {i : Nat} (h : i < 2147483648) : (nN i < 4) = (i < 4) := nN_lt (b := 4) h (by decide)
theorem nN_9lt {i : Nat} (h : i < 2147483648) : (9 < nN i) = (9 < i) := nN_lt (a := 9) (by decide) h
theorem fo_cell {f : Nat → ab_C → ab_C} {s : ab_C} {x y z : Nat} (h : ∀ i a, f i a x y z = a x y z) : ∀ k, fo f s k x y z = s x y z := by
  intro k
  induction k with
  | zero => rfl
  | succ k ih => exact (h k _).trans ih
theorem CI_wI {m : ab_M} {c : ab_C} (h : CI m) (h5 : c 35 0 0 = mi m 35 0 0) (h6 : c 36 0 0 = mi m 36 0 0) (h7 : c 37 0 0 = mi m 37 0 0) (h8 : c 38 0 0 = mi m 38 0 0) : CI (wI m c) := by
  refine ⟨h.1, ?_⟩
  have e5 : np c = np (mi m) := by unfold np; rw [h5]
  have e6 : nh c = nh (mi m) := by unfold nh; rw [h6]
  have e7 : nsc c = nsc (mi m) := by unfold nsc; rw [h7]
  have e8 : nu c = nu (mi m) := by unfold nu; rw [h8]
  rw [mi_wI, h5, h6, h7, h8, e5, e6, e7, e8]
  exact h.2

