/-! the best plan: the same, whichever way it is sought -/
def mg (b : Option (Nat → Int32)) (x : Nat → Int32) : Option (Nat → Int32) := some (match b with
  | none => x
  | some b => if b 4 < x 4 then x else b)
def fB2 (F : (Nat → Int32) → Nat → Int32) (c : ab_C) (kd : Nat) (h : Int32) (ch : Nat → Int32) : Nat → Option (Nat → Int32) → Option (Nat → Int32) := fun i b =>
  if i < nu c then (if rCan c i (nN kd) h = true then mg b (F (updI ch kd (nN i))) else b) else mg b (F (updI ch kd (-1)))
def rB (c : ab_C) (h g : Int32) : Nat → (Nat → Int32) → Nat → Int32
  | 0, ch => fun q => if q < 4 then ch q else rPlan c ch g
  | k + 1, ch => (fo (fB2 (rB c h g k) c (3 - k) h ch) none (nu c + 1)).getD (fun _ => 0)
theorem updI_p (w : Nat → Int32) (p : Nat) (x : Int32) : updI w p x p = x := if_pos rfl
theorem updI_ne (w : Nat → Int32) {p i : Nat} {x : Int32} (h : i ≠ p) : updI w p x i = w i := if_neg h
theorem fRth_cg {c : ab_C} {ch ch' : Nat → Int32} {k : Nat} {a : Int32} (h : ∀ q, q ≤ k → ch q = ch' q) : fo (fRth c ch k) a k = fo (fRth c ch' k) a k := by
  refine fo_congr _ (fun i b hi => ?_)
  simp only [fRth]
  rw [h i (by omega), h k (Nat.le_refl _)]
theorem rPk_cg {c : ab_C} {ch ch' : Nat → Int32} {g : Int32} {n : Nat} (h : ∀ q, q < n → ch q = ch' q) : fo (fRpl c ch g) 0 n = fo (fRpl c ch' g) 0 n := by
  refine fo_congr _ (fun i b hi => ?_)
  simp only [fRpl]
  rw [h i hi, fRth_cg (fun q hq => h q (by omega))]
theorem rB_cg {c : ab_C} {h g : Int32} : ∀ k, k ≤ 4 → ∀ ch ch' : Nat → Int32, (∀ q, q < 4 - k → ch q = ch' q) → rB c h g k ch = rB c h g k ch' := by
  intro k
  induction k with
  | zero =>
    intro _ ch ch' he
    funext q
    unfold rB
    rw [show rPlan c ch g = rPlan c ch' g from rPk_cg he]
    split
    · next hq => exact he q hq
    · rfl
  | succ k ih =>
    intro hk ch ch' he
    unfold rB
    refine congrArg (fun z : Option (Nat → Int32) => z.getD (fun _ => 0)) (fo_congr _ (fun i b hi => ?_))
    have e : ∀ x, rB c h g k (updI ch (3 - k) x) = rB c h g k (updI ch' (3 - k) x) := fun x => ih (by omega) _ _ (fun q hq => by
      unfold updI
      split
      · rfl
      · exact he q (by omega))
    simp only [fB2, e]
theorem rBest_rB {c : ab_C} {h g : Int32} : ∀ k, k ≤ 4 → ∀ ch, (rBest c h g k ch).2 = rB c h g k ch := by
  intro k
  induction k with
  | zero => intro _ ch; rfl
  | succ k ih =>
    intro hk ch
    have main : ∀ n, (∀ q, q < 3 - k → (fo (fRb (rBest c h g k) c (3 - k) h) (ch, none) n).1 q = ch q) ∧ (fo (fRb (rBest c h g k) c (3 - k) h) (ch, none) n).2 = fo (fB2 (rB c h g k) c (3 - k) h ch) none n := by
      intro n
      induction n with
      | zero => exact ⟨fun _ _ => rfl, rfl⟩
      | succ n ihn =>
        obtain ⟨a1, a2⟩ := ihn
        have e1 : fo (fRb (rBest c h g k) c (3 - k) h) (ch, none) (n + 1) = fRb (rBest c h g k) c (3 - k) h n (fo (fRb (rBest c h g k) c (3 - k) h) (ch, none) n) := rfl
        have e2 : fo (fB2 (rB c h g k) c (3 - k) h ch) none (n + 1) = fB2 (rB c h g k) c (3 - k) h ch n (fo (fB2 (rB c h g k) c (3 - k) h ch) none n) := rfl
        rw [e1, e2, ← a2]
        generalize fo (fRb (rBest c h g k) c (3 - k) h) (ch, none) n = S at *
        have hp : ∀ x q, q < 3 - k → (rBest c h g k (updI S.1 (3 - k) x)).1 q = ch q := fun x q hq => by
          rw [rBest_pre k (by omega) _ q (by omega), updI_ne _ (by omega)]
          exact a1 q hq
        have hb : ∀ x, (rBest c h g k (updI S.1 (3 - k) x)).2 = rB c h g k (updI ch (3 - k) x) := fun x => by
          rw [ih (by omega)]
          refine rB_cg k (by omega) _ _ (fun q hq => ?_)
          unfold updI
          split
          · rfl
          · exact a1 q (by omega)
        unfold fRb fB2
        split
        · split
          · exact ⟨fun q hq => hp _ q hq, by simp only [fRb1, hb, mg]; cases S.2 <;> rfl⟩
          · exact ⟨a1, rfl⟩
        · exact ⟨fun q hq => hp _ q hq, by simp only [fRb1, hb, mg]; cases S.2 <;> rfl⟩
    show (fo (fRb (rBest c h g k) c (3 - k) h) (ch, none) (nu c + 1)).2.getD (fun _ => 0) = _
    rw [(main _).2]
    rfl
/-! bounds of worths -/
def bd (x : Int32) (a b : Int) : Prop := a ≤ x.toInt ∧ x.toInt ≤ b
theorem bd_sub {x y : Int32} {a b d : Int} (h : bd x a b) (hy : y.toInt = -d) (hd : 0 ≤ d ∧ d ≤ 1000) (ha : -100000 ≤ a) (hb : b ≤ 100000) : bd (x + y) (a - d) b := by
  obtain ⟨h1, h2⟩ := h
  have e := fb_addI (x := x) (y := y) (by omega) (by omega)
  unfold bd
  rw [e]
  omega
theorem fo_bd {f : Nat → Int32 → Int32} {s : Int32} {d : Nat} {a b : Int} (hd : d ≤ 1000) (ha : -10000 ≤ a) (hb : b ≤ 100000) (h : ∀ i x, f i x = x ∨ ∃ y : Int32, y.toInt = -(d : Int) ∧ f i x = x + y) (h0 : bd s a b) : ∀ n, n ≤ 12 → bd (fo f s n) (a - n * d) b := by
  intro n
  induction n with
  | zero => intro _; obtain ⟨h1, h2⟩ := h0; exact ⟨by show a - _ ≤ s.toInt; omega, h2⟩
  | succ n ih =>
    intro hn
    have h1 := ih (by omega)
    have hx : n * d ≤ 12 * 1000 := Nat.mul_le_mul (by omega) hd
    have e : ((n + 1 : Nat) : Int) * (d : Int) = n * d + d := by rw [Int.natCast_add, Int.add_mul]; simp
    have hc : ((n * d : Nat) : Int) = (n : Int) * (d : Int) := Int.natCast_mul n d
    have hx2 : (n : Int) * (d : Int) ≤ 12000 := by rw [← hc]; omega
    have hx3 : 0 ≤ (n : Int) * (d : Int) := by rw [← hc]; omega
    show bd (f n (fo f s n)) _ _
    rw [e]
    rcases h n (fo f s n) with z | ⟨y, hy, z⟩
    · rw [z]
      obtain ⟨g1, g2⟩ := h1
      exact ⟨by omega, g2⟩
    · rw [z]
      have := bd_sub h1 hy ⟨by omega, by omega⟩ (by omega) hb
      obtain ⟨g1, g2⟩ := this
      exact ⟨by omega, g2⟩
theorem m3_int : (-3 : Int32).toInt = -((3 : Nat) : Int) := by decide
theorem m4_int : (-4 : Int32).toInt = -((4 : Nat) : Int) := by decide
theorem rWorth_bd {r : ab_C} {n u : Nat} {g : Int32} (hi : INV n r) : bd (rWorth r u g) (-36) 9 := by
  have h0 : bd (r 29 0 u) 0 9 := by
    obtain ⟨k, hk, e⟩ := nN_ex (hi.rk u)
    unfold bd
    rw [e, nN_toInt (by omega)]
    omega
  have h12 := hi.cn.1.2
  have := fo_bd (f := fRw r u g) (d := 3) (by decide) (by decide) (by decide) (fun i x => by
    unfold fRw
    split
    · split
      · exact Or.inr ⟨-3, m3_int, rfl⟩
      · exact Or.inl rfl
    · exact Or.inl rfl) h0 (np r) h12
  obtain ⟨h1, h2⟩ := this
  refine ⟨?_, h2⟩
  show -36 ≤ (fo (fRw r u g) (r 29 0 u) (np r)).toInt
  have : ((np r : Nat) : Int) ≤ 12 := by omega
  omega
theorem rPk_bd {r : ab_C} {n : Nat} {ch : Nat → Int32} {g : Int32} (hi : INV n r) : ∀ k, k ≤ 4 → bd (fo (fRpl r ch g) 0 k) (-(48 * k)) (9 * k) := by
  intro k
  induction k with
  | zero => intro _; exact ⟨(by decide : (-(48 * ((0 : Nat) : Int))) ≤ (0 : Int32).toInt), (by decide : (0 : Int32).toInt ≤ 9 * ((0 : Nat) : Int))⟩
  | succ k ih =>
    intro hk
    obtain ⟨a1, a2⟩ := ih (by omega)
    show bd (fRpl r ch g k (fo (fRpl r ch g) 0 k)) _ _
    generalize fo (fRpl r ch g) 0 k = S at *
    unfold fRpl
    split
    · exact ⟨by omega, by omega⟩
    · obtain ⟨w1, w2⟩ := rWorth_bd (u := (ch k).toNatClampNeg) (g := g) hi
      have e := fb_addI (x := S) (y := rWorth r (ch k).toNatClampNeg g) (by omega) (by omega)
      have := fo_bd (f := fRth r ch k) (s := S + rWorth r (ch k).toNatClampNeg g) (d := 4) (a := -(48 * k) - 36) (b := 9 * k + 9) (by decide) (by omega) (by omega) (fun i x => by
        unfold fRth
        split
        · exact Or.inl rfl
        · split
          · exact Or.inr ⟨-4, m4_int, rfl⟩
          · exact Or.inl rfl) ⟨by rw [e]; omega, by rw [e]; omega⟩ k (by omega)
      obtain ⟨g1, g2⟩ := this
      exact ⟨by omega, by omega⟩
theorem mg_bd {b : Option (Nat → Int32)} {x : Nat → Int32} (hb : ∀ F, b = some F → bd (F 4) (-192) 36) (hx : bd (x 4) (-192) 36) : ∀ F, mg b x = some F → bd (F 4) (-192) 36 := by
  intro F e
  unfold mg at e
  cases b with
  | none => cases e; exact hx
  | some y =>
    cases e
    by_cases z : y 4 < x 4
    · simp only [if_pos z]; exact hx
    · simp only [if_neg z]; exact hb y rfl
theorem rB_bd {r : ab_C} {n : Nat} {h g : Int32} (hi : INV n r) : ∀ k ch, bd (rB r h g k ch 4) (-192) 36 := by
  intro k
  induction k with
  | zero =>
    intro ch
    obtain ⟨a, b⟩ := rPk_bd (ch := ch) (g := g) hi 4 (Nat.le_refl _)
    exact ⟨by show -192 ≤ (fo (fRpl r ch g) 0 4).toInt; omega, by show (fo (fRpl r ch g) 0 4).toInt ≤ 36; omega⟩
  | succ k ih =>
    intro ch
    have : ∀ m, ∀ F, fo (fB2 (rB r h g k) r (3 - k) h ch) none m = some F → bd (F 4) (-192) 36 := by
      intro m
      induction m with
      | zero => intro F e; cases e
      | succ m ihm =>
        intro F e
        have e2 : fB2 (rB r h g k) r (3 - k) h ch m (fo (fB2 (rB r h g k) r (3 - k) h ch) none m) = some F := e
        unfold fB2 at e2
        split at e2
        · split at e2
          · exact mg_bd ihm (ih _) F e2
          · exact ihm F e2
        · exact mg_bd ihm (ih _) F e2
    show bd ((fo (fB2 (rB r h g k) r (3 - k) h ch) none (nu r + 1)).getD (fun _ => 0) 4) (-192) 36
    cases h9 : fo (fB2 (rB r h g k) r (3 - k) h ch) none (nu r + 1) with
    | none => exact ⟨by decide, by decide⟩
    | some F => exact this _ F h9

