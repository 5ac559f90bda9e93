/-! what the class asks and tells, as code, value, state; questions agree -/
theorem AG_b {n : Nat} {x y x' y' : Int32 × Int32 × ab_C} {b b' : Bool} (hb : b = b') (h1 : b' = true → AG n x x') (h2 : AG n y y') : AG n (if b = true then x else y) (if b' = false then y' else x') := by
  subst hb
  cases b with
  | true => rw [if_pos rfl, if_neg (by decide)]; exact h1 rfl
  | false => rw [if_neg (by decide), if_pos rfl]; exact h2
theorem AG_p {n : Nat} {x y x' y' : Int32 × Int32 × ab_C} {P Q : Prop} [Decidable P] [Decidable Q] (hb : P ↔ Q) (h1 : Q → AG n x x') (h2 : ¬ Q → AG n y y') : AG n (if P then x else y) (if Q then x' else y') := by
  by_cases q : Q
  · rw [if_pos (hb.mpr q), if_pos q]; exact h1 q
  · rw [if_neg (fun z => q (hb.mp z)), if_neg q]; exact h2 q
theorem AG_n {n : Nat} {x y x' y' : Int32 × Int32 × ab_C} {P Q : Prop} [Decidable P] [Decidable Q] (hb : P ↔ ¬ Q) (h1 : ¬ Q → AG n x x') (h2 : Q → AG n y y') : AG n (if P then x else y) (if Q then y' else x') := by
  by_cases q : Q
  · rw [if_neg (fun z => (hb.mp z) q), if_pos q]; exact h2 q
  · rw [if_pos (hb.mpr q), if_neg q]; exact h1 q
theorem rI_s {c r : ab_C} {n : Nat} (h : ST n c r) (s i : Nat) (hs : eqS s = true) : c s 0 i = r s 0 i := congrFun (h.1.st s hs) i
theorem rng_w {w : Int32} {k : Nat} {g : Int32} (h : cRng w 0 g = true) (hg : nN (k + 1) - 1 = g) (hk : k < 999) : ∃ i, i < k + 1 ∧ w = nN i := by
  have := rng_k (n := k + 1) h hg (by omega)
  exact nN_ex this
def kOfP (c : ab_C) (p w : Int32) : Int32 × Int32 × ab_C := if cHas c p = true then (if cRng w 0 11 = true then (0, cOfP c p w.toNatClampNeg, c) else (2, 0, c)) else (1, 0, c)
theorem o_ofPerson {m : ab_M} {p w : Int32} (h1 : CI m) (h2 : CV (mi m)) : SP_X6_ofPerson [vA 61 0, vI p, vI w] m = kout cdA (kOfP (mi m) p w) m := by
  rw [e_X6_ofPerson h1 h2]
  simp only [kOfP, kout_i, kout_0, kout_e t10, kout_e t20, cdA_1, cdA_2]
  rfl
theorem g_ofPerson {n : Nat} {c r : ab_C} (h : ST n c r) (p w : Int32) : AG (n + 1) (kOfP c p w) (rOfPp r p w) :=
  AG_b (h.1.has h.2.1 p) (fun e => AG_b rfl (fun e2 => AG_ok h (by
    obtain ⟨i, hi, rfl⟩ := rng_w (k := 11) e2 rfl (by decide)
    rw [nN_nat (by omega)]
    exact cOfP_eq h.1 h.2.1 (has_in h.2.1 e) i hi)) (AG_no h t20)) (AG_no h t10)
def kGiver (c : ab_C) (p s b : Int32) : Int32 × Int32 × ab_C := if cHas c p = true then (if cRng s 1 9 = true then (0, cGiv c p s b, c) else (2, 0, c)) else (1, 0, c)
theorem o_giver {m : ab_M} {p s b : Int32} (h1 : CI m) : SP_X6_giver [vA 61 0, vI p, vI s, vI b] m = kout cdA (kGiver (mi m) p s b) m := by
  rw [e_X6_giver h1]
  simp only [kGiver, kout_i, kout_0, kout_e t10, kout_e t20, cdA_1, cdA_2]
  rfl
theorem g_giver {n : Nat} {c r : ab_C} (h : ST n c r) (p s b : Int32) : AG (n + 1) (kGiver c p s b) (rGiver r p s b) :=
  AG_b (h.1.has h.2.1 p) (fun e => AG_b rfl (fun e2 => AG_ok h (cGiv_eq h.1 (has_in h.2.1 e) e2)) (AG_no h t20)) (AG_no h t10)
def kOfH (c : ab_C) (p w : Int32) : Int32 × Int32 × ab_C := if cHasH c p = true then (if cRng w 0 4 = true then (0, cOfH c p w.toNatClampNeg, c) else (2, 0, c)) else (1, 0, c)
theorem o_ofHouse {m : ab_M} {p w : Int32} (h1 : CI m) (h2 : CV (mi m)) : SP_X6_ofHouse [vA 61 0, vI p, vI w] m = kout cdA (kOfH (mi m) p w) m := by
  rw [e_X6_ofHouse h1 h2]
  simp only [kOfH, kout_i, kout_0, kout_e t10, kout_e t20, cdA_1, cdA_2]
  rfl
theorem g_ofHouse {n : Nat} {c r : ab_C} (h : ST n c r) (p w : Int32) : AG (n + 1) (kOfH c p w) (rOfHp r p w) :=
  AG_b (h.1.hasH h.2.1 p) (fun e => AG_b rfl (fun e2 => AG_ok h (by
    obtain ⟨i, hi, rfl⟩ := rng_w (k := 4) e2 rfl (by decide)
    rw [nN_nat (by omega)]
    exact cOfH_eq h.1 h.2.1 (hasH_in h.2.1 e) i hi)) (AG_no h t20)) (AG_no h t10)
def kMany (c : ab_C) (w : Int32) : Int32 × Int32 × ab_C := if cRng w 0 13 = true then (0, cMany c w.toNatClampNeg, c) else (1, 0, c)
theorem o_many {m : ab_M} {w : Int32} (h1 : CI m) : SP_X6_many [vA 61 0, vI w] m = kout cd1 (kMany (mi m) w) m := by
  rw [e_X6_many h1]
  simp only [kMany, kout_i, kout_0, kout_e t10, cd1]
  rfl
theorem g_many {n : Nat} {c r : ab_C} (h : ST n c r) (w : Int32) : AG (n + 1) (kMany c w) (rManyp r w) :=
  AG_b rfl (fun e2 => AG_ok h (by
    obtain ⟨i, hi, rfl⟩ := rng_w (k := 13) e2 rfl (by decide)
    rw [nN_nat (by omega)]
    exact cMany_eq h.1 h.2.1 i hi)) (AG_no h t10)
def kWL (c : ab_C) (p : Int32) : Int32 × Int32 × ab_C := if cHas c p = true then (if c 13 0 p.toNatClampNeg = 0 then (0, 0, c) else (0, cLostWith c p, c)) else (1, 0, c)
theorem o_wouldLose {m : ab_M} {p : Int32} (h1 : CI m) : SP_X6_wouldLose [vA 61 0, vI p] m = kout cd2 (kWL (mi m) p) m := by
  rw [e_X6_wouldLose h1]
  simp only [kWL, kout_i, kout_0, kout_e t10, cd2_1]
  rfl
theorem g_wouldLose {n : Nat} {c r : ab_C} (h : ST n c r) (p : Int32) : AG (n + 1) (kWL c p) (rWLp r p) :=
  AG_b (h.1.has h.2.1 p) (fun e => AG_p (by rw [rI_s h 13 _ rfl]) (fun _ => AG_ok h rfl) (fun e2 => AG_ok h (cLostWith_eq h.1 h.2.1 (has_in h.2.1 e) e2))) (AG_no h t10)
theorem cHolds_iff {c r : ab_C} {n : Nat} (h : ST n c r) {p s : Int32} : cHolds c p s = true ↔ ¬ r 7 0 p.toNatClampNeg < s := by
  unfold cHolds
  rw [rI_s h 7 _ rfl]
  simp
theorem AD_DP {c r c' : ab_C} {n : Nat} (h : ST n c r) (hd : DP c c') : ST n c' r := by
  refine ⟨EQ_scr h.1 (fun s i k hs => hd.2 s i k (fun e => by subst e; rcases hs with z | z | z | z | z <;> first | omega | cases z)), h.2.1, hd.1, fun i hi => ?_⟩
  rw [hd.2 18 0 i (by decide)]
  exact h.2.2.2 i hi
theorem ST.cv {c r : ab_C} {n : Nat} (h : ST n c r) : CV c := CV_EQ h.1 h.2.1 h.2.2.1 h.2.2.2
theorem fall_DP {c r : ab_C} {n : Nat} {p s : Int32} (h : ST n c r) (hp : inb p (np r)) (hs : cRng s 1 9 = true) : DP c (cFall c p s).2 := by
  obtain ⟨k, h1, h9, rfl⟩ := rng_ex1 hs
  have hk : KE (cKept c) := cKept_KE h.cv.2.2.1 h.2.2.1
  have hd := cDrop_pres 12 p k (cKept c) (by have := (inb_eq hp).2; have := h.2.1.cn.1.2; omega) (by
    show (cKept c 35 0 0).toNatClampNeg ≤ 12
    rw [cKept_at (by decide)]
    have := h.1.gnp
    have := h.2.1.cn.1.2
    show np c ≤ 12
    omega) h1 (by omega) hk
  unfold cFall
  rw [nN_nat (by omega)]
  exact ⟨hd.1, fun x y z e => (hd.2 x y z e).trans (cKept_at e)⟩
theorem now_ST {c r : ab_C} {n : Nat} {x g : Int32} (h : ST n c r) : ST n (cNow c x g) r := by
  refine ⟨EQ_scr h.1 (fun s i k hs => ?_), h.2.1, fun i hi => ?_, ?_⟩
  · have : ∀ t : Nat, t = 18 ∨ t = 19 ∨ t = 20 ∨ t = 21 ∨ t = 40 → s ≠ t := by
      rintro t ht rfl
      rcases hs with z | z | z | z | z
      · have := eqS_ne z; omega
      all_goals omega
    exact cNow_at (this 18 (by simp)) (this 19 (by simp)) (this 20 (by simp)) (this 21 (by simp)) (this 40 (by simp))
  · rw [cNow_at (by decide) (by decide) (by decide) (by decide) (by decide)]
    exact h.2.2.1 i hi
  · unfold cNow cBest
    have hb : BE (cBest0 c x g (c 61 0 6) (cSeason (c 61 0 6))) := fun i hi => by
      rw [cBest0_at (by decide) (by decide) (by decide)]; exact h.2.2.2 i hi
    refine cChoose_BE 4 (Nat.le_refl _) _ _ hb (fun i hi => by omega) ?_
    have hu := h.2.1.cn.2.2.2.2
    have e := h.1.gnu
    show (cBest0 c x g (c 61 0 6) (cSeason (c 61 0 6)) 38 0 0).toNatClampNeg ≤ 12
    rw [cBest0_at (by decide) (by decide) (by decide)]
    show nu c ≤ 12
    omega
theorem comp_iff {c r : ab_C} {n : Nat} (h : ST n c r) {x g : Int32} : cCompany c x g = true ↔ ¬ rNoCo r x g = true := by
  rw [company_eq h.1 h.2.1]
  cases rNoCo r x g <;> simp
theorem live_iff {c r : ab_C} {n : Nat} (h : ST n c r) {x g : Int32} (hx : inb x (np r)) : cAllLive c x g = true ↔ ¬ rSad r x g (np r) 0 = true := by
  rw [allLive_eq h.1 h.2.1 hx]
  cases rSad r x g (np r) 0 <;> simp
