/-! the law: what holds between its calls -/
theorem vf_div {x y : Int32} (hy : ¬ y = 0) : vf_n64 (FP.ddiv (FP.i2d x) (FP.i2d y)) ∧ FP.dcmp (FP.ddiv (FP.i2d x) (FP.i2d y)) (FP.ddiv (FP.i2d x) (FP.i2d y)) = some .eq := by
  have h1 := Jvm.FP.Core.i2d_mag x
  have h2 := Jvm.FP.Core.i2d_big (Jvm.FP.Core.int32_ne hy)
  have h3 := Jvm.FP.Core.ddiv_mag (a := FP.i2d x) (b := FP.i2d y) (K := 1056) (L := 1023) h1 h2.1 h2.2 (Nat.le_of_ble_eq_true rfl) (Nat.le_of_ble_eq_true rfl)
  have h4 : (FP.ddiv (FP.i2d x) (FP.i2d y)).toNat % 2 ^ 63 < 9218868437227405312 := Nat.lt_of_lt_of_le h3 (Nat.le_of_ble_eq_true rfl)
  refine ⟨?_, Jvm.FP.Core.dcmp_self (Jvm.FP.Core.DFin.ne_nan ((Jvm.FP.Core.fin_bits _).mpr h4))⟩
  unfold vf_n64
  rw [UInt64.le_iff_toNat_le, UInt64.toNat_and]
  have e : (0x7fffffffffffffff : UInt64).toNat = 2 ^ 63 - 1 := rfl
  rw [e, Nat.and_two_pow_sub_one_eq_mod]
  exact Nat.le_of_lt h4
theorem dc0 : FP.dcmp FP.dconst0 FP.dconst0 = some .eq := by decide +kernel
theorem cMeanD_self (c : ab_C) (h : Int32) : FP.dcmp (cMeanD c h) (cMeanD c h) = some .eq := by
  unfold cMeanD
  split
  · exact dc0
  · next z => exact (vf_div z).2
theorem cMean_vf (c : ab_C) (h : Int32) (z : ¬ (cMean c h).1 = 0) : vf_n64 (FP.ddiv (FP.i2d (cMean c h).2) (FP.i2d (cMean c h).1)) := (vf_div z).1
theorem rMn_vf (c : ab_C) (h : Int32) (z : ¬ (rMn c h).2 = 0) : vf_n64 (FP.ddiv (FP.i2d (rMn c h).1) (FP.i2d (rMn c h).2)) := (vf_div z).1
theorem lc_self (x : Int64) : lg_cmp x x = 0 := (lg_cmp_eq x x).mpr rfl
theorem cv_eq0 : Op.cmpValue (some .eq) CmpOp.l = 0 := rfl
/-- a call of the class: it leaves the reference alone, and changes nothing where it throws -/
def KF (c : ab_C) (X : Int32 × Int32 × ab_C) : Prop := CF c X.2.2 ∧ (X.1 = 0 ∨ X.2.2 = c)
def ECc (c : ab_C) (X : Int32 × Int32 × ab_C) : Prop := X.1 = 0 ∨ X.2.2 = c
theorem ec_ite {a : ab_C} {p : Prop} [Decidable p] {x y : Int32 × Int32 × ab_C} (hx : ECc a x) (hy : ECc a y) : ECc a (if p then x else y) := by
  split
  · exact hx
  · exact hy
theorem ec_0 {a b : ab_C} {v : Int32} : ECc a (0, v, b) := Or.inl rfl
theorem ec_e {a : ab_C} {t v : Int32} : ECc a (t, v, a) := Or.inr rfl
/-- the memory behind a call of the class, as the law's wrapper leaves it -/
noncomputable def LM (X : Int32 × Int32 × ab_C) (m : ab_M) : ab_M := if X.1 = 0 then sL (wI m X.2.2) 63 0 0 X.2.1.toInt64 else bp m 1 6
theorem LM_0 {X : Int32 × Int32 × ab_C} {m : ab_M} (h : X.1 = 0) : LM X m = sL (wI m X.2.2) 63 0 0 X.2.1.toInt64 := if_pos h
theorem LM_e {X : Int32 × Int32 × ab_C} {m : ab_M} (h : ¬ X.1 = 0) : LM X m = bp m 1 6 := if_neg h
theorem LO_LM {X : Int32 × Int32 × ab_C} {m : ab_M} : LO X m = okV (vI X.1) (LM X m) := by
  by_cases h : X.1 = 0
  · rw [LO_0 h, LM_0 h, h]
  · rw [LM_e h]
    unfold LO
    rw [if_neg h]
theorem CR_eq {m m' : ab_M} (h : CR m) (hr : ∀ s i k, s < 41 ∨ s = 61 → mr m' s i k = mr m s i k) (hn : ∀ s i, s < 41 ∨ s = 61 → mn m' s i = mn m s i) : CR m' := by
  obtain ⟨h1, h2, h3⟩ := h
  have a1 : ∀ x ∈ CRr, x.1.1 < 41 ∨ x.1.1 = 61 := by decide
  have a2 : ∀ x ∈ CRn, x.1 < 41 := by decide
  refine ⟨fun x hx => (hr _ _ _ (a1 x hx)).trans (h1 x hx), fun x hx => (hn _ _ (Or.inl (a2 x hx))).trans (h2 x hx), fun i hi => ?_⟩
  obtain ⟨b1, b2, b3, b4, b5, b6⟩ := h3 i hi
  exact ⟨(hr _ _ _ (by omega)).trans b1, (hr _ _ _ (by omega)).trans b2, (hr _ _ _ (by omega)).trans b3, (hn _ _ (by omega)).trans b4, (hn _ _ (by omega)).trans b5, (hn _ _ (by omega)).trans b6⟩
theorem ST_cg {n : Nat} {c c' r : ab_C} (h : ST n c r) (he : ∀ s, s < 41 ∨ s = 61 → c' s = c s) : ST n c' r := by
  refine ⟨EQ_scr h.1 (fun s i k hs => ?_), h.2.1, fun i hi => ?_, fun i hi => ?_⟩
  · have : s < 41 ∨ s = 61 := by
      rcases hs with hs | hs
      · have := eqS_ne hs; omega
      · omega
    rw [he s this]
  · rw [he 2 (by omega)]; exact h.2.2.1 i hi
  · rw [he 18 (by omega)]; exact h.2.2.2 i hi
def LIv (L : Nat) (xs : Nat → Int32) (n : Nat) (m : ab_M) : Prop := CR m ∧ ST n (mi m) (rc m) ∧ RW m ∧ (mn m 0 0 = L ∧ ∀ j, mi m 0 0 j = xs j) ∧ (mn m 63 0 = 1 ∧ mn m 64 0 = 1) ∧ mnc m ≤ 300 + 600 * n ∧ mns m ≤ 2000 + 6000 * n
theorem LIv.CIm {L n : Nat} {xs : Nat → Int32} {m : ab_M} (h : LIv L xs n m) : CI m := by
  have := CI_EQ (m := m) h.1 h.2.1.1 h.2.1.2.1
  exact this
theorem LIv.CVm {L n : Nat} {xs : Nat → Int32} {m : ab_M} (h : LIv L xs n m) : CV (mi m) := CV_EQ h.2.1.1 h.2.1.2.1 h.2.1.2.2.1 h.2.1.2.2.2
theorem LIv.up {L n : Nat} {xs : Nat → Int32} {m : ab_M} (h : LIv L xs n m) : LIv L xs (n + 1) m := ⟨h.1, h.2.1.up (Nat.le_succ n), h.2.2.1, h.2.2.2.1, h.2.2.2.2.1, by have := h.2.2.2.2.2.1; omega, by have := h.2.2.2.2.2.2; omega⟩
/-- between the class's call and the reference's -/
def Mid (L : Nat) (xs : Nat → Int32) (n : Nat) (c : ab_C) (r : ab_C) (m : ab_M) : Prop := CR m ∧ RW m ∧ rc m = r ∧ mi m = c ∧ (mn m 0 0 = L ∧ ∀ j, mi m 0 0 j = xs j) ∧ (mn m 63 0 = 1 ∧ mn m 64 0 = 1) ∧ mnc m ≤ 301 + 600 * n ∧ mns m ≤ 2006 + 6000 * n
theorem RW_wI {m : ab_M} {c : ab_C} (h : RW m) (hc : CF (mi m) c) : RW (wI m c) := RW_of h (fun _ _ _ _ => rfl) (fun _ _ _ => rfl) (fun _ _ => rfl) ⟨hc 44 0 2 (by omega) (by omega), hc 45 0 2 (by omega) (by omega), hc 46 0 2 (by omega) (by omega), hc 47 0 2 (by omega) (by omega)⟩
theorem mid_wI {L n : Nat} {xs : Nat → Int32} {m : ab_M} (h : LIv L xs n m) {c : ab_C} (hc : CF (mi m) c) : Mid L xs n c (rc m) (wI m c) := by
  obtain ⟨h1, h2, h3, ⟨h4, h5⟩, h6, h7, h8⟩ := h
  refine ⟨h1, RW_wI h3 hc, rc_CF hc, rfl, ⟨h4, fun j => (hc 0 0 j (by omega) (by omega)).trans (h5 j)⟩, h6, ?_, ?_⟩
  · show mnc m ≤ _; omega
  · show mns m ≤ _; omega
theorem mid_LM {L n : Nat} {xs : Nat → Int32} {m : ab_M} (h : LIv L xs n m) {X : Int32 × Int32 × ab_C} (hX : KF (mi m) X) : Mid L xs n X.2.2 (rc m) (LM X m) ∧ (X.1 = 0 → ml (LM X m) 63 0 0 = X.2.1.toInt64) := by
  by_cases z : X.1 = 0
  · rw [LM_0 z]
    exact ⟨mid_wI h hX.1, fun _ => by rw [ml_sL, u3_ap, if_pos ⟨rfl, rfl, rfl⟩]⟩
  · rw [LM_e z]
    refine ⟨?_, fun e => absurd e z⟩
    have e2 : X.2.2 = mi m := hX.2.resolve_left z
    rw [e2]
    obtain ⟨h1, h2, h3, ⟨h4, h5⟩, h6, h7, h8⟩ := h
    refine ⟨h1, RW_of h3 (fun _ _ _ _ => rfl) (fun _ _ _ => rfl) (fun _ _ => rfl) ⟨rfl, rfl, rfl, rfl⟩, rfl, rfl, ⟨h4, h5⟩, h6, ?_, ?_⟩
    · show mnc m + 1 ≤ _; omega
    · show mns m + 6 ≤ _; omega
theorem mid_end {L n : Nat} {xs : Nat → Int32} {c r r' : ab_C} {m m' : ab_M} (h : Mid L xs n c r m) {k w : Nat} (hF : FR m m' k w) (hW : RW m') (hr : rc m' = r') (hS : ST (n + 1) c r') (hk : k ≤ 599) (hw : w ≤ 5994) : LIv L xs (n + 1) m' ∧ ml m' 63 0 0 = ml m 63 0 0 ∧ md m' 64 0 0 = md m 64 0 0 := by
  obtain ⟨h1, h2, h3, h4, ⟨h5, h6⟩, ⟨h7, h8⟩, h9, h10⟩ := h
  obtain ⟨f1, f2, f3, f4⟩ := hF
  have fs : ∀ s, s < 41 ∨ s = 61 → frS s = true := by
    intro s hs
    unfold frS
    rcases hs with hs | hs
    · simp [hs]
    · simp [hs]
  obtain ⟨g1, g2, g3, g4, g5, g6⟩ := f1 0 rfl
  obtain ⟨k1, k2, k3, k4, k5, k6⟩ := f1 63 rfl
  obtain ⟨q1, q2, q3, q4, q5, q6⟩ := f1 64 rfl
  refine ⟨⟨CR_eq h1 (fun s i k hs => by rw [(f1 s (fs s hs)).2.1]) (fun s i hs => by rw [(f1 s (fs s hs)).2.2.2.2.1]), ?_, hW, ⟨by rw [g5]; exact h5, fun j => by rw [g1]; exact h6 j⟩, ⟨by rw [k5]; exact h7, by rw [q5]; exact h8⟩, by omega, by omega⟩, by rw [k3], by rw [q4]⟩
  rw [hr]
  exact ST_cg hS (fun s hs => by rw [(f1 s (fs s hs)).1, h4])
theorem lw_core {L n : Nat} {xs : Nat → Int32} {m : ab_M} (h : LIv L xs n m) {X Y : Int32 × Int32 × ab_C} (hX : KF (mi m) X) (hA : AG (n + 1) X Y) {m' : ab_M} {k w : Nat} {v : Int32} (pp : PP (LM X m) m' k w v Y) (hk : k ≤ 599) (hw : w ≤ 5994) :
    LIv L xs (n + 1) m' ∧ mi m' 62 0 0 = X.1 ∧ (X.1 = 0 → v = X.2.1 ∧ ml m' 63 0 0 = v.toInt64) := by
  obtain ⟨⟨hF, hW⟩, ht, hv, hr⟩ := pp
  obtain ⟨hM, hm⟩ := mid_LM h hX
  obtain ⟨g1, g2, g3⟩ := mid_end hM hF hW hr hA.2.2 hk hw
  refine ⟨g1, ht.trans hA.1.symm, fun z => ?_⟩
  have e : v = X.2.1 := hv.trans (hA.2.1 z).symm
  exact ⟨e, by rw [g2, hm z, e]⟩
/-! indices of the script -/
theorem nN_add' {a b : Nat} {v : Int32} (hv : v = nN b) : nN a + v = nN (a + b) := by
  rw [hv]; exact (Int32.ofNat_add a b).symm
theorem sc_i {L n j : Nat} (hL : L ≤ 3072) (hj : 6 * n + j < L) {v : Int32} (hv : v = nN j) : inb (nN (6 * n) + v) L ∧ (nN (6 * n) + v).toNatClampNeg = 6 * n + j := by
  rw [nN_add' hv]
  exact ⟨by rw [inb_nN (by omega)]; exact hj, nN_nat (by omega)⟩
theorem i0c : (0 : Int32).toNatClampNeg = 0 := rfl
theorem LM_nn {X : Int32 × Int32 × ab_C} {m : ab_M} : mn (LM X m) = mn m := by
  unfold LM; split <;> rfl
/-- the law's locals -/
def lL (q : Nat) (a b c : Option ab_V) : ab_L := [some (vA 0 0), some (vA 61 0), some (vA 62 0), some (vA 63 0), some (vA 64 0), some (vI (nN q)), a, b, c]
theorem lL_le {q : Nat} {a b c : Option ab_V} : ab_le (lL q none none none) (lL q a b c) := le_c (le_c (le_c (le_c (le_c (le_c (le_n (le_n (le_n le_nil))))))))
def gL (T : ab_T) (pc q : Nat) (m : ab_M) (pc' q' : Nat) (m' : ab_M) : Prop := ∀ (R : ab_R → Prop) (K : ab_K), Closed T R K → K pc' (lL q' none none none) [] m' → K pc (lL q none none none) [] m
theorem Closed.sub {T T' : ab_T} {R : ab_R → Prop} {K : ab_K} (h : Closed T R K) (hs : ∀ x ∈ T', x ∈ T) : Closed T' R K := ⟨fun p f hf => h.1 p f (hs _ hf), h.2⟩
theorem gL.mono {T T' : ab_T} {pc q pc' q' : Nat} {m m' : ab_M} (h : gL T' pc q m pc' q' m') (hs : ∀ x ∈ T', x ∈ T) : gL T pc q m pc' q' m' := fun R K hC => h R K (hC.sub hs)
