/-! the class's search -/
def sl (W0 : Int32) (X : Nat → Int32) (B : Int32) (F : Nat → Int32) : (Nat → Int32) × Int32 := if B < W0 + F 4 then (F, W0 + F 4) else (X, B)
def slo (W0 : Int32) (X : Nat → Int32) (B : Int32) (b : Option (Nat → Int32)) : (Nat → Int32) × Int32 := match b with
  | none => (X, B)
  | some F => sl W0 X B F
theorem sl_add {W0 x : Int32} (h0 : bd W0 (-1000) 0) (hx : bd x (-192) 36) : (W0 + x).toInt = W0.toInt + x.toInt := by
  obtain ⟨a, b⟩ := h0
  obtain ⟨e, f⟩ := hx
  exact fb_addI (by omega) (by omega)
theorem sl_mg {W0 B : Int32} {X F : Nat → Int32} {b : Option (Nat → Int32)} (h0 : bd W0 (-1000) 0) (hb : ∀ G, b = some G → bd (G 4) (-192) 36) (hF : bd (F 4) (-192) 36) : sl W0 (slo W0 X B b).1 (slo W0 X B b).2 F = slo W0 X B (mg b F) := by
  cases b with
  | none => rfl
  | some G =>
    have hG := hb G rfl
    have eF := sl_add h0 hF
    have eG := sl_add h0 hG
    show sl W0 (sl W0 X B G).1 (sl W0 X B G).2 F = sl W0 X B (if G 4 < F 4 then F else G)
    have lt1 : (G 4 < F 4) ↔ (W0 + G 4 < W0 + F 4) := by
      rw [Int32.lt_iff_toInt_lt, Int32.lt_iff_toInt_lt, eF, eG]; omega
    by_cases z1 : B < W0 + G 4
    · have e1 : sl W0 X B G = (G, W0 + G 4) := if_pos z1
      rw [e1]
      by_cases z2 : G 4 < F 4
      · rw [if_pos z2]
        have z3 : B < W0 + F 4 := by
          have := lt1.mp z2
          rw [Int32.lt_iff_toInt_lt] at *
          omega
        rw [show sl W0 X B F = (F, W0 + F 4) from if_pos z3]
        exact if_pos (lt1.mp z2)
      · rw [if_neg z2, e1]
        exact if_neg (fun z => z2 (lt1.mpr z))
    · have e1 : sl W0 X B G = (X, B) := if_neg z1
      rw [e1]
      by_cases z2 : G 4 < F 4
      · rw [if_pos z2]
      · rw [if_neg z2, e1]
        have z3 : ¬ B < W0 + F 4 := by
          intro z
          have z4 : ¬ W0 + G 4 < W0 + F 4 := fun z => z2 (lt1.mpr z)
          rw [Int32.lt_iff_toInt_lt] at *
          omega
        exact if_neg z3
def BS (a : ab_C) (x : (Nat → Int32) × Int32) : Prop := (∀ q, q < 4 → a 18 0 q = x.1 q) ∧ a 40 0 6 = x.2
/-- what the search reads, laid out beforehand -/
def EV (r : ab_C) (g h : Int32) (a : ab_C) : Prop := nu a = nu r ∧ (∀ i, i < nu r → a 20 0 i = rWorth r i g ∧ (∀ kd, kd < 4 → ((¬ a 21 0 i = 0 ∧ a 26 0 i = nN kd) ↔ rCan r i (nN kd) h = true))) ∧ ∀ i, a 28 0 i = r 28 0 i
theorem EV.of {r : ab_C} {g h : Int32} {a b : ab_C} (hE : EV r g h a) (he : ∀ x y z, x = 20 ∨ x = 21 ∨ x = 26 ∨ x = 28 ∨ x = 38 → b x y z = a x y z) : EV r g h b := by
  obtain ⟨e1, e2, e3⟩ := hE
  refine ⟨?_, fun i hi => ?_, fun i => ?_⟩
  · unfold nu
    rw [he 38 0 0 (by simp)]
    exact e1
  · rw [he 20 0 i (by simp), he 21 0 i (by simp), he 26 0 i (by simp)]
    exact e2 i hi
  · rw [he 28 0 i (by simp)]
    exact e3 i
theorem EV.dc {r : ab_C} {g h : Int32} {a b : ab_C} {k : Nat} (hE : EV r g h a) (hd : DC k a b) : EV r g h b := hE.of (fun x y z hx => hd x y z (by omega) (by omega) (by omega))
theorem EV.u {r : ab_C} {g h : Int32} {a : ab_C} {k : Nat} {v : Int32} (hE : EV r g h a) : EV r g h (u3 a 19 0 k v) := hE.of (fun x y z hx => by rw [u3_ap, if_neg (by omega)])
theorem BS.u {a : ab_C} {x : (Nat → Int32) × Int32} {k : Nat} {v : Int32} (h : BS a x) : BS (u3 a 19 0 k v) x := by
  refine ⟨fun q hq => ?_, ?_⟩
  · rw [u3_ap, if_neg (by omega)]; exact h.1 q hq
  · rw [u3_ap, if_neg (by omega)]; exact h.2
theorem fKeep_at (a : ab_C) : ∀ n x y z, fo fKeep a n x y z = if x = 18 ∧ y = 0 ∧ z < n then a 19 0 z else a x y z := by
  intro n
  induction n with
  | zero => intro x y z; rw [if_neg (by omega)]; rfl
  | succ n ih =>
    intro x y z
    show u3 (fo fKeep a n) 18 0 n (fo fKeep a n 19 0 n) x y z = _
    rw [u3_ap]
    by_cases e : x = 18 ∧ y = 0 ∧ z = n
    · obtain ⟨rfl, rfl, rfl⟩ := e
      rw [if_pos ⟨rfl, rfl, rfl⟩, if_pos ⟨rfl, rfl, by omega⟩]
      have := ih 19 0 z
      rw [if_neg (by omega)] at this
      exact this
    · rw [if_neg e, ih]
      by_cases e2 : x = 18 ∧ y = 0 ∧ z < n
      · rw [if_pos e2, if_pos ⟨e2.1, e2.2.1, by omega⟩]
      · rw [if_neg e2, if_neg (by omega)]
theorem cKeep_BS {a : ab_C} {W0 B w : Int32} {X F : Nat → Int32} (hB : BS a (X, B)) (hw : w = W0 + F 4) (hF : ∀ q, q < 4 → a 19 0 q = F q) : BS (cKeep a w) (sl W0 X B F) := by
  subst hw
  have h1 : ∀ q, q < 4 → a 18 0 q = X q := hB.1
  have h2 : a 40 0 6 = B := hB.2
  unfold cKeep sl
  rw [h2]
  split
  · refine ⟨fun q hq => ?_, ?_⟩
    · rw [fKeep_at, if_pos ⟨rfl, rfl, hq⟩, u3_ap, if_neg (by omega)]; exact hF q hq
    · rw [fKeep_at, if_neg (by omega), u3_ap, if_pos ⟨rfl, rfl, rfl⟩]
  · exact ⟨h1, h2⟩
theorem same_eq {r a : ab_C} {ch : Nat → Int32} {n : Nat} {S : Int32} (ha : ∀ i, a 28 0 i = r 28 0 i) (hc : ∀ q, q < n → a 19 0 q = ch q) : ∀ k, k ≤ n → fo (fRth r ch n) S k = S - 4 * cSame a (r 28 0 (ch n).toNatClampNeg) k := by
  intro k
  induction k with
  | zero => intro _; show S = S - 4 * 0; rw [Int32.mul_zero, Int32.sub_zero]
  | succ k ih =>
    intro hk
    show fRth r ch n k (fo (fRth r ch n) S k) = S - 4 * fSame a (r 28 0 (ch n).toNatClampNeg) k (cSame a (r 28 0 (ch n).toNatClampNeg) k)
    rw [ih (by omega)]
    unfold fRth fSame
    rw [hc k (by omega), ha]
    split
    · rfl
    · split
      · simp only [Int32.mul_add, Int32.mul_one, Int32.sub_eq_add_neg, Int32.neg_add]
        ac_rfl
      · rfl
theorem cChoose_BS {r : ab_C} {n : Nat} {g h W0 : Int32} (hi : INV n r) (hW : bd W0 (-1000) 0) : ∀ k, k ≤ 4 → ∀ (w : Int32) (a : ab_C) (ch X : Nat → Int32) (B : Int32), EV r g h a → (∀ q, q < 4 - k → a 19 0 q = ch q) → w = W0 + fo (fRpl r ch g) 0 (4 - k) → BS a (X, B) → BS (cChoose k w a) (sl W0 X B (rB r h g k ch)) := by
  intro k
  induction k with
  | zero =>
    intro _ w a ch X B hE hc hw hB
    exact cKeep_BS hB hw (fun q hq => by rw [hc q (by omega)]; exact (if_pos hq).symm)
  | succ k ih =>
    intro hk w a ch X B hE hc hw hB
    have h12 := hi.cn.2.2.2.2
    have e3 : 4 - (k + 1) = 3 - k := by omega
    have e4 : 4 - k = (3 - k) + 1 := by omega
    rw [e3] at hc hw
    have hbd : ∀ m G, fo (fB2 (rB r h g k) r (3 - k) h ch) none m = some G → bd (G 4) (-192) 36 := by
      intro m
      induction m with
      | zero => intro F e; cases e
      | succ m ihm =>
        intro F e
        have e2 : fB2 (rB r h g k) r (3 - k) h ch m (fo (fB2 (rB r h g k) r (3 - k) h ch) none m) = some F := e
        unfold fB2 at e2
        split at e2
        · split at e2
          · exact mg_bd ihm (rB_bd hi k _) F e2
          · exact ihm F e2
        · exact mg_bd ihm (rB_bd hi k _) F e2
    have main : ∀ m, m ≤ nu r → DC (k + 1) a (fo (fCh (cChoose k) (3 - k) w) a m) ∧ BS (fo (fCh (cChoose k) (3 - k) w) a m) (slo W0 X B (fo (fB2 (rB r h g k) r (3 - k) h ch) none m)) := by
      intro m
      induction m with
      | zero => intro _; exact ⟨fun _ _ _ _ _ _ => rfl, hB⟩
      | succ m ihm =>
        intro hm
        obtain ⟨d1, d2⟩ := ihm (by omega)
        have e8 : fo (fCh (cChoose k) (3 - k) w) a (m + 1) = fCh (cChoose k) (3 - k) w m (fo (fCh (cChoose k) (3 - k) w) a m) := rfl
        have e9 : fo (fB2 (rB r h g k) r (3 - k) h ch) none (m + 1) = fB2 (rB r h g k) r (3 - k) h ch m (fo (fB2 (rB r h g k) r (3 - k) h ch) none m) := rfl
        have hb := hbd m
        rw [e8, e9]
        generalize fo (fCh (cChoose k) (3 - k) w) a m = b at *
        generalize fo (fB2 (rB r h g k) r (3 - k) h ch) none m = o at *
        have hEb := hE.dc d1
        obtain ⟨v1, v2⟩ := hEb.2.1 m (by omega)
        refine ⟨DC_fCh (by omega) (fun w c' => cChoose_pres k (by omega) w c') m b d1, ?_⟩
        unfold fCh fB2
        rw [if_pos (show m < nu r by omega)]
        by_cases z1 : b 21 0 m = 0
        · rw [if_pos z1, if_neg (fun z => ((v2 (3 - k) (by omega)).mpr z).1 z1)]
          exact d2
        · rw [if_neg z1]
          by_cases z2 : b 26 0 m = nN (3 - k)
          · rw [if_pos z2, if_pos ((v2 (3 - k) (by omega)).mp ⟨z1, z2⟩)]
            have hpre : ∀ q, q < 3 - k → b 19 0 q = ch q := fun q hq => (d1 19 0 q (by decide) (by decide) (by omega)).trans (hc q hq)
            rw [← sl_mg hW hb (rB_bd hi k _)]
            refine ih (by omega) _ _ (updI ch (3 - k) (nN m)) _ _ hEb.u (fun q hq => ?_) ?_ d2.u
            · unfold updI
              rw [u3_ap]
              by_cases e : q = 3 - k
              · rw [if_pos ⟨rfl, rfl, e⟩, if_pos e]
              · rw [if_neg (fun z => e z.2.2), if_neg e]
                exact hpre q (by omega)
            · rw [e4]
              show _ = W0 + fRpl r (updI ch (3 - k) (nN m)) g (3 - k) (fo (fRpl r (updI ch (3 - k) (nN m)) g) 0 (3 - k))
              rw [rPk_cg (ch' := ch) (fun q hq => updI_ne ch (by omega))]
              unfold fRpl
              rw [updI_p, if_neg (show ¬ nN m = -1 from fun z => by
                have := nN_neg (a := m) (by omega)
                rw [z] at this
                exact this (by decide)), nN_nat (show m < 2147483648 by omega)]
              rw [same_eq (a := b) (n := 3 - k) hEb.2.2 (fun q hq => by rw [updI_ne _ (by omega)]; exact hpre q hq) (3 - k) (Nat.le_refl _), updI_p, nN_nat (show m < 2147483648 by omega), hw, v1, hEb.2.2]
              simp only [Int32.sub_eq_add_neg]
              ac_rfl
          · rw [if_neg z2, if_neg (fun z => z2 ((v2 (3 - k) (by omega)).mpr z).2)]
            exact d2
    rw [cChoose_s, hE.1]
    obtain ⟨d1, d2⟩ := main (nu r) (Nat.le_refl _)
    have hb := hbd (nu r)
    have e9 : rB r h g (k + 1) ch = (fB2 (rB r h g k) r (3 - k) h ch (nu r) (fo (fB2 (rB r h g k) r (3 - k) h ch) none (nu r))).getD (fun _ => 0) := rfl
    rw [e9]
    generalize fo (fCh (cChoose k) (3 - k) w) a (nu r) = b at *
    generalize fo (fB2 (rB r h g k) r (3 - k) h ch) none (nu r) = o at *
    have hEb := hE.dc d1
    have e10 : fB2 (rB r h g k) r (3 - k) h ch (nu r) o = mg o (rB r h g k (updI ch (3 - k) (-1))) := if_neg (Nat.lt_irrefl _)
    rw [e10]
    have hpre : ∀ q, q < 3 - k → b 19 0 q = ch q := fun q hq => (d1 19 0 q (by decide) (by decide) (by omega)).trans (hc q hq)
    have e11 : sl W0 X B ((mg o (rB r h g k (updI ch (3 - k) (-1)))).getD (fun _ => 0)) = slo W0 X B (mg o (rB r h g k (updI ch (3 - k) (-1)))) := rfl
    rw [e11, ← sl_mg hW hb (rB_bd hi k _)]
    refine ih (by omega) _ _ (updI ch (3 - k) (-1)) _ _ hEb.u (fun q hq => ?_) ?_ d2.u
    · unfold updI
      rw [u3_ap]
      by_cases e : q = 3 - k
      · rw [if_pos ⟨rfl, rfl, e⟩, if_pos e]
      · rw [if_neg (fun z => e z.2.2), if_neg e]
        exact hpre q (by omega)
    · rw [e4, hw]
      show _ = W0 + fRpl r (updI ch (3 - k) (-1)) g (3 - k) (fo (fRpl r (updI ch (3 - k) (-1)) g) 0 (3 - k))
      rw [rPk_cg (ch' := ch) (fun q hq => updI_ne ch (by omega))]
      unfold fRpl
      rw [updI_p, if_pos rfl]

