/-! what the class changes leaves the reference alone: the other calls -/
theorem cf_fo2 {α : Type} {g : α → ab_C} {a : ab_C} {f : Nat → α → α} {s : α} (h : CF a (g s)) (hf : ∀ i x, CF a (g x) → CF a (g (f i x))) : ∀ n, CF a (g (fo f s n)) := by
  intro n
  induction n with
  | zero => exact h
  | succ n ih => exact hf n _ ih
theorem CF.l {a c : ab_C} {s i k : Nat} {v : Int32} (h : CF a c) (hs : (Nat.ble 2 s && Nat.ble s 40) = true) : CF a (u3 c s i k v) := h.u (Or.inl (by
  rw [Bool.and_eq_true] at hs
  exact ⟨Nat.le_of_ble_eq_true hs.1, Nat.lt_succ_of_le (Nat.le_of_ble_eq_true hs.2)⟩))
theorem CF.r {a c : ab_C} {i k : Nat} {v : Int32} (h : CF a c) : CF a (u3 c 61 i k v) := h.u (Or.inr rfl)
theorem cf_ite {a : ab_C} {p : Prop} [Decidable p] {x y : Int32 × Int32 × ab_C} (hx : CF a x.2.2) (hy : CF a y.2.2) : CF a (if p then x else y).2.2 := by
  split
  · exact hx
  · exact hy
theorem cf_share (a : ab_C) : ∀ k o l c, CF a c → CF a (cShare k o l c).2
  | 0, _, _, _, h => h
  | k + 1, o, l, c, h => by
    unfold cShare
    split
    · exact h
    · split
      · exact cf_share a k _ _ _ h
      · exact cf_share a k _ _ _ (h.l rfl)
theorem cf_shareFee {a c : ab_C} {t f : Int32} (h : CF a c) : CF a (cShareFee c t f) := by
  unfold cShareFee
  exact (cf_share a 12 t f c h).r
theorem cf_raise {a c : ab_C} {p b d : Int32} (h : CF a c) : CF a (cRaise c p b d) := by
  unfold cRaise
  exact ((h.l rfl).l rfl).l rfl
theorem cf_cgive {a c : ab_C} {p : Int32} (h : CF a c) : CF a (cGive c p) := by
  unfold cGive
  exact (cf_raise (cf_shareFee (h.l rfl))).r
theorem cf_kG {c : ab_C} {p : Int32} : CF c (kG c p).2.2 := by
  unfold kG
  exact cf_ite CF.refl (cf_cgive CF.refl)
theorem cf_give {c : ab_C} {p : Int32} : CF c (kGive c p).2.2 := by
  unfold kGive
  exact cf_ite (cf_ite CF.refl (cf_ite (cf_ite CF.refl (cf_ite CF.refl (cf_ite (cf_ite cf_kG (cf_ite cf_kG CF.refl)) CF.refl))) CF.refl)) CF.refl
theorem cf_drop (a : ab_C) : ∀ k p s c, CF a c → CF a (cDrop k p s c).2
  | 0, _, _, _, h => h
  | k + 1, p, s, c, h => by
    rw [cDrop_s]
    refine cf_fo2 (g := Prod.snd) (show CF a (u3 c 2 0 p.toNatClampNeg (nN s - 1)) from h.l rfl) (fun j x hx => ?_) _
    unfold fDo
    refine cf_fo2 (g := Prod.snd) hx (fun i y hy => ?_) _
    unfold fDi
    split
    · exact hy
    · split
      · exact cf_drop a k _ _ _ hy
      · exact hy
theorem cf_fall {a c : ab_C} {p s : Int32} (h : CF a c) : CF a (cFall c p s).2 := by
  unfold cFall cKept
  exact cf_drop a 12 _ _ _ (CF.fo h (fun i x hx => hx.l rfl) _)
theorem cf_revoke {c : ab_C} {p s : Int32} : CF c (kRev c p s).2.2 := by
  unfold kRev
  refine cf_ite (cf_ite (cf_ite (cf_ite CF.refl ?_) CF.refl) CF.refl) CF.refl
  show CF c (cRevoke c p s)
  unfold cRevoke cApply
  exact (CF.fo (cf_fall CF.refl) (fun i x hx => hx.l rfl) _).r
theorem cf_lose {a c : ab_C} {s : Int32} (h : CF a c) : CF a (cLose c s) := by
  unfold cLose
  refine CF.fo h (fun i x hx => ?_) _
  unfold fLose
  split
  · exact hx.l rfl
  · exact hx
theorem cf_succeed {a c : ab_C} {h d : Int32} (hc : CF a c) : CF a (cSucceed c h d) := by
  unfold cSucceed
  generalize cAfter c h d = n
  simp only
  split
  · exact (hc.l rfl).l rfl
  · refine CF.fo (((hc.l rfl).l rfl).l rfl) (fun i x hx => ?_) _
    unfold fSucc
    split
    · split
      · exact hx.l rfl
      · exact hx
    · exact hx
theorem cf_die1 {a c : ab_C} {p : Int32} (h : CF a c) : CF a (cDie1 c p) := by
  unfold cDie1
  exact (cf_lose h).l rfl
theorem cf_cdie {a c : ab_C} {p : Int32} (h : CF a c) : CF a (cDie c p) := by
  unfold cDie
  split
  · exact cf_succeed (cf_die1 h)
  · exact cf_die1 h
theorem cf_die {c : ab_C} {p : Int32} : CF c (kDie c p).2.2 := by
  unfold kDie
  exact cf_ite (cf_ite CF.refl (cf_cdie CF.refl)) CF.refl
theorem cf_hadd {a c : ab_C} {p : Int32} (h : CF a c) : CF a (cHAdd c p) := by
  unfold cHAdd
  exact ((h.l rfl).l rfl).l rfl
theorem cf_cpass {a c : ab_C} {d : Int32} (h : CF a c) : CF a (cPass c d) := by
  unfold cPass
  refine (CF.fo h (fun i x hx => ?_) _).r
  unfold fPass
  split
  · exact hx
  · exact hx.l rfl
theorem cf_pass {c : ab_C} {d : Int32} : CF c (kPass c d).2.2 := by
  unfold kPass
  exact cf_ite (cf_cpass CF.refl) CF.refl
theorem cf_padd {a c : ab_C} {t k h s : Int32} (hc : CF a c) : CF a (cPAdd c t k h s) := by
  unfold cPAdd cPAdd1 cPAdd0
  exact (CF.fo ((((((hc.l rfl).l rfl).l rfl).l rfl).l rfl).l rfl) (fun i x hx => (hx.l rfl).l rfl) _).l rfl
theorem cf_found {a c : ab_C} (h : CF a c) : CF a (cFound c) := by
  unfold cFound
  exact cf_hadd (cf_padd h)
theorem cf_person {c : ab_C} {t k : Int32} : CF c (kPer c t k).2.2 := by
  unfold kPer
  exact cf_ite (cf_ite (cf_found CF.refl) CF.refl) (cf_ite (cf_ite (cf_ite (cf_ite CF.refl (cf_padd CF.refl)) CF.refl) CF.refl) CF.refl)
theorem cf_cutensil {a c : ab_C} {p k s t q : Int32} (h : CF a c) : CF a (cUtensil c p k s t q) := by
  unfold cUtensil cUtensil1 cUAdd cUAdd0
  exact (((CF.fo ((((h.l rfl).l rfl).l rfl).l rfl) (fun i x hx => hx.l rfl) _).l rfl).l rfl).l rfl
theorem cf_utensil {c : ab_C} {p k s t q : Int32} : CF c (kUte c p k s t q).2.2 := by
  unfold kUte
  exact cf_ite (cf_ite (cf_ite (cf_ite (cf_ite (cf_ite (cf_ite CF.refl (cf_ite CF.refl (cf_cutensil CF.refl))) CF.refl) CF.refl) CF.refl) CF.refl) CF.refl) CF.refl
theorem cf_keep {a c : ab_C} {w : Int32} (h : CF a c) : CF a (cKeep c w) := by
  unfold cKeep
  split
  · exact CF.fo (h.l rfl) (fun i x hx => hx.l rfl) _
  · exact h
theorem cf_choose (a : ab_C) : ∀ k w c, CF a c → CF a (cChoose k w c)
  | 0, _, _, h => cf_keep h
  | k + 1, w, c, h => by
    rw [cChoose_s]
    refine cf_choose a k _ _ (CF.l (CF.fo h (fun i x hx => ?_) _) rfl)
    unfold fCh
    split
    · exact hx
    · split
      · exact cf_choose a k _ _ (hx.l rfl)
      · exact hx
theorem cf_now {a c : ab_C} {h g : Int32} (hc : CF a c) : CF a (cNow c h g) := by
  unfold cNow cBest cBest0
  exact cf_choose a 4 _ _ (CF.l (CF.fo hc (fun i x hx => (hx.l rfl).l rfl) _) rfl)
theorem cf_show {a c : ab_C} {u g d : Int32} (h : CF a c) : CF a (cShow c u g d) := by
  unfold cShow
  split
  · exact h
  · refine CF.fo (h.l rfl) (fun i x hx => ?_) _
    unfold fShow
    split
    · exact hx.l rfl
    · exact hx
theorem cf_chold {a c b : ab_C} {h g : Int32} (hb : CF a b) : CF a (cHold c b h g) := by
  unfold cHold cGifts cHold1
  refine CF.fo (CF.fo (((hb.l rfl).l rfl).r) (fun i x hx => cf_show hx) _) (fun i x hx => ?_) _
  unfold fGift
  split
  · exact (hx.l rfl).l rfl
  · exact hx
theorem cf_hold {c : ab_C} {x g : Int32} : CF c (kHold c x g).2.2 := by
  unfold kHold
  refine cf_ite (cf_ite (cf_ite (cf_ite CF.refl ?_) CF.refl) CF.refl) CF.refl
  have h := cf_chold (a := c) (c := c) (b := cNow c x g) (h := x) (g := g) (cf_now CF.refl)
  generalize cHold c (cNow c x g) x g = z at h ⊢
  exact h
theorem cf_mixP {a c : ab_C} {d : Int64} {p : Int32} (h : CF a c) : CF a (cMixP c d p).2 := by
  unfold cMixP
  exact cf_fo2 (g := Prod.snd) (s := (mx (fo (fMp1 c p) d 12) (cWLose c p), c)) (f := fMp2 p) h (fun i x hx => cf_fall hx) _
theorem cf_dg2 {c : ab_C} : CF c (cDg2 c).2 := by
  unfold cDg2
  exact cf_fo2 (g := Prod.snd) (CF.refl (c := c)) (fun i x hx => cf_mixP hx) _

