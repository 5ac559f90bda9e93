/-! the same answers -/
theorem z01_0 : z01 0 = 0 := rfl
theorem z01_1 : z01 1 = 1 := rfl
theorem i_add0 (a : Int32) : a + 0 = a := Int32.add_zero a
theorem fo_fst {σ τ : Type} {f : Nat → σ × τ → σ × τ} {g : Nat → σ → σ} (h : ∀ i a, (f i a).1 = g i a.1) (s : σ × τ) : ∀ n, (fo f s n).1 = fo g s.1 n := by
  intro n
  induction n with
  | zero => rfl
  | succ n ih => exact (h n _).trans (congrArg (g n) ih)
theorem fo_snd {σ τ : Type} {f : Nat → σ × τ → σ × τ} {g : Nat → τ → τ} (h : ∀ i a, (f i a).2 = g i a.2) (s : σ × τ) : ∀ n, (fo f s n).2 = fo g s.2 n := by
  intro n
  induction n with
  | zero => rfl
  | succ n ih => exact (h n _).trans (congrArg (g n) ih)
theorem cPupils_eq {c r : ab_C} (h : EQ c r) (p : Int32) : cPupils c p = rPupils r p := by
  unfold cPupils rPupils
  rw [h.gnp]
  refine fo_congr _ (fun i a _ => ?_)
  simp only [fPupils, fRp, h.st 13 rfl, h.st 5 rfl, z01_0, z01_1, i_add0]
theorem cUnderstood_eq {c r : ab_C} {n : Nat} (h : EQ c r) (hi : INV n r) (p : Int32) : cUnderstood c p = rUnderstood r p.toNatClampNeg := by
  unfold cUnderstood rUnderstood
  rw [h.gnsc]
  refine fo_congr _ (fun i a hn => ?_)
  simp only [fUnderstood, fRu, cUnd_cg (h.st 11 rfl) (h.st 23 rfl)]
  rw [orz (by have := hi.cn.2.2.1.2; omega)]
def liv (r : ab_C) (h : Int32) (i : Nat) : Bool := ! decide (r 13 0 i = 0) && decide (r 9 0 i = h)
theorem cLives_eq {c r : ab_C} {i : Nat} (h : EQ c r) (x : Int32) (hi : i < 2147483648) : cLives c (nN i) x = liv r x i := by
  unfold cLives liv
  rw [nN_nat hi, h.st 13 rfl, h.st 9 rfl]
theorem cLivingOf_eq {c r : ab_C} {n : Nat} (h : EQ c r) (hi : INV n r) (x : Int32) : cLivingOf c x = bset (liv r x) (np r) := by
  unfold cLivingOf bset
  rw [h.gnp]
  refine fo_congr _ (fun i a hn => ?_)
  simp only [fLivingOf]
  rw [cLives_eq h x (by have := hi.cn.1.2; omega)]
theorem many_living {r : ab_C} {h : Int32} {n : Nat} (hi : INV n r) : (rTh r h).1 = bc (bset (liv r h) (np r)) := by
  rw [bc_bset hi.cn.1.2, ← fo_cnt]
  unfold rTh
  rw [fo_fst (g := fun i a => if liv r h i = true then a + 1 else a)]
  intro i a
  simp only [fRh, liv]
  by_cases e : r 9 0 i = h
  · simp only [e, if_true, decide_true, Bool.and_true]
    by_cases e2 : r 13 0 i = 0
    · simp only [e2, z01_0, i_add0, decide_true, Bool.not_true, Bool.false_eq_true, if_false]
    · simp only [z01, e2, if_false, decide_false, Bool.not_false, if_true]
  · simp only [e, if_false, decide_false, Bool.and_false, Bool.false_eq_true]
theorem cUnb_live {r : ab_C} {i : Nat} (hi : i < 12) (h : cUnb r 12 (nN i) = true) : ¬ r 13 0 i = 0 := by
  intro e
  unfold cUnb at h
  rw [nN_nat (by omega), e, if_pos rfl] at h
  split at h <;> cases h
theorem cUnbOf_eq {c r : ab_C} {n : Nat} (h : EQ c r) (hi : INV n r) (x : Int32) : cUnbOf c x = (rTh r x).2 := by
  unfold cUnbOf rTh
  rw [h.gnp, fo_snd (g := fun i a => if r 9 0 i = x then a ||| (z01 (bI (cUnb r 12 (nN i))) <<< (nN i &&& 31)) else a)]
  · refine fo_congr _ (fun i a hn => ?_)
    have h12 : i < 12 := by have := hi.cn.1.2; omega
    simp only [fUnb]
    rw [cLives_eq h x (by omega), cUnb_cg h, orz (by omega)]
    unfold liv
    by_cases e : r 9 0 i = x
    · simp only [e, if_true, decide_true, Bool.and_true]
      cases h9 : cUnb r 12 (nN i) with
      | true =>
        simp only [cUnb_live h12 h9, decide_false, Bool.not_false, if_true]
      | false => simp
    · simp only [e, if_false, decide_false, Bool.and_false, Bool.false_eq_true]
  · intro i a
    simp only [fRh]
    split <;> rfl
/-- the highest of a set -/
def fHi (r : ab_C) (f : Nat → Bool) : Nat → Int32 → Int32 := fun i a => if f i = true then (if a = -1 then nN i else if r 7 0 a.toNatClampNeg < r 7 0 i then nN i else a) else a
theorem cHighest_eq {c r : ab_C} {n : Nat} (h : EQ c r) (hi : INV n r) {s : Int32} {f : Nat → Bool} (hf : ∀ i, i < np r → inS s (nN i) = f i) : cHighest c s = fo (fHi r f) (-1) (np r) := by
  unfold cHighest
  rw [h.gnp]
  refine fo_congr _ (fun i a hn => ?_)
  simp only [fHighest, fHi, hf i hn, h.st 7 rfl]
theorem rNx_eq {r : ab_C} {h d : Int32} : rNx r h d = (fo (fHi r (fun i => ! decide (nN i = d) && liv r h i)) (-1) (np r), fo (fHi r (fun i => (! decide (nN i = d) && liv r h i) && decide (r 6 0 i = d))) (-1) (np r)) := by
  refine Prod.ext ?_ ?_
  · refine fo_fst (fun i a => ?_) _ _
    simp only [fNx, fHi, liv]
    by_cases e : nN i = d
    · simp [e]
    · by_cases e2 : r 13 0 i = 0
      · simp [e, e2]
      · by_cases e3 : r 9 0 i = h
        · simp [e, e2, e3]
        · simp [e, e2, e3]
  · refine fo_snd (fun i a => ?_) _ _
    simp only [fNx, fHi, liv]
    by_cases e : nN i = d
    · simp [e]
    · by_cases e2 : r 13 0 i = 0
      · simp [e, e2]
      · by_cases e3 : r 9 0 i = h
        · by_cases e4 : r 6 0 i = d
          · simp [e, e2, e3, e4]
          · simp [e, e2, e3, e4]
        · simp [e, e2, e3]
theorem cChildren_eq {c r : ab_C} (h : EQ c r) (d : Int32) : cChildren c d = bset (fun i => decide (r 6 0 i = d)) (np r) := by
  unfold cChildren bset
  rw [h.gnp]
  refine fo_congr _ (fun i a hn => ?_)
  simp only [fChildren, h.st 6 rfl, decide_eq_true_eq]
theorem cAfter_eq {c r : ab_C} {n : Nat} (h : EQ c r) (hi : INV n r) {x d : Int32} (hx : inb x (nh r)) (hd : inb d (np r)) : cAfter c x d = rNext r x d := by
  obtain ⟨j, hj, rfl⟩ := nN_ex hd
  have hn := hi.cn.1.2
  have h0 : ∀ i, i < np r → inS (cLivingOf c x &&& (sB (nN j) ^^^ (-1))) (nN i) = (! decide (nN i = nN j) && liv r x i) := by
    intro i hn
    rw [inS_bt (by omega), b_and, b_xor, b_m1 _ (by omega), sB_bt (by omega) (by omega), cLivingOf_eq h hi, bset_bt (by omega) _ (by omega), decide_eq_true hn, Bool.true_and, Bool.and_comm, Bool.xor_true]
    rw [decide_eq_decide.mpr (iff_of_eq (nN_inj (a := i) (b := j) (by omega) (by omega)).symm)]
  have e1 : cHighest c (cLivingOf c x &&& (sB (nN j) ^^^ (-1))) = (rNx r x (nN j)).1 := by rw [rNx_eq]; exact cHighest_eq h hi h0
  have e2 : cHighest c ((cLivingOf c x &&& (sB (nN j) ^^^ (-1))) &&& cChildren c (nN j)) = (rNx r x (nN j)).2 := by
    rw [rNx_eq]
    refine cHighest_eq h hi (fun i hn => ?_)
    rw [inS_bt (by omega), b_and, ← inS_bt (by omega), h0 i hn, cChildren_eq h, bset_bt (by omega) _ (by omega), decide_eq_true hn, Bool.true_and]
  unfold cAfter
  rw [e1, e2]
  simp only [cLives, h.st 4 rfl, h.st 13 rfl, h.st 9 rfl]
  unfold rNext
  have hz := ((hi.rv.2.2.2.1 x.toNatClampNeg (inb_eq hx).2).2)
  generalize r 4 0 x.toNatClampNeg = z at *
  by_cases a1 : z = -1
  · simp only [a1, ne_eq, not_true, false_and, if_false, if_true]
  · by_cases a2 : z = nN j
    · simp only [a1, a2, ne_eq, not_true, false_and, and_false, if_false, if_true, ite_self]
    · by_cases a3 : r 13 0 z.toNatClampNeg = 0
      · simp [a1, a2, a3]
      · by_cases a4 : r 9 0 z.toNatClampNeg = x
        · simp [a1, a2, a3, a4]
        · simp [a1, a2, a3, a4]

