/-! the answers, one by one -/
theorem cName_eq {c r : ab_C} (h : EQ c r) {p : Int32} (hp : inb p (np r)) : cName c p = if r 7 0 p.toNatClampNeg < 5 then -1 else if r 15 p.toNatClampNeg 5 = -1 then -1 else 12 * r 15 p.toNatClampNeg 5 + p := by
  unfold cName cHolds
  rw [h.st 7 rfl]
  by_cases e : r 7 0 p.toNatClampNeg < 5
  · simp only [e, decide_true, Bool.not_true, Bool.false_eq_true, if_false, if_true]
  · simp only [e, decide_false, Bool.not_false, if_false, if_true, (h.held (inb_eq hp).2 (by decide) (by decide) (k := 5) e).1]
theorem cOfP_eq {c r : ab_C} {n : Nat} (h : EQ c r) (hi : INV n r) {p : Int32} (hp : inb p (np r)) : ∀ w, w < 12 → cOfP c p w = rOfP r p w := by
  intro w hw
  match w, hw with
  | 0, _ => exact congrFun (h.st 5 rfl) _
  | 1, _ => exact congrFun (h.st 6 rfl) _
  | 2, _ => exact congrFun (h.st 7 rfl) _
  | 3, _ => exact congrFun (h.st 8 rfl) _
  | 4, _ => exact congrArg z01 (congrFun (h.st 13 rfl) _)
  | 5, _ => exact congrFun (h.st 9 rfl) _
  | 6, _ => exact cName_eq h hp
  | 7, _ => exact congrArg (fun b => z01 (bI b)) (cUnb_cg h 12 p)
  | 8, _ => exact cPupils_eq h p
  | 9, _ => exact congrFun (h.st 11 rfl) _
  | 10, _ => exact cUnderstood_eq h hi p
  | 11, _ => exact congrFun (h.st 10 rfl) _
  | w + 12, hw => omega
theorem cOfH_eq {c r : ab_C} {n : Nat} (h : EQ c r) (hi : INV n r) {x : Int32} (hx : inb x (nh r)) : ∀ w, w < 5 → cOfH c x w = rOfH r x (nN w) := by
  intro w hw
  match w, hw with
  | 0, _ => exact (congrFun (h.st 3 rfl) _).trans rOfH_0.symm
  | 1, _ => exact (congrFun (h.st 4 rfl) _).trans rOfH_1.symm
  | 2, _ =>
    refine Eq.trans ?_ rOfH_2.symm
    show bc (cLivingOf c x) = _
    rw [cLivingOf_eq h hi, many_living hi]
  | 3, _ => exact (cUnbOf_eq h hi x).trans rOfH_3.symm
  | 4, _ =>
    refine Eq.trans ?_ rOfH_4.symm
    show (if c 3 0 x.toNatClampNeg = -1 then -1 else cAfter c x (c 3 0 x.toNatClampNeg)) = _
    rw [h.st 3 rfl]
    split
    · rfl
    · next e =>
      exact cAfter_eq h hi hx ((hi.rv.2.2.2.1 x.toNatClampNeg (inb_eq hx).2).1.resolve_left e)
  | w + 5, hw => omega
theorem cOfS_eq {c r : ab_C} {n : Nat} (h : EQ c r) (hi : INV n r) {s : Int32} : ∀ w, w < 7 → cOfS c s w = rOfS r s (nN w) := by
  intro w hw
  match w, hw with
  | 0, _ => exact congrFun (h.st 22 rfl) _
  | 1, _ => exact congrFun (h.st 23 rfl) _
  | 2, _ => exact (congrArg z01 (congrFun (h.st 24 rfl) _)).trans (z01_b01 (hi.b01 24 (Or.inr (Or.inl rfl)) _))
  | 3, _ => exact (congrArg z01 (congrFun (h.st 25 rfl) _)).trans (z01_b01 (hi.b01 25 (Or.inr (Or.inr (Or.inl rfl))) _))
  | 4, _ => exact readers_eq h hi s
  | 5, _ => exact cKnowers_eq h s
  | 6, _ => exact cComing_eq h hi s
  | w + 7, hw => omega
theorem cOfU_eq {c r : ab_C} {n : Nat} (h : EQ c r) (hi : INV n r) (hn : n ≤ 600) {u : Int32} (hu : inb u (nu r)) : ∀ w, w < 8 → cOfU c u w = rOfU r u w := by
  intro w hw
  match w, hw with
  | 0, _ => exact congrFun (h.st 26 rfl) _
  | 1, _ => exact congrFun (h.st 27 rfl) _
  | 2, _ => exact congrFun (h.st 28 rfl) _
  | 3, _ => exact congrFun (h.st 29 rfl) _
  | 4, _ => exact congrFun (h.st 30 rfl) _
  | 5, _ => exact congrArg z01 (congrFun (h.st 32 rfl) _)
  | 6, _ => exact congrFun (h.st 31 rfl) _
  | 7, _ =>
    obtain ⟨j, hj, rfl⟩ := nN_ex hu
    have hj2 := hi.cn.2.2.2.2
    show cSeenBy c (nN j) (c 61 0 6) = rSeenBy r (nN j).toNatClampNeg
    rw [nN_nat (by omega)]
    exact cSeenBy_eq h hi hn hj
  | w + 8, hw => omega
theorem cMany_eq {c r : ab_C} {n : Nat} (h : EQ c r) (hi : INV n r) : ∀ w, w < 14 → cMany c w = rMany r w := by
  intro w hw
  match w, hw with
  | 0, _ => exact h.d6
  | 1, _ => exact h.c35.trans hi.cn.1.1
  | 2, _ => exact cLiving_eq h hi
  | 3, _ => exact h.c36.trans hi.cn.2.1.1
  | 4, _ => exact h.c37.trans hi.cn.2.2.1.1
  | 5, _ => exact cLost_eq h hi
  | 6, _ => exact h.c38.trans hi.cn.2.2.2.1
  | 7, _ => exact h.d10
  | 8, _ => exact congrArg cSeason h.d6
  | 9, _ => exact cSumCoins_eq h
  | 10, _ => exact h.d7
  | 11, _ => exact h.d8
  | 12, _ => exact h.d9
  | 13, _ => exact cQuarrels_all h hi
  | w + 14, hw => omega
theorem rng_ex1 {s : Int32} (h : cRng s 1 9 = true) : ∃ k, 1 ≤ k ∧ k < 10 ∧ s = nN k := by
  obtain ⟨a, b⟩ := rng_in h
  obtain ⟨e, hl⟩ := inb_eq a
  exact ⟨_, b, hl, e⟩
theorem cGiv_eq {c r : ab_C} (h : EQ c r) {p s b : Int32} (hp : inb p (np r)) (hs : cRng s 1 9 = true) : cGiv c p s b = rGv r p s b := by
  obtain ⟨k, h1, h9, rfl⟩ := rng_ex1 hs
  unfold cGiv rGv cHolds
  rw [h.st 7 rfl, nN_nat (show k < 2147483648 by omega)]
  by_cases e : r 7 0 p.toNatClampNeg < nN k
  · simp only [e, decide_true, Bool.not_true, Bool.false_eq_true, if_false, if_true]
  · have := h.held (inb_eq hp).2 h1 h9 e
    simp only [e, decide_false, Bool.not_false, if_false, if_true, this.1, this.2]
theorem cWLose_eq {c r : ab_C} {n : Nat} (h : EQ c r) (hi : INV n r) {p : Int32} (hp : inb p (np r)) : cWLose c p = if r 13 0 p.toNatClampNeg = 0 then 0 else rLosing r p := by
  unfold cWLose
  rw [h.st 13 rfl]
  split
  · rfl
  · next e => exact cLostWith_eq h hi hp e
