/-! a house more; parting; a secret more -/
theorem u3_in {c : ab_C} {s i k : Nat} {v : Int32} : u3 c s i k v s i k = v := if_pos ⟨rfl, rfl, rfl⟩
def EQ0 (c r : ab_C) : Prop := ∀ s, eqS s = true → c s 0 = r s 0
theorem EQ0_u {c r : ab_C} {s i k : Nat} {v : Int32} (h : EQ0 c r) : EQ0 (u3 c s i k v) (u3 r s i k v) := fun t ht => by
  funext q
  rw [u3_ap, u3_ap]
  split
  · rfl
  · exact congrFun (h t ht) q
theorem zr_id {c : ab_C} {S n : Nat} (h : ∀ s i k b d, lci S b d = some (s, i, k) → b = n → c s i k = 0) : zr c S n = c := by
  funext s i k
  unfold zr
  cases h9 : lc s i k with
  | none => rfl
  | some x =>
    show (if x.1 = S ∧ x.2.1 = n then 0 else c s i k) = c s i k
    split
    · next e =>
      have := lc_lci h9
      rw [e.1] at this
      exact (h s i k _ _ this e.2).symm
    · rfl
theorem zr_51 {r : ab_C} {n : Nat} (h : INV n r) (hh : 0 < nh r) : zr r 51 (nh r - 1) = r := zr_id (fun s i k b d he hb => by
  have hz := h.z0.2.1
  match d, he with
  | 0, he => cases he; exact hz 3 _ (by decide) (by decide) (by omega)
  | 1, he => cases he; exact hz 4 _ (by decide) (by decide) (by omega)
  | d + 2, he => cases he)
def addH (c : ab_C) (p : Int32) (k : Nat) : ab_C := u3 (u3 (u3 c 3 0 k p) 4 0 k (-1)) 36 0 0 (nN (k + 1))
theorem addH_e {c : ab_C} {p : Int32} {k s i q : Nat} (h3 : s ≠ 3) (h4 : s ≠ 4) (h36 : s ≠ 36) : addH c p k s i q = c s i q := by
  unfold addH
  rw [u3_ap, if_neg (fun z => h36 z.1), u3_ap, if_neg (fun z => h4 z.1), u3_ap, if_neg (fun z => h3 z.1)]
theorem addH_3 {c : ab_C} {p : Int32} {k q : Nat} : addH c p k 3 0 q = if q = k then p else c 3 0 q := by
  unfold addH
  rw [u3_ap, if_neg (by omega), u3_ap, if_neg (by omega), u3_ap]
  by_cases e : q = k
  · rw [if_pos ⟨rfl, rfl, e⟩, if_pos e]
  · rw [if_neg (fun z => e z.2.2), if_neg e]
theorem addH_4 {c : ab_C} {p : Int32} {k q : Nat} : addH c p k 4 0 q = if q = k then -1 else c 4 0 q := by
  unfold addH
  rw [u3_ap, if_neg (by omega), u3_ap]
  by_cases e : q = k
  · rw [if_pos ⟨rfl, rfl, e⟩, if_pos e]
  · rw [if_neg (fun z => e z.2.2), if_neg e, u3_ap, if_neg (by omega)]
theorem addH_EQ {c r : ab_C} {p : Int32} (h : EQ c r) (k : Nat) : EQ (addH c p k) (addH r p k) := by
  have h0 : EQ0 (addH c p k) (addH r p k) := EQ0_u (EQ0_u (EQ0_u h.1))
  refine ⟨h0, ⟨?_, ?_, ?_, ?_⟩, ⟨?_, ?_, ?_, ?_, ?_⟩, fun a q ha h1 h9 hq => ?_, fun u q hu hq => ?_⟩
  · rw [addH_e (by decide) (by decide) (by decide), addH_e (by decide) (by decide) (by decide)]; exact h.c35
  · exact u3_in.trans u3_in.symm
  all_goals first
    | (rw [addH_e (by decide) (by decide) (by decide), addH_e (by decide) (by decide) (by decide)]; first | exact h.c37 | exact h.c38 | exact h.d6 | exact h.d7 | exact h.d8 | exact h.d9 | exact h.d10)
    | skip
  · rw [addH_e (by decide) (by decide) (by decide)] at hq
    rw [addH_e (by decide) (by decide) (by decide), addH_e (by decide) (by decide) (by decide), addH_e (by decide) (by decide) (by decide), addH_e (by decide) (by decide) (by decide)]
    exact h.held ha h1 h9 hq
  · rw [addH_e (by decide) (by decide) (by decide), addH_e (by decide) (by decide) (by decide)]
    exact h.seen hu hq
theorem addH_INV {n : Nat} {r : ab_C} {p : Int32} (h : INV n r) (hp : inb p (np r)) (h4 : nh r < 4) : INV n (addH r p (nh r)) := by
  have e : ∀ s i q, s ≠ 3 → s ≠ 4 → s ≠ 36 → addH r p (nh r) s i q = r s i q := fun s i q a b d => addH_e a b d
  have n1 : np (addH r p (nh r)) = np r := congrArg Int32.toNatClampNeg (e 35 0 0 (by decide) (by decide) (by decide))
  have e36 : addH r p (nh r) 36 0 0 = nN (nh r + 1) := u3_in
  have n2 : nh (addH r p (nh r)) = nh r + 1 := by
    show (addH r p (nh r) 36 0 0).toNatClampNeg = _
    rw [e36, nN_nat (by omega)]
  have n3 : nsc (addH r p (nh r)) = nsc r := congrArg Int32.toNatClampNeg (e 37 0 0 (by decide) (by decide) (by decide))
  have n4 : nu (addH r p (nh r)) = nu r := congrArg Int32.toNatClampNeg (e 38 0 0 (by decide) (by decide) (by decide))
  obtain ⟨z1, z2, z3, z4⟩ := h.z0
  obtain ⟨⟨r1, r2, r3, r4, r5, r6⟩, hA, hQ⟩ := h.rg
  have hpos := (inb_eq hp).2
  obtain ⟨c1, c2, c3, c4⟩ := h.cn
  refine ⟨⟨⟨?_, ?_, ?_, ?_⟩, ⟨⟨fun i hi => ?_, fun i hi => ?_, fun i hi => ?_, fun i hi => ?_, fun i hi => ?_, fun i hi => ?_⟩, ?_, ?_⟩, ⟨fun t j a b d => ?_, fun t j a b d => ?_, fun t j a b d => ?_, fun t j a b d => ?_⟩, ?_⟩, fun t ht j => ?_, ?_, ?_, fun j => ?_⟩
  · rw [n1, e 35 _ _ (by decide) (by decide) (by decide)]; exact c1
  · rw [n2, e36]; exact ⟨rfl, by omega⟩
  · rw [n3, e 37 _ _ (by decide) (by decide) (by decide)]; exact c3
  · rw [n4, e 38 _ _ (by decide) (by decide) (by decide)]; exact c4
  · rw [n1] at hi; rw [n1, e 5 _ _ (by decide) (by decide) (by decide)]; exact r1 i hi
  · rw [n1] at hi; rw [n2, e 9 _ _ (by decide) (by decide) (by decide)]; exact inb_up (r2 i hi) (by omega)
  · rw [n3] at hi; rw [n3, e 23 _ _ (by decide) (by decide) (by decide)]; exact r3 i hi
  · rw [n2] at hi
    rw [n1, addH_3, addH_4]
    by_cases z : i = nh r
    · rw [if_pos z, if_pos z]; exact ⟨Or.inr hp, Or.inl rfl⟩
    · rw [if_neg z, if_neg z]; exact r4 i (by omega)
  · rw [n4] at hi; rw [n1, e 30 _ _ (by decide) (by decide) (by decide)]; exact r5 i hi
  · rw [n1] at hi; rw [e 7 _ _ (by decide) (by decide) (by decide)]; exact r6 i hi
  · obtain ⟨rk, hrk⟩ := hA
    refine ⟨rk, fun i hi => ?_⟩
    rw [n1] at hi
    rw [e 5 _ _ (by decide) (by decide) (by decide)]
    exact hrk i hi
  · obtain ⟨rk, hrk⟩ := hQ
    refine ⟨rk, fun i hi => ?_⟩
    rw [n3] at hi
    rw [e 23 _ _ (by decide) (by decide) (by decide)]
    exact hrk i hi
  · rw [n1] at d; rw [e t _ _ (by omega) (by omega) (by omega)]; exact z1 t j a b d
  · rw [n2] at d
    have : t = 3 ∨ t = 4 := by omega
    rcases this with w | w
    · subst w; rw [addH_3, if_neg (by omega)]; exact z2 3 j a b (by omega)
    · subst w; rw [addH_4, if_neg (by omega)]; exact z2 4 j a b (by omega)
  · rw [n3] at d; rw [e t _ _ (by omega) (by omega) (by omega)]; exact z3 t j a b d
  · rw [n4] at d; rw [e t _ _ (by omega) (by omega) (by omega)]; exact z4 t j a b d
  · unfold FO
    rw [n1]
    simp only [e 12 0 _ (by decide) (by decide) (by decide)]
    exact h.fo
  · rw [e t _ _ (by omega) (by omega) (by omega)]; exact h.b01 t ht j
  · rw [n1]; intro z; omega
  · unfold DY
    rw [e 61 _ _ (by decide) (by decide) (by decide)]
    exact h.dy
  · rw [e 29 _ _ (by decide) (by decide) (by decide)]; exact h.rk j
theorem addH_ST {n : Nat} {c r : ab_C} {p : Int32} (h : ST n c r) (hp : inb p (np r)) (h4 : nh r < 4) : ST n (addH c p (nh r)) (addH r p (nh r)) :=
  ⟨addH_EQ h.1 _, addH_INV h.2.1 hp h4, fun i hi => by rw [addH_e (by decide) (by decide) (by decide)]; exact h.2.2.1 i hi, fun i hi => by rw [addH_e (by decide) (by decide) (by decide)]; exact h.2.2.2 i hi⟩
theorem cDown_cut {c : ab_C} {p v : Int32} {L : Nat} (hp : inb p L) (hv : ∀ i, i < np c → c 5 0 i = -1 ∨ inb (c 5 0 i) (np c)) : ∀ k one, (one = -1 ∨ inb one (np c)) → cDown (u3 c 5 0 p.toNatClampNeg v) p k one = cDown c p k one := by
  intro k
  induction k with
  | zero => intro one _; rfl
  | succ k ih =>
    intro one ho
    unfold cDown
    by_cases e1 : one = -1
    · rw [if_pos e1, if_pos e1]
    · rw [if_neg e1, if_neg e1]
      by_cases e2 : one = p
      · rw [if_pos e2, if_pos e2]
      · rw [if_neg e2, if_neg e2]
        have hin := ho.resolve_left e1
        have e3 : ¬ one.toNatClampNeg = p.toNatClampNeg := fun z => e2 (by rw [(inb_eq hin).1, (inb_eq hp).1, z])
        rw [u3_ap, if_neg (fun z => e3 z.2.2)]
        exact ih _ (hv _ (inb_eq hin).2)
def fDn (C : ab_C) (p hv : Int32) (k : Nat) : Nat → Int32 := fun q => if q = p.toNatClampNeg ∨ (q < k ∧ cDown C p 12 (C 5 0 q) = true) then hv else C 9 0 q
theorem fDn_s {C : ab_C} {p hv : Int32} {k q : Nat} (hq : q ≠ k) : fDn C p hv (k + 1) q = fDn C p hv k q := by
  unfold fDn
  by_cases z : q = p.toNatClampNeg ∨ (q < k ∧ cDown C p 12 (C 5 0 q) = true)
  · rw [if_pos z, if_pos (z.imp_right (fun w => ⟨by omega, w.2⟩))]
  · rw [if_neg z, if_neg (fun w => z (w.imp_right (fun w => ⟨by omega, w.2⟩)))]
theorem wS_u {C : ab_C} {s k : Nat} {f g : Nat → Int32} {v : Int32} (h : ∀ q, q ≠ k → g q = f q) (hk : g k = v) : u3 (wS s f C) s 0 k v = wS s g C := by
  funext a i q
  rw [u3_ap]
  unfold wS
  by_cases e : a = s ∧ i = 0
  · rw [if_pos e, if_pos e]
    by_cases e2 : q = k
    · rw [if_pos ⟨e.1, e.2, e2⟩, e2, hk]
    · rw [if_neg (fun z => e2 z.2.2), h q e2]
  · rw [if_neg (fun z => e ⟨z.1, z.2.1⟩), if_neg e, if_neg e]
theorem fPart_w {C : ab_C} {p hv : Int32} (hp : inb p (np C)) (hRV : ∀ i, i < np C → C 5 0 i = -1 ∨ inb (C 5 0 i) (np C)) : ∀ k, k ≤ np C → fo (fPart p hv) (u3 (u3 C 5 0 p.toNatClampNeg (-1)) 9 0 p.toNatClampNeg hv) k = wS 9 (fDn C p hv k) (u3 C 5 0 p.toNatClampNeg (-1)) := by
  intro k
  induction k with
  | zero =>
    intro _
    funext a i q
    show u3 (u3 C 5 0 p.toNatClampNeg (-1)) 9 0 p.toNatClampNeg hv a i q = _
    rw [u3_ap]
    unfold wS fDn
    by_cases e : a = 9 ∧ i = 0
    · obtain ⟨rfl, rfl⟩ := e
      rw [if_pos (show (9 : Nat) = 9 ∧ (0 : Nat) = 0 from ⟨rfl, rfl⟩)]
      by_cases e2 : q = p.toNatClampNeg
      · rw [if_pos ⟨rfl, rfl, e2⟩]
        exact (if_pos (Or.inl e2)).symm
      · rw [if_neg (fun z => e2 z.2.2)]
        refine Eq.trans ?_ (if_neg (fun z => ?_)).symm
        · rw [u3_ap, if_neg (by omega)]
        · rcases z with z | z
          · exact e2 z
          · omega
    · rw [if_neg (fun z => e ⟨z.1, z.2.1⟩), if_neg e]
  | succ k ih =>
    intro hk
    show fPart p hv k (fo (fPart p hv) (u3 (u3 C 5 0 p.toNatClampNeg (-1)) 9 0 p.toNatClampNeg hv) k) = _
    rw [ih (by omega)]
    have eD : ∀ x, (x = -1 ∨ inb x (np C)) → cDown (wS 9 (fDn C p hv k) (u3 C 5 0 p.toNatClampNeg (-1))) p 12 x = cDown C p 12 x := fun x hx => by
      rw [cDown_cg (r := u3 C 5 0 p.toNatClampNeg (-1)) (by funext q; exact wS_ne (by decide)), cDown_cut hp hRV 12 x hx]
    have hsame : ¬ (k ≠ p.toNatClampNeg ∧ cDown C p 12 (C 5 0 k) = true) → wS 9 (fDn C p hv k) (u3 C 5 0 p.toNatClampNeg (-1)) = wS 9 (fDn C p hv (k + 1)) (u3 C 5 0 p.toNatClampNeg (-1)) := fun hno => by
      refine congrArg (fun f => wS 9 f _) (funext fun q => ?_)
      by_cases e2 : q = k
      · subst e2
        unfold fDn
        by_cases e3 : q = p.toNatClampNeg
        · rw [if_pos (Or.inl e3), if_pos (Or.inl e3)]
        · rw [if_neg (fun z => z.elim e3 (fun w => Nat.lt_irrefl q w.1)), if_neg (fun z => z.elim e3 (fun w => hno ⟨e3, w.2⟩))]
      · exact (fDn_s e2).symm
    unfold fPart
    rw [wS_ne (show (5 : Nat) ≠ 9 by decide)]
    by_cases e : k = p.toNatClampNeg
    · have ev : u3 C 5 0 p.toNatClampNeg (-1) 5 0 k = -1 := if_pos ⟨rfl, rfl, e⟩
      rw [ev, eD _ (Or.inl rfl), if_neg (show ¬ cDown C p 12 (-1) = true from fun z => by cases z)]
      exact hsame (fun z => z.1 e)
    · have ev : u3 C 5 0 p.toNatClampNeg (-1) 5 0 k = C 5 0 k := if_neg (fun z => e z.2.2)
      rw [ev, eD _ (hRV k (by omega))]
      cases h9 : cDown C p 12 (C 5 0 k) with
      | false => rw [if_neg (by decide)]; exact hsame (fun z => by rw [h9] at z; cases z.2)
      | true =>
        rw [if_pos rfl]
        refine wS_u (fun q hq => fDn_s hq) ?_
        exact if_pos (Or.inr ⟨Nat.lt_succ_self k, h9⟩)
theorem fRpart_w {C : ab_C} {p : Int32} {m : Nat} (hp : inb p (np C)) (hn : np C ≤ 12) : ∀ k, k ≤ np C → fo (fRpart p m) C k = wS 9 (fun q => if q < k then fDn C p (nN m) (np C) q else C 9 0 q) C := by
  intro k
  induction k with
  | zero =>
    intro _
    funext a i q
    show C a i q = _
    unfold wS
    split
    · next e => obtain ⟨rfl, rfl⟩ := e; exact (if_neg (by omega)).symm
    · rfl
  | succ k ih =>
    intro hk
    show fRpart p m k (fo (fRpart p m) C k) = _
    rw [ih (by omega)]
    have eD : ∀ x (f : Nat → Int32), cDown (wS 9 f C) p 12 x = cDown C p 12 x := fun x f => cDown_cg (by funext q; exact wS_ne (by decide)) p 12 x
    have hu : ∀ v, fDn C p (nN m) (np C) k = v → u3 (wS 9 (fun q => if q < k then fDn C p (nN m) (np C) q else C 9 0 q) C) 9 0 k v = wS 9 (fun q => if q < k + 1 then fDn C p (nN m) (np C) q else C 9 0 q) C := fun v hv => wS_u (fun q hq => by
      by_cases z : q < k
      · rw [if_pos z, if_pos (by omega)]
      · rw [if_neg z, if_neg (by omega)]) (by rw [if_pos (by omega)]; exact hv)
    unfold fRpart
    rw [nN_sub1, wS_ne (show (5 : Nat) ≠ 9 by decide), eD]
    by_cases e : nN k = p
    · rw [if_pos e]
      exact hu _ (if_pos (Or.inl (by rw [← e, nN_nat (by omega)])))
    · rw [if_neg e]
      have e' : ¬ k = p.toNatClampNeg := fun z => e (by rw [z]; exact (inb_eq hp).1.symm)
      cases h9 : cDown C p 12 (C 5 0 k) with
      | true =>
        rw [if_pos rfl]
        exact hu _ (if_pos (Or.inr ⟨by omega, h9⟩))
      | false =>
        rw [if_neg (by decide)]
        refine congrArg (fun f => wS 9 f C) (funext fun q => ?_)
        by_cases z : q < k
        · rw [if_pos z, if_pos (show q < k + 1 by omega)]
        · by_cases z2 : q = k
          · rw [if_neg z, if_pos (show q < k + 1 by omega)]
            subst z2
            refine (if_neg (fun w => ?_)).symm
            rcases w with w | w
            · exact e' w
            · rw [h9] at w; cases w.2
          · rw [if_neg z, if_neg (show ¬ q < k + 1 by omega)]
def kPart (c : ab_C) (p : Int32) : Int32 × Int32 × ab_C := if cHas c p = true then (if c 13 0 p.toNatClampNeg = 0 then (2, 0, c) else if cHolds c p 8 = true then (if c 3 0 (c 9 0 p.toNatClampNeg).toNatClampNeg = p then (2, 0, c) else if c 36 0 0 < 4 then (0, nN (nh c), cPart c p) else (2, 0, c)) else (2, 0, c)) else (1, 0, c)
theorem o_part {m : ab_M} {p : Int32} (h1 : CI m) (h2 : CV (mi m)) : SP_X6_part [vA 61 0, vI p] m = kout cd2 (kPart (mi m) p) m := by
  rw [e_X6_part h1 h2]
  simp only [kPart, kout_i, kout_0, kout_e t10, kout_e t20, cd2_1, cd2_2]
theorem part_ST {n : Nat} {c r : ab_C} (h : ST n c r) {p : Int32} (hp : inb p (np r)) (h4 : nh r < 4) : ST n (cPart c p) (rPartX r p) := by
  have hpl := (inb_eq hp).2
  have h12 := h.2.1.cn.1.2
  have hh := h.2.1.rv.2.1 _ hpl
  have hh0 : 0 < nh r := by have := (inb_eq hh).2; omega
  have sH := addH_ST h hp h4
  have eR : rPart1 r p = addH r p (nh r) := by
    unfold rPart1
    rw [zr_51 h.2.1 hh0]
    rfl
  have eC : cPart1 c p = u3 (u3 (addH c p (nh r)) 5 0 p.toNatClampNeg (-1)) 9 0 p.toNatClampNeg (nN (nh r)) := by
    unfold cPart1 cHAdd
    rw [h.1.gnh]
    rfl
  unfold cPart rPartX
  rw [eR, eC, h.1.gnh, h.1.gnp]
  have n1 : np (addH r p (nh r)) = np r := congrArg Int32.toNatClampNeg (addH_e (by decide) (by decide) (by decide))
  have n2 : nh (addH r p (nh r)) = nh r + 1 := by
    show (addH r p (nh r) 36 0 0).toNatClampNeg = _
    rw [show addH r p (nh r) 36 0 0 = nN (nh r + 1) from u3_in, nN_nat (by omega)]
  generalize addH r p (nh r) = RH at *
  generalize addH c p (nh r) = CH at *
  have nC : np CH = np RH := sH.1.gnp
  have hpR : inb p (np RH) := by rw [n1]; exact hp
  have hRV := sH.2.1.rv
  rw [← n1, ← nC, fPart_w (by rw [nC]; exact hpR) (fun i hi => by rw [nC] at hi ⊢; rw [rI_s sH 5 _ rfl]; exact hRV.1 i hi) (np CH) (Nat.le_refl _), nC, fRpart_w hpR (by omega) (np RH) (Nat.le_refl _)]
  have eFC : fDn CH p (nN (nh r)) (np RH) = fDn RH p (nN (nh r)) (np RH) := by
    funext q
    unfold fDn
    rw [rI_s sH 5 _ rfl, rI_s sH 9 _ rfl, cDown_cg (sH.1.st 5 rfl)]
  have eFR : (fun q => if q < np RH then fDn RH p (nN (nh r)) (np RH) q else RH 9 0 q) = fDn RH p (nN (nh r)) (np RH) := by
    funext q
    by_cases z : q < np RH
    · rw [if_pos z]
    · rw [if_neg z]
      refine (if_neg (fun w => ?_)).symm
      rcases w with w | w
      · have := (inb_eq hpR).2; omega
      · exact z w.1
  rw [eFC, eFR]
  have eX : u3 (wS 9 (fDn RH p (nN (nh r)) (np RH)) RH) 5 0 p.toNatClampNeg (-1) = wS 9 (fDn RH p (nN (nh r)) (np RH)) (u3 RH 5 0 p.toNatClampNeg (-1)) := by
    funext a i q
    rw [u3_ap]
    unfold wS
    by_cases e : a = 9 ∧ i = 0
    · rw [if_neg (by omega), if_pos e, if_pos e]
    · rw [if_neg e, if_neg e, u3_ap]
  rw [eX]
  have hpl2 := (inb_eq hpR).2
  have s1 := ST_u (s := 5) (i := p.toNatClampNeg) (v := -1) sH rfl (by decide) (by decide) (RG_5 sH.2.1.rg (by
    obtain ⟨rk, hrk⟩ := sH.2.1.rg.2.1
    refine ⟨rk, fun i hi => ⟨(hrk i hi).1, fun hne => ?_⟩⟩
    rw [u3_ap] at hne ⊢
    by_cases e : i = p.toNatClampNeg
    · rw [if_pos ⟨rfl, rfl, e⟩] at hne; exact absurd rfl hne
    · rw [if_neg (fun z => e z.2.2)] at hne ⊢
      exact (hrk i hi).2 hne) (Or.inl rfl)) (rg_p (by decide) (by decide) hpl2) (by omega) (by omega)
  have nU : nh (u3 RH 5 0 p.toNatClampNeg (-1)) = nh RH := rfl
  refine ST_w s1 rfl (by decide) (by omega) (RG_w9 s1.2.1.rg (fun i hi => ?_)) (fun q hq => ?_) (by omega) (by decide)
  · unfold fDn
    split
    · rw [nU, n2, inb_nN (by omega)]; omega
    · exact hRV.2.1 i hi
  · have hq2 : ¬ q < np RH := fun z => hq (rg_p (by decide) (by decide) z)
    unfold fDn
    rw [if_neg (fun w => by rcases w with w | w <;> omega)]
    exact sH.2.1.z0.1 9 q (by decide) (by decide) (by omega)
theorem g_part {n : Nat} {c r : ab_C} (h : ST n c r) (p : Int32) : AG (n + 1) (kPart c p) (rPart r p) := by
  refine AG_b (h.1.has h.2.1 p) (fun e => AG_p (live_p h) (fun _ => AG_no h t20) (fun _ => AG_n (cHolds_iff h) (fun _ => AG_p (by rw [rI_s h 9 _ rfl, rI_s h 3 _ rfl]) (fun _ => AG_no h t20) (fun _ => AG_n ?_ (fun e4 => ?_) (fun _ => AG_no h t20))) (fun _ => AG_no h t20))) (AG_no h t10)
  · have := h.2.1.cn.2.1
    rw [h.1.c36, this.1, nN_lt4 (by omega)]
    omega
  · have := h.2.1.cn.2.1.2
    exact AG_do (by rw [nN_sub1, h.1.gnh]) (part_ST h (has_in h.2.1 e) (by omega))
