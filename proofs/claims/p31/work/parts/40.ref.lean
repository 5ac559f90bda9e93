/-! the reference's state, read as that of the class -/
/-- the row of the house h -/
def hrow (h : Nat) : Nat × Nat := if h = 0 then (49, 0) else (51, h - 1)
/-- where the reference holds what the class holds at that place -/
def lc (s i k : Nat) : Option (Nat × Nat × Nat) := match s, i with
  | 5, 0 => some (48, k, 0)
  | 6, 0 => some (48, k, 1)
  | 7, 0 => some (48, k, 2)
  | 8, 0 => some (48, k, 3)
  | 13, 0 => some (48, k, 4)
  | 9, 0 => some (48, k, 5)
  | 11, 0 => some (48, k, 6)
  | 10, 0 => some (48, k, 7)
  | 12, 0 => some (48, k, 8)
  | 15, i => some (41, i, k)
  | 17, i => some (42, i, k)
  | 3, 0 => some ((hrow k).1, (hrow k).2, 0)
  | 4, 0 => some ((hrow k).1, (hrow k).2, 1)
  | 22, 0 => some (52, k, 0)
  | 23, 0 => some (52, k, 1)
  | 24, 0 => some (52, k, 2)
  | 25, 0 => some (52, k, 3)
  | 26, 0 => some (53, k, 0)
  | 27, 0 => some (53, k, 1)
  | 28, 0 => some (53, k, 2)
  | 29, 0 => some (53, k, 3)
  | 30, 0 => some (53, k, 4)
  | 32, 0 => some (53, k, 5)
  | 31, 0 => some (53, k, 6)
  | 34, i => some (43, i, k)
  | 35, 0 => match k with
    | 0 => some (44, 0, 2)
    | _ => none
  | 36, 0 => match k with
    | 0 => some (45, 0, 2)
    | _ => none
  | 37, 0 => match k with
    | 0 => some (46, 0, 2)
    | _ => none
  | 38, 0 => match k with
    | 0 => some (47, 0, 2)
    | _ => none
  | 61, 0 => match k with
    | 6 => some (62, 0, 5)
    | 7 => some (62, 0, 7)
    | 8 => some (62, 0, 8)
    | 9 => some (62, 0, 9)
    | 10 => some (62, 0, 6)
    | _ => none
  | _, _ => none
/-- .. and back -/
def lci (a b c : Nat) : Option (Nat × Nat × Nat) := match a with
  | 48 => match c with
    | 0 => some (5, 0, b)
    | 1 => some (6, 0, b)
    | 2 => some (7, 0, b)
    | 3 => some (8, 0, b)
    | 4 => some (13, 0, b)
    | 5 => some (9, 0, b)
    | 6 => some (11, 0, b)
    | 7 => some (10, 0, b)
    | 8 => some (12, 0, b)
    | _ => none
  | 41 => some (15, b, c)
  | 42 => some (17, b, c)
  | 49 => match c with
    | 0 => some (3, 0, 0)
    | 1 => some (4, 0, 0)
    | _ => none
  | 51 => match c with
    | 0 => some (3, 0, b + 1)
    | 1 => some (4, 0, b + 1)
    | _ => none
  | 52 => match c with
    | 0 => some (22, 0, b)
    | 1 => some (23, 0, b)
    | 2 => some (24, 0, b)
    | 3 => some (25, 0, b)
    | _ => none
  | 53 => match c with
    | 0 => some (26, 0, b)
    | 1 => some (27, 0, b)
    | 2 => some (28, 0, b)
    | 3 => some (29, 0, b)
    | 4 => some (30, 0, b)
    | 5 => some (32, 0, b)
    | 6 => some (31, 0, b)
    | _ => none
  | 43 => some (34, b, c)
  | 44 => match c with
    | 2 => some (35, 0, 0)
    | _ => none
  | 45 => match c with
    | 2 => some (36, 0, 0)
    | _ => none
  | 46 => match c with
    | 2 => some (37, 0, 0)
    | _ => none
  | 47 => match c with
    | 2 => some (38, 0, 0)
    | _ => none
  | 62 => match c with
    | 5 => some (61, 0, 6)
    | 6 => some (61, 0, 10)
    | 7 => some (61, 0, 7)
    | 8 => some (61, 0, 8)
    | 9 => some (61, 0, 9)
    | _ => none
  | _ => none
theorem lc_lci {s i k : Nat} {x : Nat × Nat × Nat} (h : lc s i k = some x) : lci x.1 x.2.1 x.2.2 = some (s, i, k) := by
  unfold lc at h
  split at h
  all_goals first
    | (cases h; rfl)
    | (cases h; cases k <;> rfl)
    | (split at h <;> cases h <;> rfl)
    | cases h
/-! the reference's walks along teachers and keys -/
/-- the values that the reference holds lie within its counts -/
def RV (c : ab_C) : Prop := (∀ i, i < np c → c 5 0 i = -1 ∨ inb (c 5 0 i) (np c)) ∧ (∀ i, i < np c → inb (c 9 0 i) (nh c)) ∧ (∀ i, i < nsc c → c 23 0 i = -1 ∨ inb (c 23 0 i) (nsc c)) ∧ (∀ i, i < nh c → (c 3 0 i = -1 ∨ inb (c 3 0 i) (np c)) ∧ (c 4 0 i = -1 ∨ inb (c 4 0 i) (np c))) ∧ (∀ i, i < nu c → inb (c 30 0 i) (np c)) ∧ ∀ i, i < np c → inb (c 7 0 i) 10
/-- teachers go up without coming back -/
def AC (c : ab_C) : Prop := ∃ rk : Nat → Nat, ∀ i, i < np c → rk i < 12 ∧ (¬ c 5 0 i = -1 → rk (c 5 0 i).toNatClampNeg < rk i)
/-- keys go down without coming back -/
def QC (c : ab_C) : Prop := ∃ rk : Nat → Nat, ∀ i, i < nsc c → rk i < 8 ∧ (¬ c 23 0 i = -1 → rk (c 23 0 i).toNatClampNeg < rk i)
/-! more of the reference's small methods -/
def rCan (c : ab_C) (u : Nat) (k h : Int32) : Bool := decide (c 26 0 u = k) && (decide (c 30 0 u = h) && (decide (c 32 0 u = 0) && (decide (c 27 0 u = -1) || decide (c 27 0 u = cSeason (c 61 0 6)))))
def rSeen (c : ab_C) (u p : Nat) : Bool := ! decide (c 34 u p = -1) && ! decide (c 34 u p < c 61 0 6 - 120)
/-! loops of the reference over its lists by number -/
def fRv (c : ab_C) (s : Int32) : Nat → Int32 → Int32 := fun i a => if c 13 0 i = 0 then a ||| (z01 0 <<< (nN i &&& 31)) else if inS (c 11 0 i) s = true then a ||| (z01 1 <<< (nN i &&& 31)) else a ||| (z01 0 <<< (nN i &&& 31))
def rLiving (c : ab_C) (s : Int32) : Int32 := fo (fRv c s) 0 (np c)
def fRl (c : ab_C) (p : Int32) : Nat → Int32 → Int32 := fun i a => if c 24 0 i = 0 then (if rLiving c (nN i) = sB p then a ||| (z01 1 <<< (nN i &&& 31)) else a ||| (z01 0 <<< (nN i &&& 31))) else a ||| (z01 0 <<< (nN i &&& 31))
def rLosing (c : ab_C) (p : Int32) : Int32 := fo (fRl c p) 0 (nsc c)
def fRu (c : ab_C) (o : Nat) : Nat → Int32 → Int32 := fun i a => a ||| (z01 (bI (cUnd c o 8 (nN i))) <<< (nN i &&& 31))
def rUnderstood (c : ab_C) (o : Nat) : Int32 := fo (fRu c o) 0 (nsc c)
def rQuarrels (c : ab_C) (s : Int32) : Int32 := fo (fQuarrels c s) 0 (np c) / 2
def fRw (c : ab_C) (u : Nat) (g : Int32) : Nat → Int32 → Int32 := fun i a => if inS g (nN i) = true then (if rSeen c u i = true then a + (-3) else a) else a
def rWorth (c : ab_C) (u : Nat) (g : Int32) : Int32 := fo (fRw c u g) (c 29 0 u) (np c)
def rSad (c : ab_C) (h g : Int32) : Nat → Nat → Bool
  | 0, _ => false
  | k + 1, i => if nN i = h then (if c 13 0 i = 0 then true else rSad c h g k (i + 1)) else if inS g (nN i) = true then (if c 13 0 i = 0 then true else rSad c h g k (i + 1)) else rSad c h g k (i + 1)
def fNx (c : ab_C) (h d : Int32) : Nat → Int32 × Int32 → Int32 × Int32 := fun i a => if nN i = d then a else if c 13 0 i = 0 then a else if c 9 0 i = h then (if a.1 = -1 then nN i else if c 7 0 a.1.toNatClampNeg < c 7 0 i then nN i else a.1, if c 6 0 i = d then (if a.2 = -1 then nN i else if c 7 0 a.2.toNatClampNeg < c 7 0 i then nN i else a.2) else a.2) else a
def rNx (c : ab_C) (h d : Int32) : Int32 × Int32 := fo (fNx c h d) (-1, -1) (np c)
def rNext (c : ab_C) (h d : Int32) : Int32 := if c 4 0 h.toNatClampNeg = -1 then (if (rNx c h d).2 = -1 then (rNx c h d).1 else (rNx c h d).2) else if c 4 0 h.toNatClampNeg = d then (if (rNx c h d).2 = -1 then (rNx c h d).1 else (rNx c h d).2) else if c 13 0 (c 4 0 h.toNatClampNeg).toNatClampNeg = 0 then (if (rNx c h d).2 = -1 then (rNx c h d).1 else (rNx c h d).2) else if c 9 0 (c 4 0 h.toNatClampNeg).toNatClampNeg = h then c 4 0 h.toNatClampNeg else (if (rNx c h d).2 = -1 then (rNx c h d).1 else (rNx c h d).2)
/-! running forwards; specifications by choice; cells that nobody keeps -/
def gto (T : ab_T) (pc : Nat) (ls : ab_L) (st : List ab_V) (m : ab_M) (pc' : Nat) (ls' : ab_L) (st' : List ab_V) (m' : ab_M) : Prop := ∀ (R : ab_R → Prop) (K : ab_K), Closed T R K → K pc' ls' st' m' → K pc ls st m
theorem gto.refl {T : ab_T} {pc : Nat} {ls : ab_L} {st : List ab_V} {m : ab_M} : gto T pc ls st m pc ls st m := fun _ _ _ h => h
theorem gto.trans {T : ab_T} {pc pc' pc'' : Nat} {ls ls' ls'' : ab_L} {st st' st'' : List ab_V} {m m' m'' : ab_M} (h : gto T pc ls st m pc' ls' st' m') (h' : gto T pc' ls' st' m' pc'' ls'' st'' m'') : gto T pc ls st m pc'' ls'' st'' m'' := fun R K hC k => h R K hC (h' R K hC k)
noncomputable def chs (T : ab_T) (nL : Nat) (as : List ab_V) (m : ab_M) (P : ab_R → Prop) : ab_O :=
  @dite ab_O (∃ r, ((eL as).length ≤ nL ∧ (mnc m ≤ mnc (resM r) ∧ mns m ≤ mns (resM r)) ∧ Comes_to T (entry nL as) m r) ∧ P r) (Classical.propDecidable _) (fun h => some (Classical.choose h)) (fun _ => none)
theorem chs_ok {T : ab_T} {nL : Nat} {as : List ab_V} {m : ab_M} {P : ab_R → Prop} (h : ∃ r, ((eL as).length ≤ nL ∧ (mnc m ≤ mnc (resM r) ∧ mns m ≤ mns (resM r)) ∧ Comes_to T (entry nL as) m r) ∧ P r) : ∃ r, chs T nL as m P = some r ∧ P r := by
  unfold chs
  exact ⟨_, dif_pos h, (Classical.choose_spec h).2⟩
theorem ctr_chs {l : Launch} {D : va_G} {cA : Nat → ClassId} {d nL : Nat} {y : MethodName} {cc : ByteArray} {ret : Option FieldType} {T : ab_T} {as : List ab_V} {m : ab_M} {P : ab_R → Prop} (hpl : plainName y.cls = true)
    (hst : l.stackTraces = false) (hd : 1 ≤ d) (hS : Sound l D cA d nL y cc ret [] T) : Ctr l D cA d y (Cond.code y cc nL ret :: TB) as m (chs T nL as m P) := by
  have h : ∀ r, chs T nL as m P = some r → (eL as).length ≤ nL ∧ (mnc m ≤ mnc (resM r) ∧ mns m ≤ mns (resM r)) ∧ Comes_to T (entry nL as) m r := by
    intro r hr
    unfold chs at hr
    split at hr
    · next h9 =>
      cases hr
      exact (Classical.choose_spec h9).1
    · cases hr
  exact ctr_of hpl hst hd hS (fun r hr => (h r hr).1) (fun r hr => (h r hr).2.1) (fun r hr => (h r hr).2.2)
/-! for-each over a list -/
def fRp (c : ab_C) (p : Int32) : Nat → Int32 → Int32 := fun i a => if c 13 0 i = 0 then a + z01 0 else if c 5 0 i = p then a + z01 1 else a + z01 0
def rPupils (c : ab_C) (p : Int32) : Int32 := fo (fRp c p) 0 (np c)
/-! more of what goes over lists -/
def fRlo (c : ab_C) : Nat → Int32 → Int32 := fun i a => a + c 24 0 i
def rLost (c : ab_C) : Int32 := fo (fRlo c) 0 (nsc c)
def fRts (c : ab_C) (s : Int32) : Nat → Int32 × Int32 → Int32 × Int32 := fun i a => (a.1 + z01 (if c 13 0 i = 0 then 0 else if cUnd c i 8 s = false then 0 else 1), a.2 + z01 (if c 13 0 i = 0 then 0 else if c 24 0 s.toNatClampNeg = 0 then (if c 7 0 i < c 22 0 s.toNatClampNeg then 0 else if inS (c 11 0 i) s = false then 1 else 0) else 0))
def rTs (c : ab_C) (s : Int32) : Int32 × Int32 := fo (fRts c s) (0, 0) (np c)
def rOfS (c : ab_C) (s w : Int32) : Int32 := if w < 4 then (if w = 0 then c 22 0 s.toNatClampNeg else if w = 1 then c 23 0 s.toNatClampNeg else if w = 2 then c 24 0 s.toNatClampNeg else c 25 0 s.toNatClampNeg) else if w = 4 then bc (rLiving c s) else if w = 5 then (rTs c s).1 else (rTs c s).2
theorem w4 {w : Int32} (h : inb w 7) : w = 0 ∨ w = 1 ∨ w = 2 ∨ w = 3 ∨ w = 4 ∨ w = 5 ∨ w = 6 := by
  obtain ⟨e, hl⟩ := inb_eq h
  generalize w.toNatClampNeg = k at e hl
  subst e
  match k, hl with
  | 0, _ => exact Or.inl rfl
  | 1, _ => exact Or.inr (Or.inl rfl)
  | 2, _ => exact Or.inr (Or.inr (Or.inl rfl))
  | 3, _ => exact Or.inr (Or.inr (Or.inr (Or.inl rfl)))
  | 4, _ => exact Or.inr (Or.inr (Or.inr (Or.inr (Or.inl rfl))))
  | 5, _ => exact Or.inr (Or.inr (Or.inr (Or.inr (Or.inr (Or.inl rfl)))))
  | 6, _ => exact Or.inr (Or.inr (Or.inr (Or.inr (Or.inr (Or.inr rfl)))))
/-! the reference's answers out of arrays -/
def rOfPl (c : ab_C) (p : Int32) : List Int32 := [c 5 0 p.toNatClampNeg, c 6 0 p.toNatClampNeg, c 7 0 p.toNatClampNeg, c 8 0 p.toNatClampNeg, z01 (c 13 0 p.toNatClampNeg), c 9 0 p.toNatClampNeg, if c 7 0 p.toNatClampNeg < 5 then -1 else if c 15 p.toNatClampNeg 5 = -1 then -1 else 12 * c 15 p.toNatClampNeg 5 + p, z01 (bI (cUnb c 12 p)), rPupils c p, c 11 0 p.toNatClampNeg, rUnderstood c p.toNatClampNeg, c 10 0 p.toNatClampNeg]
def rOfP (c : ab_C) (p : Int32) (w : Nat) : Int32 := (rOfPl c p).getD w 0
def fRs (c : ab_C) (u : Nat) : Nat → Int32 → Int32 := fun i a => a ||| (z01 (bI (rSeen c u i)) <<< (nN i &&& 31))
def rSeenBy (c : ab_C) (u : Nat) : Int32 := fo (fRs c u) 0 (np c)
def rOfUl (c : ab_C) (u : Int32) : List Int32 := [c 26 0 u.toNatClampNeg, c 27 0 u.toNatClampNeg, c 28 0 u.toNatClampNeg, c 29 0 u.toNatClampNeg, c 30 0 u.toNatClampNeg, z01 (c 32 0 u.toNatClampNeg), c 31 0 u.toNatClampNeg, rSeenBy c u.toNatClampNeg]
def rOfU (c : ab_C) (u : Int32) (w : Nat) : Int32 := (rOfUl c u).getD w 0
def fRct (c : ab_C) : Nat → Int32 × Int32 × Int32 → Int32 × Int32 × Int32 := fun i a => (a.1 + z01 (c 13 0 i), a.2.1 + c 8 0 i, a.2.2 + bc (c 12 0 i))
def rCt (c : ab_C) : Int32 × Int32 × Int32 := fo (fRct c) (0, 0, 0) (np c)
def rManyl (c : ab_C) : List Int32 := [c 61 0 6, nN (np c), (rCt c).1, nN (nh c), nN (nsc c), rLost c, nN (nu c), c 61 0 10, cSeason (c 61 0 6), (rCt c).2.1, c 61 0 7, c 61 0 8, c 61 0 9, (rCt c).2.2 / 2]
def rMany (c : ab_C) (w : Nat) : Int32 := (rManyl c).getD w 0
/-! what falls: the reference's way -/
def updN (w : Nat → Nat) (p x : Nat) : Nat → Nat := fun i => if i = p then x else w i
def fRi (g : Nat → Nat → (Nat → Nat) → (Nat → Nat)) (c : ab_C) (p s : Nat) : Nat → (Nat → Nat) → (Nat → Nat) := fun i w => if w i < s then w else if c 15 i s = nN p then g i s w else w
def fRo (g : Nat → Nat → (Nat → Nat) → (Nat → Nat)) (c : ab_C) (p top n : Nat) : Nat → (Nat → Nat) → (Nat → Nat) := fun j w => fo (fRi g c p (top - j)) (updN w p (top - j - 1)) n
def rFall (c : ab_C) : Nat → Nat → Nat → (Nat → Nat) → (Nat → Nat)
  | 0, _, _, w => w
  | k + 1, p, s, w => fo (fRo (rFall c k) c p (w p) (np c)) w (w p + 1 - s)
/-- how many hold the step s -/
def cnw (w : Nat → Nat) (s n : Nat) : Nat := fo (fun i a => if w i < s then a else a + 1) 0 n
theorem cnw_s (w : Nat → Nat) (s n : Nat) : cnw w s (n + 1) = if w n < s then cnw w s n else cnw w s n + 1 := rfl
theorem cnw_le {w w' : Nat → Nat} {s s' : Nat} (h : ∀ i, w' i ≤ w i) (hs : s ≤ s') : ∀ n, cnw w' s' n ≤ cnw w s n
  | 0 => Nat.le_refl _
  | n + 1 => by
    have ih := cnw_le h hs n
    have := h n
    rw [cnw_s, cnw_s]
    split <;> split <;> omega
theorem cnw_lt {w w' : Nat → Nat} {s s' p : Nat} (h : ∀ i, w' i ≤ w i) (hs : s ≤ s') (h1 : s ≤ w p) (h2 : w' p < s') : ∀ n, p < n → cnw w' s' n + 1 ≤ cnw w s n
  | 0, hp => absurd hp (Nat.not_lt_zero _)
  | n + 1, hp => by
    have hl := cnw_le h hs n
    have hn := h n
    rw [cnw_s, cnw_s]
    by_cases e : p = n
    · subst e
      rw [if_pos h2, if_neg (by omega)]; omega
    · have ih := cnw_lt h hs h1 h2 n (by omega)
      split <;> split <;> omega
theorem cnw_n (w : Nat → Nat) (s : Nat) : ∀ n, cnw w s n ≤ n
  | 0 => Nat.le_refl _
  | n + 1 => by
    have := cnw_n w s n
    rw [cnw_s]
    split <;> omega
theorem cnw_pos {w : Nat → Nat} {s p : Nat} (h : s ≤ w p) : ∀ n, p < n → 1 ≤ cnw w s n
  | 0, hp => absurd hp (Nat.not_lt_zero _)
  | n + 1, hp => by
    rw [cnw_s]
    by_cases e : p = n
    · subst e
      rw [if_neg (by omega)]; omega
    · have := cnw_pos h n (by omega)
      split <;> omega
/-! what would fall; a house told -/
/-- the steps, as the reference lays them out -/
def w0 (c : ab_C) : Nat → Nat := fun i => if i < np c then (c 7 0 i).toNatClampNeg else 0
def fRfl (c : ab_C) (r : Nat → Nat) : Nat → Int32 → Int32 := fun i a => a + (c 7 0 i - nN (r i))
def rFalling (c : ab_C) (p s : Int32) : Int32 := fo (fRfl c (rFall c 12 p.toNatClampNeg s.toNatClampNeg (w0 c))) 0 (np c)
def fRh (c : ab_C) (h : Int32) : Nat → Int32 × Int32 → Int32 × Int32 := fun i a => if c 9 0 i = h then (a.1 + z01 (c 13 0 i), a.2 ||| (z01 (bI (cUnb c 12 (nN i))) <<< (nN i &&& 31))) else a
def rTh (c : ab_C) (h : Int32) : Int32 × Int32 := fo (fRh c h) (0, 0) (np c)
def rOfH (c : ab_C) (h w : Int32) : Int32 := if w < 2 then (if w = 0 then c 3 0 h.toNatClampNeg else c 4 0 h.toNatClampNeg) else if w = 2 then (rTh c h).1 else if w = 3 then (rTh c h).2 else if c 3 0 h.toNatClampNeg = -1 then -1 else rNext c h (c 3 0 h.toNatClampNeg)
theorem rOfH_0 {c : ab_C} {h : Int32} : rOfH c h 0 = c 3 0 h.toNatClampNeg := by unfold rOfH; rw [if_pos (by decide), if_pos rfl]
theorem rOfH_1 {c : ab_C} {h : Int32} : rOfH c h 1 = c 4 0 h.toNatClampNeg := by unfold rOfH; rw [if_pos (by decide), if_neg (by decide)]
theorem rOfH_2 {c : ab_C} {h : Int32} : rOfH c h 2 = (rTh c h).1 := by unfold rOfH; rw [if_neg (by decide), if_pos rfl]
theorem rOfH_3 {c : ab_C} {h : Int32} : rOfH c h 3 = (rTh c h).2 := by unfold rOfH; rw [if_neg (by decide), if_neg (by decide), if_pos rfl]
theorem rOfH_4 {c : ab_C} {h : Int32} : rOfH c h 4 = if c 3 0 h.toNatClampNeg = -1 then -1 else rNext c h (c 3 0 h.toNatClampNeg) := by unfold rOfH; rw [if_neg (by decide), if_neg (by decide), if_neg (by decide)]
/-! the reference's best plan -/
def fRth (c : ab_C) (ch : Nat → Int32) (k : Nat) : Nat → Int32 → Int32 := fun i a => if ch i = -1 then a else if c 28 0 (ch i).toNatClampNeg = c 28 0 (ch k).toNatClampNeg then a + (-4) else a
def fRpl (c : ab_C) (ch : Nat → Int32) (g : Int32) : Nat → Int32 → Int32 := fun k a => if ch k = -1 then a else fo (fRth c ch k) (a + rWorth c (ch k).toNatClampNeg g) k
def rPlan (c : ab_C) (ch : Nat → Int32) (g : Int32) : Int32 := fo (fRpl c ch g) 0 4
def updI (w : Nat → Int32) (p : Nat) (x : Int32) : Nat → Int32 := fun i => if i = p then x else w i
def fRb1 (g : (Nat → Int32) → (Nat → Int32) × (Nat → Int32)) (kd : Nat) (x : Int32) (a : (Nat → Int32) × Option (Nat → Int32)) : (Nat → Int32) × Option (Nat → Int32) :=
  ((g (updI a.1 kd x)).1, some (match a.2 with
    | none => (g (updI a.1 kd x)).2
    | some b => if b 4 < (g (updI a.1 kd x)).2 4 then (g (updI a.1 kd x)).2 else b))
def fRb (g : (Nat → Int32) → (Nat → Int32) × (Nat → Int32)) (c : ab_C) (kd : Nat) (h : Int32) : Nat → (Nat → Int32) × Option (Nat → Int32) → (Nat → Int32) × Option (Nat → Int32) := fun i a =>
  if i < nu c then (if rCan c i (nN kd) h = true then fRb1 g kd (nN i) a else a) else fRb1 g kd (-1) a
def rBest (c : ab_C) (h g : Int32) : Nat → (Nat → Int32) → (Nat → Int32) × (Nat → Int32)
  | 0, ch => (ch, fun q => if q < 4 then ch q else rPlan c ch g)
  | k + 1, ch => ((fo (fRb (rBest c h g k) c (3 - k) h) (ch, none) (nu c + 1)).1, (fo (fRb (rBest c h g k) c (3 - k) h) (ch, none) (nu c + 1)).2.getD (fun _ => 0))
theorem rBest_pre {c : ab_C} {h g : Int32} : ∀ k, k ≤ 4 → ∀ ch q, q < 4 - k → (rBest c h g k ch).1 q = ch q
  | 0, _, _, _, _ => rfl
  | k + 1, hk, ch, q, hq => by
    have ih := rBest_pre (c := c) (h := h) (g := g) k (by omega)
    have hx : ∀ x (a : (Nat → Int32) × Option (Nat → Int32)), a.1 q = ch q → (fRb1 (rBest c h g k) (3 - k) x a).1 q = ch q := by
      intro x a ha
      show (rBest c h g k (updI a.1 (3 - k) x)).1 q = ch q
      rw [ih _ q (by omega)]
      exact (if_neg (by omega)).trans ha
    have hi := fo_inv (f := fRb (rBest c h g k) c (3 - k) h) (s := (ch, none)) (n := nu c + 1) (fun _ a => a.1 q = ch q) rfl (by
      intro i a _ ha
      unfold fRb
      split
      · split
        · exact hx _ _ ha
        · exact ha
      · exact hx _ _ ha) (nu c + 1) (Nat.le_refl _)
    exact hi
/-! how many plans; a plan; company -/
theorem fo_congr {σ : Type} {f f' : Nat → σ → σ} {s : σ} : ∀ n, (∀ i a, i < n → f i a = f' i a) → fo f s n = fo f' s n
  | 0, _ => rfl
  | n + 1, h => by
    show f n (fo f s n) = f' n (fo f' s n)
    rw [fo_congr n (fun i a hi => h i a (by omega)), h n _ (Nat.lt_succ_self n)]
def rWorthP (c : ab_C) (h g : Int32) : Int32 := (rBest c h g 4 (fun _ => 0)).2 4 - 6 * rQuarrels c (g ||| sB h)
def rNoCo (c : ab_C) (h g : Int32) : Bool := decide (g < 1) || (! decide (g < 1 <<< (nN (np c) &&& 31)) || (decide (4 < bc g) || inS g h))
/-! what a caller of the reference sees: refusals -/
def rHas (c : ab_C) (p : Int32) : Bool := cRng p 0 (c 35 0 0 - 1)
def rHasH (c : ab_C) (p : Int32) : Bool := cRng p 0 (c 36 0 0 - 1)
theorem rng_in0 {p : Int32} {n : Nat} (hn : n < 1000) : cRng p 0 (nN n - 1) = true ↔ inb p n := by
  unfold cRng
  simp only [Bool.and_eq_true, Bool.not_eq_true', decide_eq_false_iff_not]
  have e : (nN n - 1).toInt = (n : Int) - 1 := by
    rw [Int32.toInt_sub, nN_toInt (by omega), show (1 : Int32).toInt = 1 from rfl]
    rw [Int.bmod_eq_of_le] <;> omega
  unfold inb
  rw [Int32.lt_iff_toInt_lt, Int32.lt_iff_toInt_lt, e]
  have e0 : (0 : Int32).toInt = 0 := rfl
  rw [e0]
  have e2 : p.toNatClampNeg = p.toInt.toNat := rfl
  rw [e2]
  omega
/-- what the reference holds is sound -/
def RG (c : ab_C) : Prop := RV c ∧ AC c ∧ QC c
/-- the sites that soundness speaks of -/
def rgS (s : Nat) : Bool := s == 3 || (s == 4 || (s == 5 || (s == 7 || (s == 9 || (s == 23 || (s == 30 || (s == 35 || (s == 36 || (s == 37 || s == 38)))))))))
theorem RG_of {c c' : ab_C} (h : RG c) (he : ∀ s i k, rgS s = true → c' s i k = c s i k) : RG c' := by
  have n1 : np c' = np c := congrArg Int32.toNatClampNeg (he 35 0 0 rfl)
  have n2 : nh c' = nh c := congrArg Int32.toNatClampNeg (he 36 0 0 rfl)
  have n3 : nsc c' = nsc c := congrArg Int32.toNatClampNeg (he 37 0 0 rfl)
  have n4 : nu c' = nu c := congrArg Int32.toNatClampNeg (he 38 0 0 rfl)
  have e5 := fun i => he 5 0 i rfl
  have e9 := fun i => he 9 0 i rfl
  have e23 := fun i => he 23 0 i rfl
  have e3 := fun i => he 3 0 i rfl
  have e4 := fun i => he 4 0 i rfl
  have e30 := fun i => he 30 0 i rfl
  have e7 := fun i => he 7 0 i rfl
  unfold RG RV AC QC at h ⊢
  simp only [n1, n2, n3, n4, e5, e9, e23, e3, e4, e30, e7]
  exact h
theorem RG_u3 {c : ab_C} {s i k : Nat} {v : Int32} (h : RG c) (hs : rgS s = false) : RG (u3 c s i k v) := RG_of h (fun a b d ha => by
  rw [u3_ap, if_neg]
  rintro ⟨rfl, -, -⟩
  rw [hs] at ha; cases ha)
/-- the fee goes up from one, in what the reference holds -/
def rPay (c : ab_C) : Nat → Int32 → Int32 → ab_C → ab_C
  | 0, _, _, a => a
  | k + 1, one, left, a => if one = -1 then a else
      if c 13 0 one.toNatClampNeg = 0 then
        (if c 5 0 one.toNatClampNeg = -1 then rPay c k (c 5 0 one.toNatClampNeg) left (u3 a 61 0 9 (a 61 0 9 + left)) else rPay c k (c 5 0 one.toNatClampNeg) left a)
      else rPay c k (c 5 0 one.toNatClampNeg) (left - (if c 5 0 one.toNatClampNeg = -1 then left else (left + 1) / 2)) (u3 a 8 0 one.toNatClampNeg (a 8 0 one.toNatClampNeg + (if c 5 0 one.toNatClampNeg = -1 then left else (left + 1) / 2)))
def rGiveX (c : ab_C) (p s t : Int32) : ab_C :=
  u3 (u3 (u3 (u3 (rPay (u3 c 8 0 p.toNatClampNeg (c 8 0 p.toNatClampNeg - 5 * s)) 12 t (5 * s) (u3 c 8 0 p.toNatClampNeg (c 8 0 p.toNatClampNeg - 5 * s))) 7 0 p.toNatClampNeg s) 15 p.toNatClampNeg s.toNatClampNeg t) 17 p.toNatClampNeg s.toNatClampNeg (c 61 0 6)) 61 0 7 (c 61 0 7 + 1)
def rGive (c : ab_C) (p : Int32) : Int32 × Int32 × ab_C :=
  if rHas c p = false then (1, 0, c) else if c 13 0 p.toNatClampNeg = 0 then (2, 0, c) else if c 7 0 p.toNatClampNeg = 9 then (2, 0, c) else if c 5 0 p.toNatClampNeg = -1 then (2, 0, c) else
  if c 13 0 (c 5 0 p.toNatClampNeg).toNatClampNeg = 0 then (0, -2, c) else if c 7 0 (c 5 0 p.toNatClampNeg).toNatClampNeg < c 7 0 p.toNatClampNeg + 1 then (0, -2, c) else
  if ¬ c 7 0 p.toNatClampNeg + 1 < 7 ∧ cUnb c 12 (c 5 0 p.toNatClampNeg) = false then (0, -3, c) else if c 8 0 p.toNatClampNeg < 5 * (c 7 0 p.toNatClampNeg + 1) then (0, -4, c) else
  (0, c 7 0 p.toNatClampNeg + 1, rGiveX c p (c 7 0 p.toNatClampNeg + 1) (c 5 0 p.toNatClampNeg))
/-! what one asks the reference -/
theorem rng_k {w g : Int32} {n : Nat} (h : cRng w 0 g = true) (hg : nN n - 1 = g) (hn : n < 1000) : inb w n := (rng_in0 hn).mp (by rw [hg]; exact h)
def rOfPp (c : ab_C) (p w : Int32) : Int32 × Int32 × ab_C := if rHas c p = false then (1, 0, c) else if cRng w 0 11 = false then (2, 0, c) else (0, rOfP c p w.toNatClampNeg, c)
def rGiver (c : ab_C) (p s b : Int32) : Int32 × Int32 × ab_C := if rHas c p = false then (1, 0, c) else if cRng s 1 9 = false then (2, 0, c) else (0, (if c 7 0 p.toNatClampNeg < s then -1 else if b = 0 then c 15 p.toNatClampNeg s.toNatClampNeg else c 17 p.toNatClampNeg s.toNatClampNeg), c)
def rOfHp (c : ab_C) (h w : Int32) : Int32 × Int32 × ab_C := if rHasH c h = false then (1, 0, c) else if cRng w 0 4 = false then (2, 0, c) else (0, rOfH c h w, c)
def rManyp (c : ab_C) (w : Int32) : Int32 × Int32 × ab_C := if cRng w 0 13 = false then (1, 0, c) else (0, rMany c w.toNatClampNeg, c)
def rWLp (c : ab_C) (p : Int32) : Int32 × Int32 × ab_C := if rHas c p = false then (1, 0, c) else if c 13 0 p.toNatClampNeg = 0 then (0, 0, c) else (0, rLosing c p, c)
/-! the reference's state behind a few writes -/
def fRpass (d : Int32) : Nat → ab_C → ab_C := fun i a => if a 13 0 i = 0 then a else u3 a 8 0 i (a 8 0 i + d * (1 + 2 * rPupils a (nN i)))
def rPassX (c : ab_C) (d : Int32) : ab_C := fo (fRpass d) (u3 c 61 0 6 (c 61 0 6 + d)) (np c)
def rPass (c : ab_C) (d : Int32) : Int32 × Int32 × ab_C := if cRng d 1 90 = false then (1, 0, c) else (0, rPassX c d 61 0 6, rPassX c d)
/-! the reference's revoke and die -/
def fRst (r : Nat → Nat) : Nat → ab_C → ab_C := fun i a => u3 a 7 0 i (nN (r i))
def rRevX (c : ab_C) (p s : Int32) : ab_C := u3 (fo (fRst (rFall c 12 p.toNatClampNeg s.toNatClampNeg (w0 c))) c (np c)) 61 0 8 (fo (fRst (rFall c 12 p.toNatClampNeg s.toNatClampNeg (w0 c))) c (np c) 61 0 8 + rFalling c p s)
def rRev (c : ab_C) (p s : Int32) : Int32 × Int32 × ab_C :=
  if rHas c p = false then (1, 0, c) else if cRng s 1 9 = false then (2, 0, c) else if c 7 0 p.toNatClampNeg < s then (3, 0, c) else if c 15 p.toNatClampNeg s.toNatClampNeg = -1 then (3, 0, c) else (0, rFalling c p s, rRevX c p s)
def fRdl (gone : Int32) : Nat → ab_C → ab_C := fun i a => if inS gone (nN i) = true then u3 a 24 0 i 1 else a
def fRdt (p h n : Int32) : Nat → ab_C → ab_C := fun i a => if a 13 0 i = 0 then a else if a 9 0 i = h then (if a 5 0 i = p then u3 a 5 0 i n else a) else a
def rDie1 (c : ab_C) (p : Int32) : ab_C := fo (fRdl (rLosing c p)) c (nsc c)
def rDie2 (c : ab_C) (h n : Int32) : ab_C := u3 (u3 c 3 0 h.toNatClampNeg n) 4 0 h.toNatClampNeg (-1)
def rDie3 (c : ab_C) (p h n : Int32) : ab_C := u3 (fo (fRdt p h n) (rDie2 c h n) (np c)) 5 0 n.toNatClampNeg (-1)
def rDieH (c : ab_C) (p : Int32) : ab_C := if c 3 0 (c 9 0 p.toNatClampNeg).toNatClampNeg = p then (if rNext c (c 9 0 p.toNatClampNeg) p = -1 then rDie2 c (c 9 0 p.toNatClampNeg) (rNext c (c 9 0 p.toNatClampNeg) p) else rDie3 c p (c 9 0 p.toNatClampNeg) (rNext c (c 9 0 p.toNatClampNeg) p)) else c
def rDieX (c : ab_C) (p : Int32) : ab_C := u3 (rDieH (rDie1 c p) p) 13 0 p.toNatClampNeg 0
def rDie (c : ab_C) (p : Int32) : Int32 × Int32 × ab_C := if rHas c p = false then (1, 0, c) else if c 13 0 p.toNatClampNeg = 0 then (2, 0, c) else (0, rDieX c p 3 0 (rDie1 c p 9 0 p.toNatClampNeg).toNatClampNeg, rDieX c p)
theorem rNext_in {c : ab_C} {h d : Int32} (hv : RV c) (hh : inb h (nh c)) : rNext c h d = -1 ∨ inb (rNext c h d) (np c) := by
  have hI := fo_inv (f := fNx c h d) (s := (-1, -1)) (n := np c) (fun _ a => ((a.1 = -1 ∨ inb a.1 (np c)) ∧ (a.2 = -1 ∨ inb a.2 (np c))) ∨ 2147483648 ≤ np c) (Or.inl ⟨Or.inl rfl, Or.inl rfl⟩) (by
    intro i a hi ha
    by_cases hB : np c < 2147483648
    · have ha := ha.resolve_right (by omega)
      refine Or.inl ?_
      have hj : inb (nN i) (np c) := by rw [inb_nN (by omega)]; exact hi
      unfold fNx
      repeat' split
      all_goals first | exact ha | exact ⟨Or.inr hj, Or.inr hj⟩ | exact ⟨Or.inr hj, ha.2⟩ | exact ⟨ha.1, Or.inr hj⟩
    · exact Or.inr (by omega)) (np c) (Nat.le_refl _)
  have hB : np c < 2147483648 := by
    show (c 35 0 0).toNatClampNeg < 2147483648
    have := Int32.toInt_lt (c 35 0 0)
    show (c 35 0 0).toInt.toNat < _
    omega
  have hI := hI.resolve_right (by omega)
  have h4 := (hv.2.2.2.1 _ (inb_eq hh).2).2
  have key : ∀ x, (x = if (rNx c h d).2 = -1 then (rNx c h d).1 else (rNx c h d).2) → (x = -1 ∨ inb x (np c)) := by
    intro x hx
    rw [hx]
    split
    · exact hI.1
    · exact hI.2
  unfold rNext
  split
  · exact key _ rfl
  · next z =>
    split
    · exact key _ rfl
    · split
      · exact key _ rfl
      · split
        · exact h4
        · exact key _ rfl
/-! the reference's hold -/
def okU (c : ab_C) (x : Int32) : Prop := x = -1 ∨ inb x (nu c)
theorem rBest_in {c : ab_C} {h g : Int32} (hn : nu c ≤ 12) : ∀ k, k ≤ 4 → ∀ ch : Nat → Int32, (∀ q, q < 4 - k → okU c (ch q)) → ∀ q, q < 4 → okU c ((rBest c h g k ch).2 q)
  | 0, _, ch, hch, q, hq => by
    show okU c (if q < 4 then ch q else rPlan c ch g)
    rw [if_pos hq]; exact hch q hq
  | k + 1, hk, ch, hch, q, hq => by
    have ih := rBest_in (h := h) (g := g) hn k (by omega)
    have hx : ∀ x (a : (Nat → Int32) × Option (Nat → Int32)), okU c x → ((∀ q, q < 3 - k → a.1 q = ch q) ∧ ∀ f, a.2 = some f → ∀ q, q < 4 → okU c (f q)) →
        (∀ q, q < 3 - k → (fRb1 (rBest c h g k) (3 - k) x a).1 q = ch q) ∧ ∀ f, (fRb1 (rBest c h g k) (3 - k) x a).2 = some f → ∀ q, q < 4 → okU c (f q) := by
      intro x a hx ha
      have hr : ∀ q, q < 4 → okU c ((rBest c h g k (updI a.1 (3 - k) x)).2 q) := ih _ (by
        intro q hq
        unfold updI
        split
        · exact hx
        · rw [ha.1 q (by omega)]; exact hch q (by omega))
      refine ⟨fun q hq => ?_, fun f hf => ?_⟩
      · show (rBest c h g k (updI a.1 (3 - k) x)).1 q = ch q
        rw [rBest_pre k (by omega) _ q (by omega)]
        exact (if_neg (by omega)).trans (ha.1 q hq)
      · unfold fRb1 at hf
        have hf := Option.some.inj hf
        rw [← hf]
        cases hb : a.2 with
        | none => exact hr
        | some b =>
          intro q hq
          show okU c ((if b 4 < (rBest c h g k (updI a.1 (3 - k) x)).2 4 then (rBest c h g k (updI a.1 (3 - k) x)).2 else b) q)
          split
          · exact hr q hq
          · exact ha.2 b hb q hq
    have hi := fo_inv (f := fRb (rBest c h g k) c (3 - k) h) (s := (ch, none)) (n := nu c + 1) (fun _ a => (∀ q, q < 3 - k → a.1 q = ch q) ∧ ∀ f, a.2 = some f → ∀ q, q < 4 → okU c (f q)) ⟨fun _ _ => rfl, fun f hf => by cases hf⟩ (by
      intro i a hi ha
      unfold fRb
      split
      · split
        · exact hx _ _ (Or.inr (by rw [inb_nN (by omega)]; assumption)) ha
        · exact ha
      · exact hx _ _ (Or.inl rfl) ha) (nu c + 1) (Nat.le_refl _)
    have hlast : (fo (fRb (rBest c h g k) c (3 - k) h) (ch, none) (nu c + 1)).2 ≠ none := by
      show (fRb (rBest c h g k) c (3 - k) h (nu c) _).2 ≠ none
      unfold fRb
      rw [if_neg (Nat.lt_irrefl _)]
      unfold fRb1
      exact fun z => by cases z
    show okU c ((fo (fRb (rBest c h g k) c (3 - k) h) (ch, none) (nu c + 1)).2.getD (fun _ => 0) q)
    cases hf : (fo (fRb (rBest c h g k) c (3 - k) h) (ch, none) (nu c + 1)).2 with
    | none => exact absurd hf hlast
    | some f => exact hi.2 f hf q hq
def fRseen (g day : Int32) (u : Nat) : Nat → ab_C → ab_C := fun k a => if inS g (nN k) = true then u3 a 34 u k day else a
def fRsh (pl : Nat → Int32) (g day : Int32) (n : Nat) : Nat → ab_C → ab_C := fun kd a => if pl kd = -1 then a else fo (fRseen g day (pl kd).toNatClampNeg) (u3 a 31 0 (pl kd).toNatClampNeg (a 31 0 (pl kd).toNatClampNeg + 1)) n
def rHold1 (c : ab_C) (h g : Int32) : ab_C := u3 (u3 (u3 c 8 0 h.toNatClampNeg (c 8 0 h.toNatClampNeg - 3 * bc g)) 10 0 h.toNatClampNeg (c 10 0 h.toNatClampNeg + 1)) 61 0 10 (c 61 0 10 + 1)
def rGf (due x : Int32) : Int32 := if due < x then due else x
def fRgift (h g due : Int32) : Nat → ab_C → ab_C := fun k a => if inS g (nN k) = true then u3 (u3 a 8 0 k (a 8 0 k - rGf due (a 8 0 k))) 8 0 h.toNatClampNeg (u3 a 8 0 k (a 8 0 k - rGf due (a 8 0 k)) 8 0 h.toNatClampNeg + rGf due (a 8 0 k)) else a
def rDue (w : Int32) : Int32 := (if 0 < w then w else 0) / 5
def rPl (c : ab_C) (h g : Int32) : Nat → Int32 := (rBest c h g 4 (fun _ => 0)).2
def rHold2 (c : ab_C) (h g : Int32) : ab_C := fo (fRsh (rPl c h g) g (c 61 0 6) (np c)) (rHold1 c h g) 4
def rHoldX (c : ab_C) (h g : Int32) : ab_C := fo (fRgift h g (rDue (rWorthP c h g))) (rHold2 c h g) (np c)
def rHold (c : ab_C) (h g : Int32) : Int32 × Int32 × ab_C :=
  if rHas c h = false then (1, 0, c) else if rNoCo c h g = true then (2, 0, c) else if rSad c h g (np c) 0 = true then (3, 0, c) else if c 8 0 h.toNatClampNeg < 3 * bc g then (3, 0, c) else (0, rWorthP c h g, rHoldX c h g)
theorem rHold1_at {c : ab_C} {h g : Int32} {s i k : Nat} (h8 : s ≠ 8) (h10 : s ≠ 10) (h61 : s ≠ 61 ∨ k ≠ 10) : rHold1 c h g s i k = c s i k := by
  unfold rHold1
  rw [u3_ap, if_neg (fun z => h61.elim (fun e => e z.1) (fun e => e z.2.2)), u3_ap, if_neg (fun z => h10 z.1), u3_ap, if_neg (fun z => h8 z.1)]
/-! new people, houses, secrets, utensils of the reference -/
def zr (c : ab_C) (S n : Nat) : ab_C := fun s i k => match lc s i k with
  | some x => if x.1 = S ∧ x.2.1 = n then 0 else c s i k
  | none => c s i k
/-! the reference's secret, utensil, part, person -/
def rUteX (c : ab_C) (p k s t q : Int32) : ab_C :=
  u3 (fo (fun i a => u3 a 34 (nu c) i (-1)) (u3 (u3 (u3 (u3 (u3 (zr (zr (u3 c 8 0 p.toNatClampNeg (c 8 0 p.toNatClampNeg - 4 * q)) 53 (nu c)) 43 (nu c)) 26 0 (nu c) k) 27 0 (nu c) s) 28 0 (nu c) t) 29 0 (nu c) q) 30 0 (nu c) p) 12) 38 0 0 (nN (nu c + 1))
def rUte (c : ab_C) (p k s t q : Int32) : Int32 × Int32 × ab_C :=
  if rHas c p = false then (1, 0, c) else if cRng k 0 3 = false then (2, 0, c) else if cRng s (-1) 3 = false then (2, 0, c) else if cRng t 0 9 = false then (2, 0, c) else if cRng q 1 9 = false then (2, 0, c) else
  if nu c = 12 then (3, 0, c) else if c 13 0 p.toNatClampNeg = 0 then (3, 0, c) else if c 8 0 p.toNatClampNeg < 4 * q then (3, 0, c) else (0, nN (nu c + 1) - 1, rUteX c p k s t q)
/-! the reference's part, person -/
theorem nN_sub1 {n : Nat} : nN (n + 1) - 1 = nN n := by rw [← nN_succ, Int32.add_sub_cancel]
theorem inb_up {x : Int32} {a b : Nat} (h : inb x a) (hab : a ≤ b) : inb x b := by
  obtain ⟨e, hl⟩ := inb_eq h
  unfold inb at h ⊢
  rintro (z | z)
  · exact h (Or.inl z)
  · omega
def rPer0 (c : ab_C) (n : Nat) (t k h : Int32) : ab_C := u3 (u3 (u3 (zr (zr (u3 (u3 (zr c 48 n) 8 0 n 60) 13 0 n 1) 41 n) 42 n) 5 0 n t) 6 0 n k) 9 0 n h
/-! the reference's person -/
def rPerX (c : ab_C) (t k h : Int32) : ab_C := u3 (rPer0 c (np c) t k h) 35 0 0 (nN (np c + 1))
def fRfd : Nat → ab_C → ab_C := fun i a => u3 (u3 a 15 0 i (-1)) 17 0 i (-1)
def rFou1 (c : ab_C) (k : Int32) : ab_C := fo fRfd (u3 (rPerX c (-1) k 0) 7 0 0 9) 10
def rFouX (c : ab_C) (k : Int32) : ab_C := u3 (u3 (u3 (zr (rFou1 c k) 49 0) 3 0 0 0) 4 0 0 (-1)) 36 0 0 (nN 1)
def rPerson (c : ab_C) (t k : Int32) : Int32 × Int32 × ab_C :=
  if ¬ np c = 0 ∧ rHas c t = false then (1, 0, c) else if ¬ k = -1 ∧ rHas c k = false then (1, 0, c) else if np c = 12 then (2, 0, c) else if ¬ np c = 0 ∧ c 13 0 t.toNatClampNeg = 0 then (2, 0, c) else
  if np c = 0 then (0, nN (np c + 1) - 1, rFouX c k) else (0, nN (np c + 1) - 1, rPerX c t k (c 9 0 t.toNatClampNeg))
/-! the reference's mean and digest -/
def fDm (c : ab_C) : Nat → Int64 → Int64 := fun i d => d * 31 + (rMany c i).toInt64
def fDp1 (c : ab_C) (k : Nat) : Nat → Int64 → Int64 := fun w d => d * 31 + (rOfP c (nN k) w).toInt64
def rGv (c : ab_C) (p s b : Int32) : Int32 := if c 7 0 p.toNatClampNeg < s then -1 else if b = 0 then c 15 p.toNatClampNeg s.toNatClampNeg else c 17 p.toNatClampNeg s.toNatClampNeg
def fDp2 (c : ab_C) (k : Nat) : Nat → Int64 → Int64 := fun j d => ((d * 31 + (rGv c (nN k) (nN (j + 1)) 0).toInt64) * 31 + (rGv c (nN k) (nN (j + 1)) 1).toInt64) * 31 + (rFalling c (nN k) (nN (j + 1))).toInt64
def rDl (c : ab_C) (k : Nat) : Int64 := if c 13 0 k = 0 then 0 else (rLosing c (nN k)).toInt64
def fDp (c : ab_C) : Nat → Int64 → Int64 := fun k d => fo (fDp2 c k) (fo (fDp1 c k) d 12 * 31 + rDl c k) (c 7 0 k).toNatClampNeg
def fDh1 (c : ab_C) (k : Nat) : Nat → Int64 → Int64 := fun w d => d * 31 + (rOfH c (nN k) (nN w)).toInt64
def fDh (c : ab_C) : Nat → Int64 → Int64 := fun k d => fo (fDh1 c k) d 5
def fDs1 (c : ab_C) (k : Nat) : Nat → Int64 → Int64 := fun w d => d * 31 + (rOfS c (nN k) (nN w)).toInt64
def fDs (c : ab_C) : Nat → Int64 → Int64 := fun k d => fo (fDs1 c k) d 7
def fDu1 (c : ab_C) (k : Nat) : Nat → Int64 → Int64 := fun w d => d * 31 + (rOfU c (nN k) w).toInt64
def fDu (c : ab_C) : Nat → Int64 → Int64 := fun k d => fo (fDu1 c k) d 8
def rDig1 (c : ab_C) : Int64 := fo (fDm c) 58226 14
def rDig2 (c : ab_C) : Int64 := fo (fDp c) (rDig1 c) (np c)
def rDig3 (c : ab_C) : Int64 := fo (fDh c) (rDig2 c) (nh c)
def rDig4 (c : ab_C) : Int64 := fo (fDs c) (rDig3 c) (nsc c)
def rDigest (c : ab_C) : Int64 := fo (fDu c) (rDig4 c) (nu c)
