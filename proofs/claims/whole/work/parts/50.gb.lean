/-! running forwards; specifications by choice; cells that nobody keeps -/
def gto (T : ab_T) (pc : Nat) (ls : ab_L) (st : List ab_V) (m : ab_M) (pc' : Nat) (ls' : ab_L) (st' : List ab_V) (m' : ab_M) : Prop := ∀ (R : ab_R → Prop) (K : ab_K), Closed T R K → K pc' ls' st' m' → K pc ls st m
theorem gto.refl {T : ab_T} {pc : Nat} {ls : ab_L} {st : List ab_V} {m : ab_M} : gto T pc ls st m pc ls st m := fun _ _ _ h => h
theorem gto.trans {T : ab_T} {pc pc' pc'' : Nat} {ls ls' ls'' : ab_L} {st st' st'' : List ab_V} {m m' m'' : ab_M} (h : gto T pc ls st m pc' ls' st' m') (h' : gto T pc' ls' st' m' pc'' ls'' st'' m'') : gto T pc ls st m pc'' ls'' st'' m'' := fun R K hC k => h R K hC (h' R K hC k)
noncomputable def chs (T : ab_T) (nL : Nat) (as : List ab_V) (m : ab_M) (P : ab_R → Prop) : ab_O :=
  @dite ab_O (∃ r, ((eL as).length ≤ nL ∧ (mnc m ≤ mnc (resM r) ∧ mns m ≤ mns (resM r)) ∧ Comes_to T (entry nL as) m r) ∧ P r) (Classical.propDecidable _) (fun h => some (Classical.choose h)) (fun _ => none)
theorem chs_ok {T : ab_T} {nL : Nat} {as : List ab_V} {m : ab_M} {P : ab_R → Prop} (h : ∃ r, ((eL as).length ≤ nL ∧ (mnc m ≤ mnc (resM r) ∧ mns m ≤ mns (resM r)) ∧ Comes_to T (entry nL as) m r) ∧ P r) : ∃ r, chs T nL as m P = some r ∧ P r := by
  unfold chs
  exact ⟨_, dif_pos h, (Classical.choose_spec h).2⟩
theorem ctr_chs {l : Launch} {D : va_G} {cA : Nat → ClassId} {d nL : Nat} {y : MethodName} {cc : ByteArray} {ret : Option FieldType} {T : ab_T} {as : List ab_V} {m : ab_M} {P : ab_R → Prop} (hpl : plainName y.cls = true)
    (hst : l.stackTraces = false) (hd : 1 ≤ d) (hS : Sound l D cA d nL y cc ret [] T) : Ctr l D cA d y (Cond.code y cc nL ret :: TB) as m (chs T nL as m P) := by
  have h : ∀ r, chs T nL as m P = some r → (eL as).length ≤ nL ∧ (mnc m ≤ mnc (resM r) ∧ mns m ≤ mns (resM r)) ∧ Comes_to T (entry nL as) m r := by
    intro r hr
    unfold chs at hr
    split at hr
    · next h9 =>
      cases hr
      exact (Classical.choose_spec h9).1
    · cases hr
  exact ctr_of hpl hst hd hS (fun r hr => (h r hr).1) (fun r hr => (h r hr).2.1) (fun r hr => (h r hr).2.2)
/-- from m to m' nothing but new cells of the sites that nobody keeps: at most c of them, of w slots -/
def GB (m m' : ab_M) (c w : Nat) : Prop :=
  (∀ s i, gbS s = false ∨ i < mc m s → (∀ k, mi m' s i k = mi m s i k ∧ mr m' s i k = mr m s i k ∧ ml m' s i k = ml m s i k ∧ md m' s i k = md m s i k) ∧ mn m' s i = mn m s i) ∧
  (∀ s, mc m s ≤ mc m' s ∧ (gbS s = false → mc m' s = mc m s)) ∧ (mnc m ≤ mnc m' ∧ mns m ≤ mns m') ∧ (mnc m' ≤ mnc m + c ∧ mns m' ≤ mns m + w)
theorem GB.refl {m : ab_M} : GB m m 0 0 := ⟨fun _ _ _ => ⟨fun _ => ⟨rfl, rfl, rfl, rfl⟩, rfl⟩, fun _ => ⟨Nat.le_refl _, fun _ => rfl⟩, ⟨Nat.le_refl _, Nat.le_refl _⟩, ⟨Nat.le_refl _, Nat.le_refl _⟩⟩
theorem GB.trans {a b e : ab_M} {c w c' w' : Nat} (h : GB a b c w) (h' : GB b e c' w') : GB a e (c + c') (w + w') := by
  obtain ⟨h1, h2, h3, h4⟩ := h
  obtain ⟨g1, g2, g3, g4⟩ := h'
  refine ⟨fun s i hs => ?_, fun s => ⟨Nat.le_trans (h2 s).1 (g2 s).1, fun hg => ((g2 s).2 hg).trans ((h2 s).2 hg)⟩, ⟨by omega, by omega⟩, ⟨by omega, by omega⟩⟩
  have hs' : gbS s = false ∨ i < mc b s := hs.imp_right (fun z => Nat.lt_of_lt_of_le z (h2 s).1)
  have e1 := h1 s i hs
  have e2 := g1 s i hs'
  refine ⟨fun k => ?_, e2.2.trans e1.2⟩
  have f1 := e1.1 k
  have f2 := e2.1 k
  exact ⟨f2.1.trans f1.1, f2.2.1.trans f1.2.1, f2.2.2.1.trans f1.2.2.1, f2.2.2.2.trans f1.2.2.2⟩
theorem GB.le {a b : ab_M} {c w c' w' : Nat} (h : GB a b c w) (hc : c ≤ c') (hw : w ≤ w') : GB a b c' w' := ⟨h.1, h.2.1, h.2.2.1, ⟨Nat.le_trans h.2.2.2.1 (Nat.add_le_add_left hc _), Nat.le_trans h.2.2.2.2 (Nat.add_le_add_left hw _)⟩⟩
theorem GB.oal {m : ab_M} {s L w : Nat} (hs : gbS s = true) : GB m (al m s L w) 1 w := by
  refine ⟨fun t i h => ?_, fun t => ?_, ⟨by rw [mnc_al]; omega, by rw [mns_al]; omega⟩, ⟨by rw [mnc_al]; omega, by rw [mns_al]; omega⟩⟩
  · have hn : ¬ (t = s ∧ i = mc m s) := by
      rintro ⟨rfl, rfl⟩
      rcases h with h | h
      · rw [h] at hs; cases hs
      · omega
    refine ⟨fun k => ⟨?_, ?_, ?_, ?_⟩, ?_⟩
    · rw [mi_al, u2_ap, if_neg hn]
    · rw [mr_al, u2_ap, if_neg hn]
    · rw [ml_al, u2_ap, if_neg hn]
    · rw [md_al, u2_ap, if_neg hn]
    · rw [mn_al, u2_ap, if_neg hn]
  · rw [mc_al]
    unfold u1
    by_cases e : t = s
    · subst e
      rw [if_pos rfl]
      exact ⟨Nat.le_succ _, fun z => by rw [z] at hs; cases hs⟩
    · rw [if_neg e]
      exact ⟨Nat.le_refl _, fun _ => rfl⟩
theorem GB.oI {a m : ab_M} {c w s i k : Nat} {v : Int32} (h : GB a m c w) (hs : gbS s = true) (hi : mc a s ≤ i) : GB a (sI m s i k v) c w := by
  refine ⟨fun t j ht => ?_, h.2.1, h.2.2.1, h.2.2.2⟩
  have e := h.1 t j ht
  refine ⟨fun q => ⟨?_, (e.1 q).2⟩, e.2⟩
  rw [mi_sI, u3_ap, if_neg]
  · exact (e.1 q).1
  · rintro ⟨rfl, rfl, -⟩
    rcases ht with ht | ht
    · rw [ht] at hs; cases hs
    · omega
theorem GB.oR {a m : ab_M} {c w s i k : Nat} {v : Option (Nat × Nat)} (h : GB a m c w) (hs : gbS s = true) (hi : mc a s ≤ i) : GB a (sR m s i k v) c w := by
  refine ⟨fun t j ht => ?_, h.2.1, h.2.2.1, h.2.2.2⟩
  have e := h.1 t j ht
  refine ⟨fun q => ⟨(e.1 q).1, ?_, (e.1 q).2.2⟩, e.2⟩
  rw [mr_sR, u3_ap, if_neg]
  · exact (e.1 q).2.1
  · rintro ⟨rfl, rfl, -⟩
    rcases ht with ht | ht
    · rw [ht] at hs; cases hs
    · omega
theorem GB.gmi {a b : ab_M} {c w s i k : Nat} (h : GB a b c w) (hs : gbS s = false) : mi b s i k = mi a s i k := ((h.1 s i (Or.inl hs)).1 k).1
theorem GB.gmr {a b : ab_M} {c w s i k : Nat} (h : GB a b c w) (hs : gbS s = false) : mr b s i k = mr a s i k := ((h.1 s i (Or.inl hs)).1 k).2.1
theorem GB.gmn {a b : ab_M} {c w s i : Nat} (h : GB a b c w) (hs : gbS s = false) : mn b s i = mn a s i := (h.1 s i (Or.inl hs)).2
theorem GB.gmio {a b : ab_M} {c w s i k : Nat} (h : GB a b c w) (hs : i < mc a s) : mi b s i k = mi a s i k := ((h.1 s i (Or.inr hs)).1 k).1
theorem GB.gmro {a b : ab_M} {c w s i k : Nat} (h : GB a b c w) (hs : i < mc a s) : mr b s i k = mr a s i k := ((h.1 s i (Or.inr hs)).1 k).2.1
theorem GB.gmno {a b : ab_M} {c w s i : Nat} (h : GB a b c w) (hs : i < mc a s) : mn b s i = mn a s i := (h.1 s i (Or.inr hs)).2
theorem GB.grc {a b : ab_M} {c w : Nat} (h : GB a b c w) : rc b = rc a := by
  funext s i k
  unfold rc
  cases h9 : lc s i k with
  | none => rfl
  | some x => exact h.gmi (lc_gb h9).1
theorem SK104 {s : Nat} (h : SK s = 104) : gbS s = false := by
  cases h9 : gbS s with
  | false => rfl
  | true =>
    simp only [gbS, Bool.or_eq_true, beq_iff_eq] at h9
    rcases h9 with rfl | rfl | rfl | rfl | rfl | rfl | rfl <;> cases h
theorem Rls_of {m m' : ab_M} {s n : Nat} {f : Nat → Nat × Nat} (h : Rls m s n f) (hs : gbS s = false) (hr : ∀ s i k, gbS s = false → mr m' s i k = mr m s i k) (hn : ∀ s i, gbS s = false → mn m' s i = mn m s i) (hz : mi m' s 0 2 = mi m s 0 2) : Rls m' s n f := by
  obtain ⟨⟨h1, h2, h3⟩, h4, h5, h6, h7⟩ := h
  have e : ela m' (s, 0) = ela m (s, 0) := by unfold ela; rw [hr _ _ _ hs]
  have e104 := SK104 h3
  refine ⟨⟨h1, by rw [e, hr _ _ _ hs]; exact h2, by rw [e]; exact h3⟩, by rw [hz]; exact h4, ?_, ?_, fun i hi => ?_⟩
  · rw [e, hn _ _ e104]; exact h5
  · rw [e, hn _ _ e104]; exact h6
  · rw [e, hr _ _ _ e104]; exact h7 i hi
theorem RM_of {m m' : ab_M} (h : RM m) (hr : ∀ s i k, gbS s = false → mr m' s i k = mr m s i k) (hn : ∀ s i, gbS s = false → mn m' s i = mn m s i) (hz : mi m' 44 0 2 = mi m 44 0 2 ∧ mi m' 45 0 2 = mi m 45 0 2 ∧ mi m' 46 0 2 = mi m 46 0 2 ∧ mi m' 47 0 2 = mi m 47 0 2) : RM m' := by
  obtain ⟨⟨a1, a2, a3, a4⟩, ⟨b1, b2⟩, ⟨c1, c2⟩, ⟨d1, d2⟩, ⟨e1, e2⟩, f1, f2, f3⟩ := h
  obtain ⟨z1, z2, z3, z4⟩ := hz
  have n1 : np (rc m') = np (rc m) := congrArg Int32.toNatClampNeg z1
  have n2 : nh (rc m') = nh (rc m) := congrArg Int32.toNatClampNeg z2
  have n3 : nsc (rc m') = nsc (rc m) := congrArg Int32.toNatClampNeg z3
  have n4 : nu (rc m') = nu (rc m) := congrArg Int32.toNatClampNeg z4
  refine ⟨⟨(hr 62 0 1 rfl).trans a1, (hr 62 0 2 rfl).trans a2, (hr 62 0 3 rfl).trans a3, (hr 62 0 4 rfl).trans a4⟩, ⟨?_, ?_⟩, ⟨?_, ?_⟩, ⟨?_, ?_⟩, ⟨?_, ?_⟩, fun i hi => ?_, fun i hi => (hn 52 i rfl).trans (f2 i hi), fun i hi => ?_⟩
  · rw [n1]; exact Rls_of b1 rfl hr hn z1
  · rw [n1]; exact b2
  · rw [n2]; exact Rls_of c1 rfl hr hn z2
  · rw [n2]; exact c2
  · rw [n3]; exact Rls_of d1 rfl hr hn z3
  · rw [n3]; exact d2
  · rw [n4]; exact Rls_of e1 rfl hr hn z4
  · rw [n4]; exact e2
  · obtain ⟨g1, g2, g3, g4, g5, g6⟩ := f1 i hi
    exact ⟨(hr _ _ _ rfl).trans g1, (hr _ _ _ rfl).trans g2, (hn _ _ rfl).trans g3, (hn _ _ rfl).trans g4, (hr _ _ _ rfl).trans g5, (hn _ _ rfl).trans g6⟩
  · rw [hn _ _ (by rcases hrow_c i with e | e <;> rw [e] <;> rfl)]; exact f3 i hi
theorem GB.gRM {a b : ab_M} {c w : Nat} (h : GB a b c w) (hm : RM a) : RM b := RM_of hm (fun _ _ _ hs => h.gmr hs) (fun _ _ hs => h.gmn hs) ⟨h.gmi rfl, h.gmi rfl, h.gmi rfl, h.gmi rfl⟩
/-- no size of a list -/
def nsz (s k : Nat) : Bool := ! (k == 2) || (! (s == 44) && (! (s == 45) && (! (s == 46) && ! (s == 47))))
theorem nsz_ne {s k : Nat} (h : nsz s k = true) {t : Nat} (ht : t = 44 ∨ t = 45 ∨ t = 46 ∨ t = 47) (i : Nat) : ¬ (t = s ∧ 0 = i ∧ 2 = k) := by
  rintro ⟨rfl, -, rfl⟩
  rcases ht with rfl | rfl | rfl | rfl <;> cases h
theorem RM_sI {m : ab_M} {s i k : Nat} {v : Int32} (h : RM m) (hs : nsz s k = true) : RM (sI m s i k v) := by
  refine RM_of h (fun _ _ _ _ => rfl) (fun _ _ _ => rfl) ⟨?_, ?_, ?_, ?_⟩
  · exact if_neg (nsz_ne hs (Or.inl rfl) i)
  · exact if_neg (nsz_ne hs (Or.inr (Or.inl rfl)) i)
  · exact if_neg (nsz_ne hs (Or.inr (Or.inr (Or.inl rfl))) i)
  · exact if_neg (nsz_ne hs (Or.inr (Or.inr (Or.inr rfl))) i)
/-- how many cells there are of each kind; the lists' arrays, none of two lists -/
def LI (m : ab_M) (s : Nat) : Prop := (ela m (s, 0) = (1, 0) ∧ mi m s 0 2 = 0) ∨ ((ela m (s, 0)).1 = 59 ∧ (ela m (s, 0)).2 < mc m 59 ∧ mn m 59 (ela m (s, 0)).2 = 10) ∨ ((ela m (s, 0)).1 = 65 ∧ (ela m (s, 0)).2 < mc m 65 ∧ mn m 65 (ela m (s, 0)).2 = 15)
def isS (s : Nat) : Prop := s = 44 ∨ s = 45 ∨ s = 46 ∨ s = 47
def RC (m : ab_M) : Prop := (mc m 48 = np (rc m) ∧ mc m 41 = np (rc m) ∧ mc m 42 = np (rc m)) ∧ mc m 52 = nsc (rc m) ∧ (mc m 53 = nu (rc m) ∧ mc m 43 = nu (rc m)) ∧ (mc m 49 = (if nh (rc m) = 0 then 0 else 1) ∧ mc m 51 = nh (rc m) - 1) ∧ mn m 1 0 = 0 ∧ (∀ s, isS s → LI m s) ∧ (∀ s t, isS s → isS t → s ≠ t → ela m (s, 0) = ela m (t, 0) → (ela m (s, 0)).1 = 1)
def RW (m : ab_M) : Prop := RM m ∧ RC m
theorem RC_of {m m' : ab_M} (h : RC m) (hr : ∀ s i k, gbS s = false → mr m' s i k = mr m s i k) (hn : ∀ s i, gbS s = false → mn m' s i = mn m s i) (hc : ∀ s, gbS s = false → mc m' s = mc m s) (hz : mi m' 44 0 2 = mi m 44 0 2 ∧ mi m' 45 0 2 = mi m 45 0 2 ∧ mi m' 46 0 2 = mi m 46 0 2 ∧ mi m' 47 0 2 = mi m 47 0 2) : RC m' := by
  obtain ⟨⟨a1, a2, a3⟩, b1, ⟨c1, c2⟩, ⟨d1, d2⟩, e1, f1, g1⟩ := h
  obtain ⟨z1, z2, z3, z4⟩ := hz
  have n1 : np (rc m') = np (rc m) := congrArg Int32.toNatClampNeg z1
  have n2 : nh (rc m') = nh (rc m) := congrArg Int32.toNatClampNeg z2
  have n3 : nsc (rc m') = nsc (rc m) := congrArg Int32.toNatClampNeg z3
  have n4 : nu (rc m') = nu (rc m) := congrArg Int32.toNatClampNeg z4
  have hS : ∀ s, isS s → gbS s = false := by rintro s (rfl | rfl | rfl | rfl) <;> rfl
  have he : ∀ s, isS s → ela m' (s, 0) = ela m (s, 0) := fun s hs => by unfold ela; rw [hr _ _ _ (hS s hs)]
  have hz2 : ∀ s, isS s → mi m' s 0 2 = mi m s 0 2 := by rintro s (rfl | rfl | rfl | rfl) <;> assumption
  refine ⟨⟨?_, ?_, ?_⟩, ?_, ⟨?_, ?_⟩, ⟨?_, ?_⟩, (hn 1 0 rfl).trans e1, fun s hs => ?_, fun s t hs ht => ?_⟩
  · rw [n1, hc 48 rfl]; exact a1
  · rw [n1, hc 41 rfl]; exact a2
  · rw [n1, hc 42 rfl]; exact a3
  · rw [n3, hc 52 rfl]; exact b1
  · rw [n4, hc 53 rfl]; exact c1
  · rw [n4, hc 43 rfl]; exact c2
  · rw [n2, hc 49 rfl]; exact d1
  · rw [n2, hc 51 rfl]; exact d2
  · unfold LI
    rw [he s hs, hc 59 rfl, hc 65 rfl, hn 59 _ rfl, hn 65 _ rfl, hz2 s hs]
    exact f1 s hs
  · rw [he s hs, he t ht]; exact g1 s t hs ht
theorem RW_of {m m' : ab_M} (h : RW m) (hr : ∀ s i k, gbS s = false → mr m' s i k = mr m s i k) (hn : ∀ s i, gbS s = false → mn m' s i = mn m s i) (hc : ∀ s, gbS s = false → mc m' s = mc m s) (hz : mi m' 44 0 2 = mi m 44 0 2 ∧ mi m' 45 0 2 = mi m 45 0 2 ∧ mi m' 46 0 2 = mi m 46 0 2 ∧ mi m' 47 0 2 = mi m 47 0 2) : RW m' := ⟨RM_of h.1 hr hn hz, RC_of h.2 hr hn hc hz⟩
theorem GB.gRW {a b : ab_M} {c w : Nat} (h : GB a b c w) (hm : RW a) : RW b := RW_of hm (fun _ _ _ hs => h.gmr hs) (fun _ _ hs => h.gmn hs) (fun _ hs => (h.2.1 _).2 hs) ⟨h.gmi rfl, h.gmi rfl, h.gmi rfl, h.gmi rfl⟩
theorem RW_sI {m : ab_M} {s i k : Nat} {v : Int32} (h : RW m) (hs : nsz s k = true) : RW (sI m s i k v) := by
  refine RW_of h (fun _ _ _ _ => rfl) (fun _ _ _ => rfl) (fun _ _ => rfl) ⟨?_, ?_, ?_, ?_⟩
  · exact if_neg (nsz_ne hs (Or.inl rfl) i)
  · exact if_neg (nsz_ne hs (Or.inr (Or.inl rfl)) i)
  · exact if_neg (nsz_ne hs (Or.inr (Or.inr (Or.inl rfl))) i)
  · exact if_neg (nsz_ne hs (Or.inr (Or.inr (Or.inr rfl))) i)
/-- sites that the reference never touches -/
def frS (s : Nat) : Bool := decide (s < 41) || (s == 61 || (s == 63 || s == 64))
theorem frS_gb {s : Nat} (h : frS s = true) : gbS s = false := by
  cases h9 : gbS s with
  | false => rfl
  | true =>
    simp only [gbS, Bool.or_eq_true, beq_iff_eq] at h9
    rcases h9 with rfl | rfl | rfl | rfl | rfl | rfl | rfl <;> cases h
/-- the reference's frame: c cells, w slots at most -/
def FR (m m' : ab_M) (c w : Nat) : Prop :=
  (∀ s, frS s = true → mi m' s = mi m s ∧ mr m' s = mr m s ∧ ml m' s = ml m s ∧ md m' s = md m s ∧ mn m' s = mn m s ∧ mc m' s = mc m s) ∧ (∀ s, mc m s ≤ mc m' s) ∧ (mnc m ≤ mnc m' ∧ mns m ≤ mns m') ∧ (mnc m' ≤ mnc m + c ∧ mns m' ≤ mns m + w)
theorem FR.refl {m : ab_M} : FR m m 0 0 := ⟨fun _ _ => ⟨rfl, rfl, rfl, rfl, rfl, rfl⟩, fun _ => Nat.le_refl _, ⟨Nat.le_refl _, Nat.le_refl _⟩, ⟨Nat.le_refl _, Nat.le_refl _⟩⟩
theorem FR.trans {a b e : ab_M} {c w c' w' : Nat} (h : FR a b c w) (h' : FR b e c' w') : FR a e (c + c') (w + w') := by
  obtain ⟨h1, h2, h3, h4⟩ := h
  obtain ⟨g1, g2, g3, g4⟩ := h'
  refine ⟨fun s hs => ?_, fun s => Nat.le_trans (h2 s) (g2 s), ⟨by omega, by omega⟩, ⟨by omega, by omega⟩⟩
  have e1 := h1 s hs
  have e2 := g1 s hs
  exact ⟨e2.1.trans e1.1, e2.2.1.trans e1.2.1, e2.2.2.1.trans e1.2.2.1, e2.2.2.2.1.trans e1.2.2.2.1, e2.2.2.2.2.1.trans e1.2.2.2.2.1, e2.2.2.2.2.2.trans e1.2.2.2.2.2⟩
theorem FR.le {a b : ab_M} {c w c' w' : Nat} (h : FR a b c w) (hc : c ≤ c') (hw : w ≤ w') : FR a b c' w' := ⟨h.1, h.2.1, h.2.2.1, ⟨Nat.le_trans h.2.2.2.1 (Nat.add_le_add_left hc _), Nat.le_trans h.2.2.2.2 (Nat.add_le_add_left hw _)⟩⟩
theorem GB.gFR {a b : ab_M} {c w : Nat} (h : GB a b c w) : FR a b c w := by
  refine ⟨fun s hs => ?_, fun s => (h.2.1 s).1, h.2.2.1, h.2.2.2⟩
  have g := frS_gb hs
  refine ⟨?_, ?_, ?_, ?_, ?_, (h.2.1 s).2 g⟩
  · funext i k; exact ((h.1 s i (Or.inl g)).1 k).1
  · funext i k; exact ((h.1 s i (Or.inl g)).1 k).2.1
  · funext i k; exact ((h.1 s i (Or.inl g)).1 k).2.2.1
  · funext i k; exact ((h.1 s i (Or.inl g)).1 k).2.2.2
  · funext i; exact (h.1 s i (Or.inl g)).2
theorem FR.oI {m : ab_M} {s i k : Nat} {v : Int32} (hs : frS s = false) : FR m (sI m s i k v) 0 0 := by
  refine ⟨fun t ht => ⟨?_, rfl, rfl, rfl, rfl, rfl⟩, fun _ => Nat.le_refl _, ⟨Nat.le_refl _, Nat.le_refl _⟩, ⟨Nat.le_refl _, Nat.le_refl _⟩⟩
  funext a b
  refine if_neg ?_
  rintro ⟨rfl, -⟩
  rw [hs] at ht; cases ht
theorem FR.oR {m : ab_M} {s i k : Nat} {v : Option (Nat × Nat)} (hs : frS s = false) : FR m (sR m s i k v) 0 0 := by
  refine ⟨fun t ht => ⟨rfl, ?_, rfl, rfl, rfl, rfl⟩, fun _ => Nat.le_refl _, ⟨Nat.le_refl _, Nat.le_refl _⟩, ⟨Nat.le_refl _, Nat.le_refl _⟩⟩
  funext a b
  refine if_neg ?_
  rintro ⟨rfl, -⟩
  rw [hs] at ht; cases ht
theorem FR.oal {m : ab_M} {s L w : Nat} (hs : frS s = false) : FR m (al m s L w) 1 w := by
  have hn : ∀ t, frS t = true → ∀ i, ¬ (t = s ∧ i = mc m s) := by
    rintro t ht i ⟨rfl, -⟩
    rw [hs] at ht; cases ht
  refine ⟨fun t ht => ⟨?_, ?_, ?_, ?_, ?_, ?_⟩, fun t => ?_, ⟨by rw [mnc_al]; omega, by rw [mns_al]; omega⟩, ⟨by rw [mnc_al]; omega, by rw [mns_al]; omega⟩⟩
  · funext a b; exact congrFun (if_neg (hn t ht a)) b
  · funext a b; exact congrFun (if_neg (hn t ht a)) b
  · funext a b; exact congrFun (if_neg (hn t ht a)) b
  · funext a b; exact congrFun (if_neg (hn t ht a)) b
  · funext a; exact if_neg (hn t ht a)
  · refine if_neg ?_
    rintro rfl
    rw [hs] at ht; cases ht
  · rw [mc_al]
    unfold u1
    split
    · next e => rw [e]; omega
    · exact Nat.le_refl _
/-- only ints of such sites and slots have changed -/
def SI (m a : ab_M) (X : Nat → Nat → Bool) : Prop := a.2 = m.2 ∧ ∀ s i k, X s k = false → mi a s i k = mi m s i k
def XO (X : Nat → Nat → Bool) : Prop := ∀ s k, X s k = true → nsz s k = true ∧ frS s = false
theorem SI.refl {m : ab_M} {X : Nat → Nat → Bool} : SI m m X := ⟨rfl, fun _ _ _ _ => rfl⟩
theorem SI.trans {a b e : ab_M} {X : Nat → Nat → Bool} (h : SI a b X) (h' : SI b e X) : SI a e X := ⟨h'.1.trans h.1, fun s i k hx => (h'.2 s i k hx).trans (h.2 s i k hx)⟩
theorem SI.oI {m a : ab_M} {X : Nat → Nat → Bool} {s i k : Nat} {v : Int32} (h : SI m a X) (hx : X s k = true) : SI m (sI a s i k v) X := by
  refine ⟨h.1, fun t j q ht => ?_⟩
  rw [mi_sI, u3_ap, if_neg]
  · exact h.2 t j q ht
  · rintro ⟨rfl, -, rfl⟩
    rw [hx] at ht; cases ht
theorem SI.smr {m a : ab_M} {X : Nat → Nat → Bool} (h : SI m a X) : mr a = mr m := congrArg (fun z => z.1) h.1
theorem SI.sml {m a : ab_M} {X : Nat → Nat → Bool} (h : SI m a X) : ml a = ml m := congrArg (fun z => z.2.1) h.1
theorem SI.smd {m a : ab_M} {X : Nat → Nat → Bool} (h : SI m a X) : md a = md m := congrArg (fun z => z.2.2.1) h.1
theorem SI.smn {m a : ab_M} {X : Nat → Nat → Bool} (h : SI m a X) : mn a = mn m := congrArg (fun z => z.2.2.2.1) h.1
theorem SI.smc {m a : ab_M} {X : Nat → Nat → Bool} (h : SI m a X) : mc a = mc m := congrArg (fun z => z.2.2.2.2.2.1) h.1
theorem SI.smnc {m a : ab_M} {X : Nat → Nat → Bool} (h : SI m a X) : mnc a = mnc m := congrArg (fun z => z.2.2.2.2.2.2.1) h.1
theorem SI.smns {m a : ab_M} {X : Nat → Nat → Bool} (h : SI m a X) : mns a = mns m := congrArg (fun z => z.2.2.2.2.2.2.2) h.1
theorem SI.siz {m a : ab_M} {X : Nat → Nat → Bool} (h : SI m a X) (hX : XO X) : mi a 44 0 2 = mi m 44 0 2 ∧ mi a 45 0 2 = mi m 45 0 2 ∧ mi a 46 0 2 = mi m 46 0 2 ∧ mi a 47 0 2 = mi m 47 0 2 := by
  have g : ∀ s, nsz s 2 = false → X s 2 = false := fun s hs => by
    cases h9 : X s 2 with
    | false => rfl
    | true => rw [(hX s 2 h9).1] at hs; cases hs
  exact ⟨h.2 _ _ _ (g 44 rfl), h.2 _ _ _ (g 45 rfl), h.2 _ _ _ (g 46 rfl), h.2 _ _ _ (g 47 rfl)⟩
theorem SI.sRM {m a : ab_M} {X : Nat → Nat → Bool} (h : SI m a X) (hX : XO X) (hm : RM m) : RM a := RM_of hm (fun s i k _ => congrFun (congrFun (congrFun h.smr s) i) k) (fun s i _ => congrFun (congrFun h.smn s) i) (h.siz hX)
theorem SI.sRW {m a : ab_M} {X : Nat → Nat → Bool} (h : SI m a X) (hX : XO X) (hm : RW m) : RW a := RW_of hm (fun s i k _ => congrFun (congrFun (congrFun h.smr s) i) k) (fun s i _ => congrFun (congrFun h.smn s) i) (fun s _ => congrFun h.smc s) (h.siz hX)
theorem SI.sFR {m a : ab_M} {X : Nat → Nat → Bool} (h : SI m a X) (hX : XO X) : FR m a 0 0 := by
  refine ⟨fun s hs => ⟨?_, congrFun h.smr s, congrFun h.sml s, congrFun h.smd s, congrFun h.smn s, congrFun h.smc s⟩, fun s => Nat.le_of_eq (congrFun h.smc s).symm, ⟨Nat.le_of_eq h.smnc.symm, Nat.le_of_eq h.smns.symm⟩, ⟨Nat.le_of_eq h.smnc, Nat.le_of_eq h.smns⟩⟩
  funext i k
  refine h.2 s i k ?_
  cases h9 : X s k with
  | false => rfl
  | true => rw [(hX s k h9).2] at hs; cases hs
theorem XO_of {X : Nat → Nat → Bool} (l : List (Nat × Nat)) (h1 : ∀ s k, X s k = true → (s, k) ∈ l) (h2 : ∀ x ∈ l, nsz x.1 x.2 = true ∧ frS x.1 = false) : XO X := fun s k h => h2 (s, k) (h1 s k h)
/-- one of these sites and slots -/
def xo (l : List (Nat × Nat)) : Nat → Nat → Bool := fun s k => l.any (fun x => x.1 == s && x.2 == k)
theorem xo_XO {l : List (Nat × Nat)} (h : ∀ x ∈ l, nsz x.1 x.2 = true ∧ frS x.1 = false) : XO (xo l) := by
  intro s k hx
  unfold xo at hx
  rw [List.any_eq_true] at hx
  obtain ⟨x, hm, he⟩ := hx
  simp only [Bool.and_eq_true, beq_iff_eq] at he
  have := h x hm
  rw [he.1, he.2] at this
  exact this
