/-! contracts, ends, calls -/
def resM (r : ab_R) : ab_M := match r with
  | .inl x => x.2
  | .inr x => x.2
/-- what a method leaves behind: the memory m' at loc', seen from its start st with m0 at loc0 -/
def ab_end (D : va_G) (cA : Nat → ClassId) (loc0 : Nat → Nat → Nat) (m0 : ab_M) (loc' : Nat → Nat → Nat) (m' : ab_M) (st t : State) : Prop :=
  va_P D vwCl (aw cA loc' m') t.heap ∧ ab_D cA loc' m' t.heap ∧ wfM m' ∧ (∀ t i, i < mc m0 t → i < mc m' t ∧ loc' t i = loc0 t i) ∧ (∀ t i, i < mc m' t → ¬ i < mc m0 t → st.heap.size ≤ loc' t i ∧ 2 ≤ t) ∧ va_F (FA loc0 m0 st.heap.size) st t ∧ HF loc' m' t t.heap
def ab_Q (D : va_G) (cA : Nat → ClassId) (loc0 : Nat → Nat → Nat) (m0 : ab_M) (r : ab_R) : Array Value → State → Outcome → State → Prop := fun _ st o t =>
  ∃ (vs : List ab_V) (m' : ab_M) (loc' : Nat → Nat → Nat), r = .inl (vs, m') ∧ o = .returned ((vs.map (cv loc')).head?) ∧ vs.length ≤ 1 ∧ (∀ v ∈ vs, wfV m' v) ∧ ab_end D cA loc0 m0 loc' m' st t
def ab_X (D : va_G) (cA : Nat → ClassId) (loc0 : Nat → Nat → Nat) (m0 : ab_M) (r : ab_R) : String → State → State → Prop := fun E st t =>
  ∃ (m' : ab_M) (loc' : Nat → Nat → Nat), r = .inr (E, m') ∧ ab_end D cA loc0 m0 loc' m' st t
def ab_pre (D : va_G) (cA : Nat → ClassId) (loc0 : Nat → Nat → Nat) (m0 : ab_M) (as : List ab_V) (U : State) : Prop :=
  va_P D vwCl (aw cA loc0 m0) U.heap ∧ ab_D cA loc0 m0 U.heap ∧ wfM m0 ∧ (∀ v ∈ as, wfV m0 v) ∧ VF D cA U ∧ HF loc0 m0 U U.heap ∧ 0 < mc m0 0
def ab_rm (d : Nat) (m : ab_M) (r : ab_R) : Room := { frames := d, cells := mnc (resM r) - mnc m, slots := mns (resM r) - mns m, locals := 100 * d }
/-- the contract: from the arguments as and the memory m, with room for d frames, the method y comes to o -/
def Ctr (l : Launch) (D : va_G) (cA : Nat → ClassId) (d : Nat) (y : MethodName) (ws : List Cond) (as : List ab_V) (m : ab_M) (o : ab_O) : Prop := ∀ r, o = some r →
  (mnc m ≤ mnc (resM r) ∧ mns m ≤ mns (resM r)) ∧ ∀ (loc0 : Nat → Nat → Nat) (sz : Nat), vx_Met l y ws (ab_rm d m r) (va_Pc (as.map (cv loc0)) (fun U => U.heap.size = sz ∧ ab_pre D cA loc0 m as U)) (ab_Q D cA loc0 m r) (ab_X D cA loc0 m r) (mnc (resM r) - mnc m) (mns (resM r) - mns m) (FA loc0 m sz)
theorem hz_grow {C n d : String} {v : Value} {loc0 loc' : Nat → Nat → Nat} {m0 m' : ab_M} {s : State} {H : Heap} (h : va_Z C n d v (PA loc0 m0) s s.heap) (hk : ∀ q : Nat, q < s.heap.size → ¬ FA loc0 m0 s.heap.size q → H[q]? = s.heap[q]?)
    (h5 : ∀ t i, i < mc m0 t → i < mc m' t ∧ loc' t i = loc0 t i) (h6 : ∀ t i, i < mc m' t → ¬ i < mc m0 t → s.heap.size ≤ loc' t i ∧ 2 ≤ t) : va_Z C n d v (PA loc' m') s H := by
  obtain ⟨cf, kf, fi, f, a, cell, h1, h2, h3, h4, h9, h7, h8, h10⟩ := h
  have hlt := (Array.getElem?_eq_some_iff.mp h9).1
  have hn : ¬ FA loc0 m0 s.heap.size a := fun z => z.elim (fun z => h10 z) (fun z => by omega)
  refine ⟨cf, kf, fi, f, a, cell, h1, h2, h3, h4, by rw [hk a hlt hn]; exact h9, h7, h8, ?_⟩
  rintro ⟨t, i, ht, hi, rfl⟩
  by_cases c : i < mc m0 t
  · exact h10 ⟨t, i, ht, c, (h5 t i c).2⟩
  · have := (h6 t i hi c).1; omega
theorem hl_grow {C n d : String} {loc0 loc' : Nat → Nat → Nat} {m0 m' : ab_M} {s : State} {H : Heap} (h : vx_L C n d (PA loc0 m0) s s.heap) (hk : ∀ q : Nat, q < s.heap.size → ¬ FA loc0 m0 s.heap.size q → H[q]? = s.heap[q]?)
    (h5 : ∀ t i, i < mc m0 t → i < mc m' t ∧ loc' t i = loc0 t i) (h6 : ∀ t i, i < mc m' t → ¬ i < mc m0 t → s.heap.size ≤ loc' t i ∧ 2 ≤ t) : vx_L C n d (PA loc' m') s H := by
  obtain ⟨c, k, i, f, a, cell, h1, h2, h3, h4, h9, h7, h8, h11, h12, h10⟩ := h
  have hlt := (Array.getElem?_eq_some_iff.mp h9).1
  have hn : ¬ FA loc0 m0 s.heap.size a := fun z => z.elim (fun z => h10 z) (fun z => by omega)
  refine ⟨c, k, i, f, a, cell, h1, h2, h3, h4, by rw [hk a hlt hn]; exact h9, h7, h8, h11, h12, ?_⟩
  rintro ⟨t, i, ht, hi, rfl⟩
  by_cases c : i < mc m0 t
  · exact h10 ⟨t, i, ht, c, (h5 t i c).2⟩
  · have := (h6 t i hi c).1; omega
theorem hq_grow {C n d : String} {loc0 loc' : Nat → Nat → Nat} {m0 m' : ab_M} {s : State} {H : Heap} (h : vx_Zq C n d (PA loc0 m0) s s.heap) (hk : ∀ q : Nat, q < s.heap.size → ¬ FA loc0 m0 s.heap.size q → H[q]? = s.heap[q]?)
    (h5 : ∀ t i, i < mc m0 t → i < mc m' t ∧ loc' t i = loc0 t i) (h6 : ∀ t i, i < mc m' t → ¬ i < mc m0 t → s.heap.size ≤ loc' t i ∧ 2 ≤ t) : vx_Zq C n d (PA loc' m') s H := by
  obtain ⟨h1, h2⟩ := h
  refine ⟨?_, hl_grow h2 hk h5 h6⟩
  rcases h1 with h1 | ⟨t, h1⟩
  · exact Or.inl (hz_grow h1 hk h5 h6)
  · exact Or.inr ⟨t, hz_grow h1 hk h5 h6⟩
theorem HF.grow {loc0 loc' : Nat → Nat → Nat} {m0 m' : ab_M} {s : State} {H : Heap} (h : HF loc0 m0 s s.heap) (hk : ∀ q : Nat, q < s.heap.size → ¬ FA loc0 m0 s.heap.size q → H[q]? = s.heap[q]?)
    (h5 : ∀ t i, i < mc m0 t → i < mc m' t ∧ loc' t i = loc0 t i) (h6 : ∀ t i, i < mc m' t → ¬ i < mc m0 t → s.heap.size ≤ loc' t i ∧ 2 ≤ t) (h0 : 0 < mc m0 0) : HF loc' m' s H := by
  obtain ⟨h1, h2, h3⟩ := h
  refine ⟨?_, hq_grow h2 hk h5 h6, hq_grow h3 hk h5 h6⟩
  trivial
theorem HF.moved {loc : Nat → Nat → Nat} {m : ab_M} {u U : State} {H : Heap} (hvm : u.vm.Alike U.vm) (h : HF loc m u H) : HF loc m U H :=
  ⟨trivial, vx_Zq.moved hvm h.2.1, vx_Zq.moved hvm h.2.2⟩
theorem va_AOA.moved {ty : FieldType} {u U : State} (hvm : u.vm.Alike U.vm) (h : va_AOA ty u) : va_AOA ty U := by
  have e := Cond.arrayOver_setVmC (args := #[]) (s := u) hvm (.array ty)
  have e2 : (Cond.arrayOver (.array ty)).before #[] U = (Cond.arrayOver (.array ty)).before #[] (u.setVm U.vm) := rfl
  exact e2.trans (e.trans h)
theorem VF.warm {D : va_G} {cA : Nat → ClassId} {s U : State} (hW : s.WarmedH U.vm) (h : VF D cA s) : VF D cA U := by
  obtain ⟨h1, h2, h3, h4, h5, h6, h7, h8, h9, h10, h11⟩ := h
  refine ⟨va_K.moved hW.alike h1, trivial, ⟨va_AOA.moved hW.alike h3.1, trivial, arrOfT_moved hW.alike h3.2.2⟩, fun x hx => va_Nw.warmM hW (h4 x hx), fun x hx => ?_, trivial, trivial, fun x hx => va_Nw.warmC hW (h8 x hx), fun x hx => va_Nc.moved hW.alike (h9 x hx), trivial, fun x hx => va_Nw.warmD hW (h11 x hx)⟩
  obtain ⟨a, ha⟩ := h5 x hx
  exact ⟨a, vk_R.warm hW ha⟩
theorem VF.same {D : va_G} {cA : Nat → ClassId} {s U : State} (h : s.vm = U.vm) (hF : VF D cA s) : VF D cA U := by
  have hA : s.vm.Alike U.vm := by rw [h]; exact Vm.Alike.refl U.vm
  obtain ⟨h1, h2, h3, h4, h5, h6, h7, h8, h9, h10, h11⟩ := hF
  refine ⟨va_K.moved hA h1, trivial, ⟨va_AOA.moved hA h3.1, trivial, arrOfT_moved hA h3.2.2⟩, fun x hx => va_Nw.same rfl h (h4 x hx), fun x hx => ?_, trivial, trivial, fun x hx => va_Nw.same rfl h (h8 x hx), fun x hx => va_Nc.moved hA (h9 x hx), trivial, fun x hx => va_Nw.same rfl h (h11 x hx)⟩
  obtain ⟨a, ha⟩ := h5 x hx
  exact ⟨a, vk_R.same h.symm ha⟩
theorem ab_blind {D : va_G} {cA : Nat → ClassId} {loc0 : Nat → Nat → Nat} {m : ab_M} {as : List ab_V} {av : List Value} {sz : Nat} : FrameBlind (va_Pc av (fun U => U.heap.size = sz ∧ ab_pre D cA loc0 m as U)) := by
  rintro a U g mk ⟨h1, h2, hP, hD, hw, hv, hF, hH, h0⟩
  exact ⟨h1, h2, hP, hD, hw, hv, VF.same rfl hF, HF.moved (Vm.Alike.refl U.vm) hH, h0⟩
section SO
variable {p : Program} {l : Launch} {e : Env} {R : Room} {s : State} {m : MethodId} {args : Array Value} {below : List Frame} {meth : Method} {c : Code} {Q : State → Prop} {D : va_G} {cA : Nat → ClassId} {nL : Nat} {loc0 : Nat → Nat → Nat} {m0 mf : ab_M} {cc : ByteArray} {own : String} {d : Nat}
variable {pc : Nat} {ls : ab_L} {st : List ab_V} {mm : ab_M} {Rr : ab_R → Prop}
/-- the state at a place meets a callee's start -/
theorem ab_at.pre {loc : Nat → Nat → Nat} {H : Heap} {locs : List Loc} {as : List ab_V} (ha : ab_at D cA s loc0 m0 loc mm H locs) (hVF : VF D cA s) (hHF : HF loc0 m0 s s.heap) (h0 : 0 < mc m0 0) (hv : ∀ v ∈ as, wfV mm v) {U : State} (hU : U.heap = H) (hW : s.WarmedH U.vm) : ab_pre D cA loc mm as U := by
  obtain ⟨hP, hD, hw, hS, h5, h6⟩ := ha
  exact ⟨by rw [hU]; exact hP, by rw [hU]; exact hD, hw, hv, VF.warm hW hVF, by rw [hU]; exact HF.moved hW.alike (HF.grow hHF hS.2.1 h5 h6 h0), (h5 0 0 h0).1⟩
/-- the state at a place, behind a callee's end -/
theorem ab_at.back {loc loc' : Nat → Nat → Nat} {H : Heap} {locs L : List Loc} {m' : ab_M} {st₀ t : State} (ha : ab_at D cA s loc0 m0 loc mm H locs) (h0 : st₀.heap = H) (he : ab_end D cA loc mm loc' m' st₀ t) (hL : ∀ q ∈ L, FA loc mm H.size q.base) : ab_at D cA s loc0 m0 loc' m' t.heap (locs ++ L) := by
  obtain ⟨hP, hD, hw, hS, h5, h6⟩ := id ha
  obtain ⟨gP, gD, gw, g5, g6, gF, gH⟩ := he
  have hFA : ∀ q : Nat, FA loc mm H.size q → FA loc0 m0 s.heap.size q := by
    rintro q (⟨t1, i1, ht1, hi1, rfl⟩ | hq)
    · exact ha.fa hi1 ht1
    · exact Or.inr (Nat.le_trans hS.1 hq)
  obtain ⟨f1, f2⟩ := gF
  rw [h0] at f1 f2 g6
  refine ⟨gP, gD, gw, ⟨Nat.le_trans hS.1 f1, fun q q1 q2 => ?_, fun q hq => ?_⟩, fun t1 i1 hi => ?_, fun t1 i1 hi hn => ?_⟩
  · rw [f2 q (Nat.lt_of_lt_of_le q1 hS.1) (fun z => q2 (hFA q z))]
    exact hS.2.1 q q1 q2
  · rcases List.mem_append.mp hq with h | h
    · exact hS.2.2 q h
    · exact hFA _ (hL q h)
  · have a1 := h5 t1 i1 hi
    have a2 := g5 t1 i1 a1.1
    exact ⟨a2.1, a2.2.trans a1.2⟩
  · by_cases c1 : i1 < mc mm t1
    · have a1 := h6 t1 i1 c1 hn
      exact ⟨by rw [(g5 t1 i1 c1).2]; exact a1.1, a1.2⟩
    · have a1 := g6 t1 i1 hi c1
      exact ⟨Nat.le_trans hS.1 a1.1, a1.2⟩
/-- the state at a place, as an end -/
theorem ab_at.end {loc : Nat → Nat → Nat} {H : Heap} {locs : List Loc} {t : State} (ha : ab_at D cA s loc0 m0 loc mm H locs) (hHF : HF loc0 m0 s s.heap) (h0 : 0 < mc m0 0) (ht : t.heap = H) (hA : s.vm.Alike t.vm) : ab_end D cA loc0 m0 loc mm s t := by
  obtain ⟨hP, hD, hw, hS, h5, h6⟩ := ha
  exact ⟨by rw [ht]; exact hP, by rw [ht]; exact hD, hw, h5, h6, hS.F ht, by rw [ht]; exact HF.moved hA (HF.grow hHF hS.2.1 h5 h6 h0)⟩
/-- what the frame's end asks: a result r of the contract's kind -/
def ab_fin (below : List Frame) (args : Array Value) (s : State) (D : va_G) (cA : Nat → ClassId) (loc0 : Nat → Nat → Nat) (m0 : ab_M) (r : ab_R) : State → Prop :=
  vx_MQ below (ab_Q D cA loc0 m0 r) (ab_X D cA loc0 m0 r) args s (mnc (resM r) - mnc m0) (mns (resM r) - mns m0) (FA loc0 m0 s.heap.size)
theorem so_ret {t : Nat} {v : Int32} {ty : FieldType} (hv : t = 0 ∨ v = 0 ∨ v = 1) (ht : (t = 0 ∧ ty = .int) ∨ (t = 1 ∧ ty = .boolean)) : narrow ty (.int v) = .int v := by
  rcases ht with ⟨-, rfl⟩ | ⟨rfl, rfl⟩
  · rfl
  · rcases hv with h | rfl | rfl
    · cases h
    · rfl
    · rfl
theorem so_ireturn (E : ab_env p l R s m args meth c D cA nL loc0 m0 mf cc own d) {r0 : ab_R} (hQ : Q = ab_fin below args s D cA loc0 m0 r0) (hmf : mf = resM r0) (hRr : ∀ r, Rr r → r = r0) (h0 : 0 < mc m0 0) {t : Nat} {ty : FieldType} (hr : meth.sig.returnType = some ty) (ht : (t = 0 ∧ ty = .int) ∨ (t = 1 ∧ ty = .boolean)) (hdg : decode cc pc = .ok (.ireturn, 1)) (h : s_ret t (ab_k p l e R s m args below meth c Q D cA nL loc0 m0 mf) Rr ls st mm) : ab_k p l e R s m args below meth c Q D cA nL loc0 m0 mf pc ls st mm := by
  unfold s_ret at h
  split at h
  · next v =>
    split at h
    · next hv =>
      have hr0 := hRr _ h
      have hmm : mm = mf := by rw [hmf, ← hr0]; rfl
      subst hmm
      refine ⟨⟨Nat.le_refl _, Nat.le_refl _⟩, fun H locs loc lsv ha hcc hl hw => ?_⟩
      rw [hQ]
      unfold ab_fin
      rw [← hr0]
      refine vx_ret ?_
      exact W.zret E.1 E.2.1 hr (so_ret hv ht) (fun t9 ht9 hW => ⟨[vI v], mm, loc, rfl, rfl, by simp, hw, ha.end E.2.2.2.2.2.2.1 h0 ht9 hW.alike⟩) ha.2.2.2.1.2.2 hdg E.2.2.2.2.2.2.2.2.1
    · exact h.elim
  · exact h.elim
theorem so_lreturn (E : ab_env p l R s m args meth c D cA nL loc0 m0 mf cc own d) {r0 : ab_R} (hQ : Q = ab_fin below args s D cA loc0 m0 r0) (hmf : mf = resM r0) (hRr : ∀ r, Rr r → r = r0) (h0 : 0 < mc m0 0) (hr : meth.sig.returnType = some .long) (hdg : decode cc pc = .ok (.lreturn, 1)) (h : s_retL (ab_k p l e R s m args below meth c Q D cA nL loc0 m0 mf) Rr ls st mm) : ab_k p l e R s m args below meth c Q D cA nL loc0 m0 mf pc ls st mm := by
  unfold s_retL at h
  split at h
  · next v =>
    have hr0 := hRr _ h
    have hmm : mm = mf := by rw [hmf, ← hr0]; rfl
    subst hmm
    refine ⟨⟨Nat.le_refl _, Nat.le_refl _⟩, fun H locs loc lsv ha hcc hl hw => ?_⟩
    rw [hQ]
    unfold ab_fin
    rw [← hr0]
    refine vx_ret ?_
    exact W.lret E.1 E.2.1 hr (fun t9 ht9 hW => ⟨[vL v], mm, loc, rfl, rfl, by simp, hw, ha.end E.2.2.2.2.2.2.1 h0 ht9 hW.alike⟩) ha.2.2.2.1.2.2 hdg E.2.2.2.2.2.2.2.2.1
  · exact h.elim
theorem so_vreturn (E : ab_env p l R s m args meth c D cA nL loc0 m0 mf cc own d) {r0 : ab_R} (hQ : Q = ab_fin below args s D cA loc0 m0 r0) (hmf : mf = resM r0) (hRr : ∀ r, Rr r → r = r0) (h0 : 0 < mc m0 0) (hr : meth.sig.returnType = none) (hdg : decode cc pc = .ok (.return_, 1)) (h : s_retV (ab_k p l e R s m args below meth c Q D cA nL loc0 m0 mf) Rr ls st mm) : ab_k p l e R s m args below meth c Q D cA nL loc0 m0 mf pc ls st mm := by
  unfold s_retV at h
  split at h
  · skip
    have hr0 := hRr _ h
    have hmm : mm = mf := by rw [hmf, ← hr0]; rfl
    subst hmm
    refine ⟨⟨Nat.le_refl _, Nat.le_refl _⟩, fun H locs loc lsv ha hcc hl hw => ?_⟩
    rw [hQ]
    unfold ab_fin
    rw [← hr0]
    refine vx_ret ?_
    exact W.vret E.1 E.2.1 hr (fun t9 ht9 hW => ⟨[], mm, loc, rfl, rfl, by simp, hw, ha.end E.2.2.2.2.2.2.1 h0 ht9 hW.alike⟩) ha.2.2.2.1.2.2 hdg E.2.2.2.2.2.2.2.2.1
  · exact h.elim
/-- throw new X("text") in a method without handlers -/
theorem so_throw (E : ab_env p l R s m args meth c D cA nL loc0 m0 mf cc own d) {r0 : ab_R} (hQ : Q = ab_fin below args s D cA loc0 m0 r0) (hmf : mf = resM r0) (hRr : ∀ r, Rr r → r = r0) (h0 : 0 < mc m0 0) {X text : String} {ik ic is : Nat} (htab : c.exceptionTable.toList = []) (hown : own = "Iemotohall") (hX : (X, X) ∈ CST) (hcls : Bundle.fit X = true) (hq1 : Cond.classLink own ik X ∈ TB) (hq2 : Cond.initialized X ∈ TB) (hstr : (own, is, text) ∈ STR)
    (hat : ∀ w ∈ (vx_atS own ic X ["java/lang/RuntimeException", "java/lang/Exception"]).filter goodWord, w ∈ TB) (hat2 : ∀ w ∈ (vx_atS own ic X ["java/lang/RuntimeException", "java/lang/Exception"]).filter (fun w => !goodWord w), w ∈ Cond.castable X X :: DCL.map Cond.declares) (hgood : ∀ w ∈ Cond.classLink own ik X :: Cond.initialized X :: vx_atS own ic X ["java/lang/RuntimeException", "java/lang/Exception"], vx_ot w = true)
    (d0 : decode cc pc = .ok (.new ik, 3)) (d3 : decode cc (pc + 3) = .ok (.dup, 1)) (d4 : decode cc (pc + 4) = .ok (.ldc is, 2)) (d6 : decode cc (pc + 6) = .ok (.invokespecial ic, 3)) (d9 : decode cc (pc + 9) = .ok (.athrow, 1)) (hd6 : 6 ≤ d)
    (h : s_throw X (ab_k p l e R s m args below meth c Q D cA nL loc0 m0 mf) Rr ls st mm) : ab_k p l e R s m args below meth c Q D cA nL loc0 m0 mf pc ls st mm := by
  unfold s_throw at h
  by_cases hst : (st.map (fun v => if wide v then 2 else 1)).sum ≤ 8
  case neg => rw [if_neg hst] at h; exact h.elim
  rw [if_pos hst] at h
  have hr0 := hRr _ h
  have hmm : bp mm 1 6 = mf := by rw [hmf, ← hr0]; rfl
  subst hmm
  obtain ⟨hx, hb, hml, hown1, hts, hVF, hHF, hst0, hlk, hd1, hd2, hRc, hRs, hd3⟩ := E
  rw [mnc_bp] at hRc
  rw [mns_bp] at hRs
  refine ⟨⟨by rw [mnc_bp]; omega, by rw [mns_bp]; omega⟩, fun H locs loc lsv ha hcc hl hw => ?_⟩
  rw [hQ]
  unfold ab_fin
  rw [← hr0]
  obtain ⟨sa, hsa⟩ := hVF.2.2.2.2.1 _ hstr
  have hB : ∀ w ∈ Cond.castable X X :: DCL.map Cond.declares, w.before args s = true := by
    intro w hw9
    rcases List.mem_cons.mp hw9 with rfl | hw9
    · exact va_Nw.use rfl (hVF.2.2.2.2.2.2.2.1 _ hX)
    · obtain ⟨x, hx9, rfl⟩ := List.mem_map.mp hw9
      exact va_Nw.use rfl (hVF.2.2.2.2.2.2.2.2.2.2 x hx9)
  have e8 : ((st.map (cv loc)).map fun v => v.category).sum ≤ 8 := by
    rw [List.map_map]
    simpa [Function.comp_def, cv_cat] using hst
  refine vx_throwS (names := ["java/lang/RuntimeException", "java/lang/Exception"]) hx hb hst0 hown1 hcls (by decide +kernel) (hts _ hq1) (hts _ hq2) hsa (vx_hat (fun w hw9 => hts w (hat w hw9)) hat2 hB) hgood (so_hq hHF.2.1) (so_hq hHF.2.2) ha.2.2.2.1 (hl.1.trans hml.symm) d0 d3 d4 d6 d9 (fun x hx9 => by rw [htab] at hx9; cases hx9) (by show 2 + 3 < R.frames; omega) (by show _ + (13 * (2 + 1) + 43) ≤ R.locals; omega) (by omega) (by omega) hlk (fun t hA hsz hold => ?_) ha.2.2.2.1.2.2 ?_ ?_
  · exact ⟨bp mm 1 6, loc, rfl, (ha.grow hsz hold 1 6).end hHF h0 rfl hA⟩
  · show _ ≤ mnc (bp mm 1 6) - mnc m0
    rw [mnc_bp]; omega
  · show _ ≤ mns (bp mm 1 6) - mns m0
    rw [mns_bp]; omega

/-- throw new X("text") in a method without handlers -/
theorem so_throwW (E : ab_env p l R s m args meth c D cA nL loc0 m0 mf cc own d) {r0 : ab_R} (hQ : Q = ab_fin below args s D cA loc0 m0 r0) (hmf : mf = resM r0) (hRr : ∀ r, Rr r → r = r0) (h0 : 0 < mc m0 0) {X text : String} {ik ic is : Nat} (htab : c.exceptionTable.toList = []) (hown : own = "Iemotohall") (hX : (X, X) ∈ CST) (hcls : Bundle.fit X = true) (hq1 : Cond.classLink own ik X ∈ TB) (hq2 : Cond.initialized X ∈ TB) (hstr : (own, is, text) ∈ STR)
    (hat : ∀ w ∈ (vx_atS own ic X ["java/lang/RuntimeException", "java/lang/Exception"]).filter goodWord, w ∈ TB) (hat2 : ∀ w ∈ (vx_atS own ic X ["java/lang/RuntimeException", "java/lang/Exception"]).filter (fun w => !goodWord w), w ∈ Cond.castable X X :: DCL.map Cond.declares) (hgood : ∀ w ∈ Cond.classLink own ik X :: Cond.initialized X :: vx_atS own ic X ["java/lang/RuntimeException", "java/lang/Exception"], vx_ot w = true)
    (d0 : decode cc pc = .ok (.new ik, 3)) (d3 : decode cc (pc + 3) = .ok (.dup, 1)) (d4 : decode cc (pc + 4) = .ok (.ldc_w is, 3)) (d6 : decode cc (pc + 7) = .ok (.invokespecial ic, 3)) (d9 : decode cc (pc + 10) = .ok (.athrow, 1)) (hd6 : 6 ≤ d)
    (h : s_throw X (ab_k p l e R s m args below meth c Q D cA nL loc0 m0 mf) Rr ls st mm) : ab_k p l e R s m args below meth c Q D cA nL loc0 m0 mf pc ls st mm := by
  unfold s_throw at h
  by_cases hst : (st.map (fun v => if wide v then 2 else 1)).sum ≤ 8
  case neg => rw [if_neg hst] at h; exact h.elim
  rw [if_pos hst] at h
  have hr0 := hRr _ h
  have hmm : bp mm 1 6 = mf := by rw [hmf, ← hr0]; rfl
  subst hmm
  obtain ⟨hx, hb, hml, hown1, hts, hVF, hHF, hst0, hlk, hd1, hd2, hRc, hRs, hd3⟩ := E
  rw [mnc_bp] at hRc
  rw [mns_bp] at hRs
  refine ⟨⟨by rw [mnc_bp]; omega, by rw [mns_bp]; omega⟩, fun H locs loc lsv ha hcc hl hw => ?_⟩
  rw [hQ]
  unfold ab_fin
  rw [← hr0]
  obtain ⟨sa, hsa⟩ := hVF.2.2.2.2.1 _ hstr
  have hB : ∀ w ∈ Cond.castable X X :: DCL.map Cond.declares, w.before args s = true := by
    intro w hw9
    rcases List.mem_cons.mp hw9 with rfl | hw9
    · exact va_Nw.use rfl (hVF.2.2.2.2.2.2.2.1 _ hX)
    · obtain ⟨x, hx9, rfl⟩ := List.mem_map.mp hw9
      exact va_Nw.use rfl (hVF.2.2.2.2.2.2.2.2.2.2 x hx9)
  have e8 : ((st.map (cv loc)).map fun v => v.category).sum ≤ 8 := by
    rw [List.map_map]
    simpa [Function.comp_def, cv_cat] using hst
  refine vx_throwSW (names := ["java/lang/RuntimeException", "java/lang/Exception"]) hx hb hst0 hown1 hcls (by decide +kernel) (hts _ hq1) (hts _ hq2) hsa (vx_hat (fun w hw9 => hts w (hat w hw9)) hat2 hB) hgood (so_hq hHF.2.1) (so_hq hHF.2.2) ha.2.2.2.1 (hl.1.trans hml.symm) d0 d3 d4 d6 d9 (fun x hx9 => by rw [htab] at hx9; cases hx9) (by show 2 + 3 < R.frames; omega) (by show _ + (13 * (2 + 1) + 43) ≤ R.locals; omega) (by omega) (by omega) hlk (fun t hA hsz hold => ?_) ha.2.2.2.1.2.2 ?_ ?_
  · exact ⟨bp mm 1 6, loc, rfl, (ha.grow hsz hold 1 6).end hHF h0 rfl hA⟩
  · show _ ≤ mnc (bp mm 1 6) - mnc m0
    rw [mnc_bp]; omega
  · show _ ≤ mns (bp mm 1 6) - mns m0
    rw [mns_bp]; omega

/-- the handlers at a place, as the table has them -/
def hdA (own : String) (pc : Nat) : List ExceptionTableEntry → List (String × Nat) → Prop
  | [], [] => True
  | _ :: _, _ :: _ => False
  | _, _ => False
/-- an exception in flight over this frame: it finds its handler, or leaves -/
theorem so_hd (E : ab_env p l R s m args meth c D cA nL loc0 m0 mf cc own d) {r0 : ab_R} (hQ : Q = ab_fin below args s D cA loc0 m0 r0) (hmf : mf = resM r0) (hRr : ∀ r, Rr r → r = r0) (h0 : 0 < mc m0 0) {Ex : String} {m' : ab_M} (hEx : Ex = eI ∨ Ex = eA ∨ Ex = eS) {H : Heap} {locs : List Loc} {loc : Nat → Nat → Nat} {lsv : Array Slot} {rest : List Value} {q : Addr} {ce : Cell} (ha : ab_at D cA s loc0 m0 loc m' H locs) (hcc : mnc m0 ≤ mnc m' ∧ mns m0 ≤ mns m') (hl : ab_lv nL loc m' lsv ls) (hce : H[q]? = some ce) (hcv : ce.vm = .none) (hcl : s.vm.findClass Ex = some ce.cls) :
    ∀ (tab : List ExceptionTableEntry) (hs : List (String × Nat)) (pre : List ExceptionTableEntry), c.exceptionTable.toList = pre ++ tab → (∀ z ∈ pre, covers z pc = false ∨ (z.catchType ≠ 0 ∧ ∃ nm : String, (Cond.classLink own z.catchType nm).before args s = true ∧ va_Nc Ex nm s)) → hdA own pc tab hs → s_hd (ab_k p l e R s m args below meth c Q D cA nL loc0 m0 mf) Rr ls Ex m' hs →
      (mnc m' ≤ mnc mf ∧ mns m' ≤ mns mf) ∧ vx_W p l e R s m args below meth c H locs (mnc m' - mnc m0) (mns m' - mns m0) Q (F0 m pc lsv rest) q
  | [], [], pre, hp, hps, _, h => by
    unfold s_hd at h
    have hr0 := hRr _ h
    have hmm : m' = mf := by rw [hmf, ← hr0]; rfl
    subst hmm
    refine ⟨⟨Nat.le_refl _, Nat.le_refl _⟩, ?_⟩
    rw [hQ]
    unfold ab_fin
    rw [← hr0]
    refine vx_outP E.2.2.2.1 E.2.2.2.2.2.2.2.2.1 (fun z hz => hps z (by rw [hp, List.append_nil] at hz; exact hz)) hce hcv hcl (fun t ht hA => ⟨m', loc, rfl, ha.end E.2.2.2.2.2.2.1 h0 ht hA⟩) ha.2.2.2.1.2.2 (Nat.le_refl _) (Nat.le_refl _)
  | _ :: _, _ :: _, _, _, _, g, _ => g.elim
/-- a call, told raw: behind it the place pc + k -/
def ab_raw (p : Program) (l : Launch) (e : Env) (R : Room) (s : State) (m : MethodId) (args : Array Value) (below : List Frame) (meth : Method) (c : Code) (H : Heap) (locs : List Loc) (cells slots mc9 ms9 : Nat) (pc k : Nat) (lsv : Array Slot) (st0 rest : List Value) (Qa : State → Outcome → State → Prop) (XC : String → State → State → Prop) (free : Addr → Prop) : Prop :=
  ∀ T : State, T.heap = H → Stand p l e R s m args below meth c T locs cells slots →
    (∃ (v : Option Value) (st₀ t T' : State) (L : List Loc), st₀.heap = H ∧ Stand p l e R s m args below meth c T' (locs ++ L) (cells + mc9) (slots + ms9) ∧ (∀ q ∈ L, free q.base) ∧ T'.heap = t.heap ∧ T'.vm = t.vm ∧ Qa st₀ (.returned v) t ∧
      Goes p e below T (F0 m pc lsv st0) T' (F0 m (pc + k) lsv (v.toList ++ rest))) ∨
    (∃ (q : Addr) (st₀ t T' : State) (L : List Loc) (E : String) (ce : Cell), st₀.heap = H ∧ Stand p l e R s m args below meth c T' (locs ++ L) (cells + mc9) (slots + ms9) ∧ (∀ z ∈ L, free z.base) ∧ T'.heap = t.heap ∧ T'.vm = t.vm ∧ XC E st₀ t ∧ t.heap[q]? = some ce ∧ ce.vm = .none ∧ s.vm.findClass E = some ce.cls ∧
      Steps p.tables e below (T.setTop (F0 m pc lsv st0)) ((T'.setTop (F0 m pc lsv rest)).pushFrame (.throwing q)))
/-- behind a callee that returns or throws -/
theorem so_after (E : ab_env p l R s m args meth c D cA nL loc0 m0 mf cc own d) {r0 : ab_R} (hQ : Q = ab_fin below args s D cA loc0 m0 r0) (hmf : mf = resM r0) (hRr : ∀ r, Rr r → r = r0) (h0 : 0 < mc m0 0) {hs : List (String × Nat)} {ra : List ab_V} {k9 : Nat} {r : ab_R} {av : Array Value} {st0 : List Value} {H : Heap} {locs : List Loc} {loc : Nat → Nat → Nat} {lsv : Array Slot}
    (hrun : ab_raw p l e R s m args below meth c H locs (mnc mm - mnc m0) (mns mm - mns m0) (mnc (resM r) - mnc mm) (mns (resM r) - mns mm) pc k9 lsv st0 (ra.map (cv loc)) (ab_Q D cA loc mm r av) (ab_X D cA loc mm r) (FA loc mm H.size))
    (hmono : mnc mm ≤ mnc (resM r) ∧ mns mm ≤ mns (resM r)) (ha : ab_at D cA s loc0 m0 loc mm H locs) (hcc : mnc m0 ≤ mnc mm ∧ mns m0 ≤ mns mm) (hl : ab_lv nL loc mm lsv ls) (hv : ∀ v ∈ ra, wfV mm v) (hA : hdA own pc c.exceptionTable.toList hs)
    (hk : match r with
      | .inl (vs, m') => ab_k p l e R s m args below meth c Q D cA nL loc0 m0 mf (pc + k9) ls (vs ++ ra) m'
      | .inr (Ex, m') => (Ex = eI ∨ Ex = eA ∨ Ex = eS) ∧ s_hd (ab_k p l e R s m args below meth c Q D cA nL loc0 m0 mf) Rr ls Ex m' hs) :
    W p l e R s m args below meth c H locs (mnc mm - mnc m0) (mns mm - mns m0) Q (F0 m pc lsv st0) := by
  intro T hT X
  rcases hrun T hT X with ⟨v, st₀, t, T', L, g0, X', hL, e1, e2, ⟨vs, m', loc', hr, ho, hlen, hwf, hend⟩, stp⟩ | ⟨q, st₀, t, T', L, Ex, ce, g0, X', hL, e1, e2, ⟨m', loc', hr, hend⟩, hce, hcv, hcl, stp⟩
  · subst hr
    have ha' := ha.back g0 hend hL
    have hg := hend.2.2.2.1
    obtain ⟨q1, q2⟩ := cvs_mem hg hv
    have hv' : v = (vs.map (cv loc')).head? := by injection ho
    have hvl : v.toList = vs.map (cv loc') := by
      rw [hv']
      match vs, hlen with
      | [], _ => rfl
      | [a], _ => rfl
      | a :: b :: r, h => exact absurd h (by simp)
    have k := hk.2 t.heap (locs ++ L) loc' lsv ha' ⟨Nat.le_trans hcc.1 hmono.1, Nat.le_trans hcc.2 hmono.2⟩ (hl.mem hg) (fun w hw => (List.mem_append.mp hw).elim (hwf w) (q2 w))
    rw [List.map_append, q1, ← hvl] at k
    obtain ⟨t2, a1, b1⟩ := k T' e1 (by
      have h1 : mnc mm - mnc m0 + (mnc m' - mnc mm) = mnc m' - mnc m0 := by have := hmono.1; have h2 : mnc (resM (.inl (vs, m'))) = mnc m' := rfl; omega
      have h2 : mns mm - mns m0 + (mns m' - mns mm) = mns m' - mns m0 := by have := hmono.2; have h2 : mns (resM (.inl (vs, m'))) = mns m' := rfl; omega
      rw [← h1, ← h2]
      exact X')
    exact ⟨t2, stp t2 a1, b1⟩
  · subst hr
    have ha' := ha.back g0 hend hL
    have hg := hend.2.2.2.1
    have k := (so_hd (rest := ra.map (cv loc)) E hQ hmf hRr h0 hk.1 ha' ⟨Nat.le_trans hcc.1 hmono.1, Nat.le_trans hcc.2 hmono.2⟩ (hl.mem hg) hce hcv hcl _ _ [] rfl (fun _ h => nomatch h) hA hk.2).2
    obtain ⟨t2, a1, b1⟩ := k T' e1 (by
      have h1 : mnc mm - mnc m0 + (mnc m' - mnc mm) = mnc m' - mnc m0 := by have := hmono.1; have h2 : mnc (resM (.inr (Ex, m'))) = mnc m' := rfl; omega
      have h2 : mns mm - mns m0 + (mns m' - mns mm) = mns m' - mns m0 := by have := hmono.2; have h2 : mns (resM (.inr (Ex, m'))) = mns m' := rfl; omega
      rw [← h1, ← h2]
      exact X')
    exact ⟨t2, stp.trans a1, b1⟩
end SO
