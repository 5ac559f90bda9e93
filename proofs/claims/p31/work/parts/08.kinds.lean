/-! the kinds of calls -/
section SO
variable {p : Program} {l : Launch} {e : Env} {R : Room} {s : State} {m : MethodId} {args : Array Value} {below : List Frame} {meth : Method} {c : Code} {Q : State → Prop} {D : va_G} {cA : Nat → ClassId} {nL : Nat} {loc0 : Nat → Nat → Nat} {m0 mf : ab_M} {cc : ByteArray} {own : String} {d : Nat}
variable {pc : Nat} {ls : ab_L} {st : List ab_V} {mm : ab_M} {Rr : ab_R → Prop}
theorem s_hd_cb {r0 : ab_R} (hQ : Q = ab_fin below args s D cA loc0 m0 r0) (hmf : mf = resM r0) (hRr : ∀ r, Rr r → r = r0) (h0 : 0 < mc m0 0) {Ex : String} {m' : ab_M} : ∀ hs : List (String × Nat), s_hd (ab_k p l e R s m args below meth c Q D cA nL loc0 m0 mf) Rr ls Ex m' hs → mnc m' ≤ mnc mf ∧ mns m' ≤ mns mf
  | [], h => by
    unfold s_hd at h
    have hr0 := hRr _ h
    have hmm : m' = mf := by rw [hmf, ← hr0]; rfl
    subst hmm
    exact ⟨Nat.le_refl _, Nat.le_refl _⟩
  | x :: hs, h => by
    unfold s_hd at h
    by_cases c1 : x.1 = Ex
    · rw [if_pos c1] at h; exact (h 0).1
    · rw [if_neg c1] at h; exact s_hd_cb hQ hmf hRr h0 hs h
theorem so_call0 (E : ab_env p l R s m args meth c D cA nL loc0 m0 mf cc own d) {r0 : ab_R} (hQ : Q = ab_fin below args s D cA loc0 m0 r0) (hmf : mf = resM r0) (hRr : ∀ r, Rr r → r = r0) (h0 : 0 < mc m0 0) {sp : List ab_V → ab_M → ab_O} {a ck k d' : Nat} {hs : List (String × Nat)} {y : MethodName} {ws : List Cond} (hC : ∀ as m, Ctr l D cA d' y ws as m (sp as m)) (hA : hdA own pc c.exceptionTable.toList hs)
    (hrun : ∀ r, sp (st.take a).reverse mm = some r → (a ≤ st.length ∧ ((st.drop a).map (fun v => if wide v then 2 else 1)).sum ≤ 8 ∧ rcv ck (st.take a).reverse) → (mnc mm ≤ mnc (resM r) ∧ mns mm ≤ mns (resM r)) → (mnc mm - mnc m0 + (mnc (resM r) - mnc mm) ≤ R.cells ∧ mns mm - mns m0 + (mns (resM r) - mns mm) ≤ R.slots) →
      ∀ (H : Heap) (locs : List Loc) (loc : Nat → Nat → Nat) (lsv : Array Slot), ab_at D cA s loc0 m0 loc mm H locs → lsv.size = nL → (∀ v ∈ st, wfV mm v) →
        (vx_Met l y ws (ab_rm d' mm r) (va_Pc ((st.take a).reverse.map (cv loc)) (fun U => U.heap.size = H.size ∧ ab_pre D cA loc mm (st.take a).reverse U)) (ab_Q D cA loc mm r) (ab_X D cA loc mm r) (mnc (resM r) - mnc mm) (mns (resM r) - mns mm) (FA loc mm H.size)) →
        ∃ av : Array Value, ab_raw p l e R s m args below meth c H locs (mnc mm - mnc m0) (mns mm - mns m0) (mnc (resM r) - mnc mm) (mns (resM r) - mns mm) pc k lsv (st.map (cv loc)) ((st.drop a).map (cv loc)) (ab_Q D cA loc mm r av) (ab_X D cA loc mm r) (FA loc mm H.size))
    (h : s_call ck sp a hs (pc + k) (ab_k p l e R s m args below meth c Q D cA nL loc0 m0 mf) Rr ls st mm) : ab_k p l e R s m args below meth c Q D cA nL loc0 m0 mf pc ls st mm := by
  obtain ⟨h1, h⟩ := h
  cases hsp : sp (st.take a).reverse mm with
  | none => rw [hsp] at h; exact h.elim
  | some r =>
    obtain ⟨hmono, hM⟩ := hC (st.take a).reverse mm r hsp
    have hcb : mnc (resM r) ≤ mnc mf ∧ mns (resM r) ≤ mns mf := by
      rw [hsp] at h
      rcases r with ⟨vs, m'⟩ | ⟨Ex, m'⟩
      · exact h.1
      · exact s_hd_cb hQ hmf hRr h0 hs h.2
    refine ⟨⟨by omega, by omega⟩, fun H locs loc lsv ha hcc hl hv => ?_⟩
    have hRc := E.2.2.2.2.2.2.2.2.2.2.2.1
    have hRs := E.2.2.2.2.2.2.2.2.2.2.2.2.1
    obtain ⟨av, hr⟩ := hrun r hsp h1 hmono ⟨by omega, by omega⟩ H locs loc lsv ha hl.1 hv (hM loc H.size)
    refine so_after E hQ hmf hRr h0 hr hmono ha hcc hl (fun v hv9 => hv v (List.mem_of_mem_drop hv9)) hA ?_
    rw [hsp] at h
    rcases r with ⟨vs, m'⟩ | ⟨Ex, m'⟩
    · exact h
    · exact h
theorem tk_rev {a : Nat} (loc : Nat → Nat → Nat) (st : List ab_V) : st.map (cv loc) = ((st.take a).reverse.map (cv loc)).reverse ++ (st.drop a).map (cv loc) := by
  rw [← List.map_reverse, List.reverse_reverse, ← List.map_append, List.take_append_drop]
theorem tk_wf {a : Nat} (h : ∀ v ∈ st, wfV mm v) : ∀ v ∈ (st.take a).reverse, wfV mm v := fun v hv => h v (List.mem_of_mem_take (List.mem_reverse.mp hv))
theorem tk_len {a : Nat} (loc : Nat → Nat → Nat) (h : a ≤ st.length) : ((st.take a).reverse.map (cv loc)).length = a := by
  rw [List.length_map, List.length_reverse, List.length_take, Nat.min_eq_left h]
theorem e8_of {a : Nat} (loc : Nat → Nat → Nat) (h : ((st.drop a).map (fun v => if wide v then 2 else 1)).sum ≤ 8) : 2 * 0 + (((st.drop a).map (cv loc)).map fun v => v.category).sum ≤ 8 := by
  rw [List.map_map, Nat.mul_zero, Nat.zero_add]
  have e : ((fun v => v.category) ∘ cv loc) = (fun v => if wide v then 2 else 1) := funext fun v => cv_cat loc v
  rw [e]
  exact h
/-- the receiver -/
theorem rcv_of {k : Nat} {as : List ab_V} (hk : k ≠ 999) (h : rcv k as) : ∃ (x : Nat × Nat) (r : List ab_V), as = vR (some x) :: r ∧ SK x.1 = k := by
  rcases h with h | h
  · exact absurd h hk
  · split at h
    · next x r => exact ⟨x, r, rfl, h⟩
    · exact h.elim
theorem gi_V {own C : String} {idx : Nat} {y : MethodName} {bytes : ByteArray} {maxL : Nat} {ret : Option FieldType} (h1 : Cond.methodLink own idx y ∈ TB) (h2 : Cond.instanceMethod y ∈ TB) (h3 : Cond.selects C y y ∈ TB) (h4 : Cond.initialized C ∈ TB) (hc1 : Cond.code y bytes maxL ret ∈ TB) : GoodIn TB (wsV own idx C y (Cond.code y bytes maxL ret :: TB)) := fun w hw => by
    rcases List.mem_append.mp hw with hw | hw
    · simp only [List.mem_cons, List.not_mem_nil, or_false] at hw
      rcases hw with rfl | rfl | rfl | rfl
      · exact tb_good _ h1
      · exact tb_good _ h2
      · exact tb_good _ h3
      · exact tb_good _ h4
    · rcases List.mem_cons.mp hw with rfl | hw
      · exact tb_good _ hc1
      · exact tb_good _ hw
theorem gi_S {own : String} {idx : Nat} {y : MethodName} {ws : List Cond} {w0 : Cond} (h1 : Cond.methodLink own idx y ∈ TB) (h2 : Cond.static y ∈ TB) (h4 : Cond.initialized y.cls ∈ TB) (hc1 : w0 ∈ TB) : GoodIn TB (va_wsS own idx y (w0 :: TB)) := fun w hw => by
    rcases List.mem_append.mp hw with hw | hw
    · simp only [List.mem_cons, List.not_mem_nil, or_false] at hw
      rcases hw with rfl | rfl | rfl
      · exact tb_good _ h1
      · exact tb_good _ h2
      · exact tb_good _ h4
    · rcases List.mem_cons.mp hw with rfl | hw
      · exact tb_good _ hc1
      · exact tb_good _ hw
theorem gi_0 {w0 : Cond} (hc1 : w0 ∈ TB) : GoodIn TB (w0 :: TB) := fun w hw => by
  rcases List.mem_cons.mp hw with rfl | hw
  · exact tb_good _ hc1
  · exact tb_good _ hw
theorem so_callV (E : ab_env p l R s m args meth c D cA nL loc0 m0 mf cc own d) {r0 : ab_R} (hQ : Q = ab_fin below args s D cA loc0 m0 r0) (hmf : mf = resM r0) (hRr : ∀ r, Rr r → r = r0) (h0 : 0 < mc m0 0) {sp : List ab_V → ab_M → ab_O} {a ck : Nat} {hs : List (String × Nat)} {idx maxL d' : Nat} {y : MethodName} {bytes : ByteArray} {ret : Option FieldType} {C : String} {T : u_T} {N : Nat} (hcl : vwCl[ck]? = some (C, T, N)) (hck2 : ck < 100) (hck : ck ≠ 999) (hyc : y.cls = C) (hd' : d' + 1 ≤ d) (hmx : maxL ≤ 80) (hC : ∀ as m, Ctr l D cA d' y (Cond.code y bytes maxL ret :: TB) as m (sp as m)) (hA : hdA own pc c.exceptionTable.toList hs) (hq1 : Cond.methodLink own idx y ∈ TB) (hq2 : Cond.instanceMethod y ∈ TB) (hq3 : Cond.selects C y y ∈ TB) (hq4 : Cond.initialized C ∈ TB) (hq5 : Cond.code y bytes maxL ret ∈ TB) (hpar : y.cls ≠ "java/lang/invoke/MethodHandle" ∧ y.cls ≠ "java/lang/invoke/VarHandle" ∧ (parseMethodDescriptor y.desc).map (fun d => d.parameters.length) = some (a - 1)) (hdg : decode cc pc = .ok (.invokevirtual idx, 3)) (h : s_call ck sp a hs (pc + 3) (ab_k p l e R s m args below meth c Q D cA nL loc0 m0 mf) Rr ls st mm) : ab_k p l e R s m args below meth c Q D cA nL loc0 m0 mf pc ls st mm := by
  have hE := E
  obtain ⟨hx, hb, hml, hown1, hts, hVF, hHF, hst0, hlk, hd1, hd2, hRc, hRs, hd3⟩ := E
  refine so_call0 hE hQ hmf hRr h0 hC hA (fun r hsp h1 hmono hf H locs loc lsv ha hls hv hM => ?_) h
  obtain ⟨x, r9, hr9, hxk⟩ := rcv_of hck h1.2.2
  have hx9 : x.2 < mc mm x.1 := tk_wf (a := a) hv (vR (some x)) (by rw [hr9]; exact List.mem_cons_self)
  obtain ⟨q0, -, hq⟩ := aw_get (cA := cA) (loc := loc) ha.2.2.1 (sk_ge2 (by omega) (by omega)) hx9
  rw [ab_ent_obj hxk hck2] at hq
  refine ⟨(Value.ref (loc x.1 x.2) :: r9.map (cv loc)).toArray, fun T hT X => vx_runV (C := C) (As := r9.map (cv loc)) (rest := (st.drop a).map (cv loc)) (g := F0 m pc lsv (st.map (cv loc))) ⟨hx, hb, hml, hown1, hts⟩ hM (cwV (a - 1) hts (gi_V hq1 hq2 hq3 hq4 hq5) rfl rfl rfl ⟨hyc, hpar⟩ ⟨by show d' + 1 ≤ R.frames; omega, by show 8 + (maxL + 11) + 100 * d' ≤ R.locals; omega⟩) ⟨ab_blind, va_recv hVF.1 ha.1 hcl hq, fun U hU hW => ⟨by rw [hr9]; rfl, by rw [hU], ha.pre hVF hHF h0 (tk_wf hv) hU hW⟩⟩ rfl (by have := tk_len loc h1.1; rw [hr9] at this; simp at this; rw [List.length_map]; omega) hls (by show st.map (cv loc) = _; rw [tk_rev (a := a) loc st, hr9]; simp [cv, va_rf]) (e8_of loc h1.2.1) hdg hf T hT X⟩
theorem so_callI (E : ab_env p l R s m args meth c D cA nL loc0 m0 mf cc own d) {r0 : ab_R} (hQ : Q = ab_fin below args s D cA loc0 m0 r0) (hmf : mf = resM r0) (hRr : ∀ r, Rr r → r = r0) (h0 : 0 < mc m0 0) {sp : List ab_V → ab_M → ab_O} {a ck : Nat} {hs : List (String × Nat)} {idx maxL d' : Nat} {y : MethodName} {bytes : ByteArray} {ret : Option FieldType} (hck2 : ck < 100) (hck : ck ≠ 999) (hyn : y.name = "<init>") (hret : ret = none) (hd' : d' + 1 ≤ d) (hmx : maxL ≤ 80) (hC : ∀ as m, Ctr l D cA d' y (Cond.code y bytes maxL ret :: TB) as m (sp as m)) (hA : hdA own pc c.exceptionTable.toList hs) (hq1 : Cond.methodLink own idx y ∈ TB) (hq2 : Cond.instanceMethod y ∈ TB) (hq4 : Cond.initialized y.cls ∈ TB) (hq5 : Cond.code y bytes maxL ret ∈ TB) (hpar : y.cls ≠ "java/lang/invoke/MethodHandle" ∧ y.cls ≠ "java/lang/invoke/VarHandle" ∧ (parseMethodDescriptor y.desc).map (fun d => d.parameters.length) = some (a - 1)) (hdg : decode cc pc = .ok (.invokespecial idx, 3)) (h : s_call ck sp a hs (pc + 3) (ab_k p l e R s m args below meth c Q D cA nL loc0 m0 mf) Rr ls st mm) : ab_k p l e R s m args below meth c Q D cA nL loc0 m0 mf pc ls st mm := by
  have hE := E
  obtain ⟨hx, hb, hml, hown1, hts, hVF, hHF, hst0, hlk, hd1, hd2, hRc, hRs, hd3⟩ := E
  refine so_call0 hE hQ hmf hRr h0 hC hA (fun r hsp h1 hmono hf H locs loc lsv ha hls hv hM => ?_) h
  obtain ⟨x, r9, hr9, hxk⟩ := rcv_of hck h1.2.2
  have hx9 : x.2 < mc mm x.1 := tk_wf (a := a) hv (vR (some x)) (by rw [hr9]; exact List.mem_cons_self)
  obtain ⟨q0, -, hq⟩ := aw_get (cA := cA) (loc := loc) ha.2.2.1 (sk_ge2 (by omega) (by omega)) hx9
  rw [ab_ent_obj hxk hck2] at hq
  refine ⟨(Value.ref (loc x.1 x.2) :: r9.map (cv loc)).toArray, fun T hT X => vx_runI (As := r9.map (cv loc)) (rest := (st.drop a).map (cv loc)) (g := F0 m pc lsv (st.map (cv loc))) ⟨hx, hb, hml, hown1, hts⟩ hM (by subst hret; exact cwI (a - 1) hts (gi_0 hq5) rfl rfl rfl (hts _ hq4) (hts _ hq1) (hts _ hq2) hyn hpar ⟨by show d' + 1 ≤ R.frames; omega, by show 8 + (maxL + 11) + 100 * d' ≤ R.locals; omega⟩) ⟨ab_blind, fun U hU hW => ⟨by rw [hr9]; rfl, by rw [hU], ha.pre hVF hHF h0 (tk_wf hv) hU hW⟩⟩ rfl (by have := tk_len loc h1.1; rw [hr9] at this; simp at this; rw [List.length_map]; omega) hls (by show st.map (cv loc) = _; rw [tk_rev (a := a) loc st, hr9]; simp [cv, va_rf]) (e8_of loc h1.2.1) hdg hf T hT X⟩
theorem so_callIN (E : ab_env p l R s m args meth c D cA nL loc0 m0 mf cc own d) {r0 : ab_R} (hQ : Q = ab_fin below args s D cA loc0 m0 r0) (hmf : mf = resM r0) (hRr : ∀ r, Rr r → r = r0) (h0 : 0 < mc m0 0) {sp : List ab_V → ab_M → ab_O} {a ck : Nat} {hs : List (String × Nat)} {idx maxL d' : Nat} {y : MethodName} {bytes : ByteArray} {ret : Option FieldType} (hck2 : ck < 100) (hck : ck ≠ 999) (hyn : y.name = "<init>") (hret : ret = none) {host : String} (hN : (own, idx, y, host) ∈ NST) (hd' : d' + 1 ≤ d) (hmx : maxL ≤ 80) (hC : ∀ as m, Ctr l D cA d' y (Cond.code y bytes maxL ret :: TB) as m (sp as m)) (hA : hdA own pc c.exceptionTable.toList hs) (hq2 : Cond.instanceMethod y ∈ TB) (hq4 : Cond.initialized y.cls ∈ TB) (hq5 : Cond.code y bytes maxL ret ∈ TB) (hpar : y.cls ≠ "java/lang/invoke/MethodHandle" ∧ y.cls ≠ "java/lang/invoke/VarHandle" ∧ (parseMethodDescriptor y.desc).map (fun d => d.parameters.length) = some (a - 1)) (hdg : decode cc pc = .ok (.invokespecial idx, 3)) (h : s_call ck sp a hs (pc + 3) (ab_k p l e R s m args below meth c Q D cA nL loc0 m0 mf) Rr ls st mm) : ab_k p l e R s m args below meth c Q D cA nL loc0 m0 mf pc ls st mm := by
  have hE := E
  obtain ⟨hx, hb, hml, hown1, hts, hVF, hHF, hst0, hlk, hd1, hd2, hRc, hRs, hd3⟩ := E
  refine so_call0 hE hQ hmf hRr h0 hC hA (fun r hsp h1 hmono hf H locs loc lsv ha hls hv hM => ?_) h
  obtain ⟨x, r9, hr9, hxk⟩ := rcv_of hck h1.2.2
  have hx9 : x.2 < mc mm x.1 := tk_wf (a := a) hv (vR (some x)) (by rw [hr9]; exact List.mem_cons_self)
  obtain ⟨q0, -, hq⟩ := aw_get (cA := cA) (loc := loc) ha.2.2.1 (sk_ge2 (by omega) (by omega)) hx9
  rw [ab_ent_obj hxk hck2] at hq
  refine ⟨(Value.ref (loc x.1 x.2) :: r9.map (cv loc)).toArray, fun T hT X => vx_runIN (host := host) (As := r9.map (cv loc)) (rest := (st.drop a).map (cv loc)) (g := F0 m pc lsv (st.map (cv loc))) ⟨hx, hb, hml, hown1, hts⟩ hM (by subst hret; exact ⟨va_cnB (a - 1) hts (gi_0 hq5) rfl rfl rfl (hVF.2.2.2.1 _ hN) (hts _ hq4) hpar ⟨by show d' + 1 ≤ R.frames; omega, by show 8 + (maxL + 11) + 100 * d' ≤ R.locals; omega⟩, hyn, hts _ hq2⟩) ⟨ab_blind, fun U hU hW => ⟨by rw [hr9]; rfl, by rw [hU], ha.pre hVF hHF h0 (tk_wf hv) hU hW⟩⟩ rfl (by have := tk_len loc h1.1; rw [hr9] at this; simp at this; rw [List.length_map]; omega) hls (by show st.map (cv loc) = _; rw [tk_rev (a := a) loc st, hr9]; simp [cv, va_rf]) (e8_of loc h1.2.1) hdg hf T hT X⟩
theorem so_callS (E : ab_env p l R s m args meth c D cA nL loc0 m0 mf cc own d) {r0 : ab_R} (hQ : Q = ab_fin below args s D cA loc0 m0 r0) (hmf : mf = resM r0) (hRr : ∀ r, Rr r → r = r0) (h0 : 0 < mc m0 0) {sp : List ab_V → ab_M → ab_O} {a ck : Nat} {hs : List (String × Nat)} {idx maxL d' : Nat} {y : MethodName} {bytes : ByteArray} {ret : Option FieldType}  (hd' : d' + 1 ≤ d) (hmx : maxL ≤ 80) (hC : ∀ as m, Ctr l D cA d' y (Cond.code y bytes maxL ret :: TB) as m (sp as m)) (hA : hdA own pc c.exceptionTable.toList hs) (hq1 : Cond.methodLink own idx y ∈ TB) (hq2 : Cond.static y ∈ TB) (hq4 : Cond.initialized y.cls ∈ TB) (hq5 : Cond.code y bytes maxL ret ∈ TB) (hpar : y.cls ≠ "java/lang/invoke/MethodHandle" ∧ y.cls ≠ "java/lang/invoke/VarHandle" ∧ (parseMethodDescriptor y.desc).map (fun d => d.parameters.length) = some a) (hdg : decode cc pc = .ok (.invokestatic idx, 3)) (h : s_call ck sp a hs (pc + 3) (ab_k p l e R s m args below meth c Q D cA nL loc0 m0 mf) Rr ls st mm) : ab_k p l e R s m args below meth c Q D cA nL loc0 m0 mf pc ls st mm := by
  have hE := E
  obtain ⟨hx, hb, hml, hown1, hts, hVF, hHF, hst0, hlk, hd1, hd2, hRc, hRs, hd3⟩ := E
  refine so_call0 hE hQ hmf hRr h0 hC hA (fun r hsp h1 hmono hf H locs loc lsv ha hls hv hM => ?_) h
  exact ⟨((st.take a).reverse.map (cv loc)).toArray, fun T hT X => vx_runS (As := (st.take a).reverse.map (cv loc)) (rest := (st.drop a).map (cv loc)) (g := F0 m pc lsv (st.map (cv loc))) ⟨hx, hb, hml, hown1, hts⟩ hM (va_cwS a hts (gi_S (ws := []) hq1 hq2 hq4 hq5) rfl rfl rfl hpar ⟨by show d' + 1 ≤ R.frames; omega, by show 8 + (maxL + 11) + 100 * d' ≤ R.locals; omega⟩) ⟨ab_blind, fun U hU hW => ⟨rfl, by rw [hU], ha.pre hVF hHF h0 (tk_wf hv) hU hW⟩⟩ rfl (tk_len loc h1.1) hls (by show st.map (cv loc) = _; exact tk_rev (a := a) loc st) (e8_of loc h1.2.1) hdg hf T hT X⟩
theorem so_callSN (E : ab_env p l R s m args meth c D cA nL loc0 m0 mf cc own d) {r0 : ab_R} (hQ : Q = ab_fin below args s D cA loc0 m0 r0) (hmf : mf = resM r0) (hRr : ∀ r, Rr r → r = r0) (h0 : 0 < mc m0 0) {sp : List ab_V → ab_M → ab_O} {a ck : Nat} {hs : List (String × Nat)} {idx maxL d' : Nat} {y : MethodName} {bytes : ByteArray} {ret : Option FieldType} {host : String} (hN : (own, idx, y, host) ∈ NST) (hd' : d' + 1 ≤ d) (hmx : maxL ≤ 80) (hC : ∀ as m, Ctr l D cA d' y (Cond.code y bytes maxL ret :: TB) as m (sp as m)) (hA : hdA own pc c.exceptionTable.toList hs) (hq2 : Cond.static y ∈ TB) (hq4 : Cond.initialized y.cls ∈ TB) (hq5 : Cond.code y bytes maxL ret ∈ TB) (hpar : y.cls ≠ "java/lang/invoke/MethodHandle" ∧ y.cls ≠ "java/lang/invoke/VarHandle" ∧ (parseMethodDescriptor y.desc).map (fun d => d.parameters.length) = some a) (hdg : decode cc pc = .ok (.invokestatic idx, 3)) (h : s_call ck sp a hs (pc + 3) (ab_k p l e R s m args below meth c Q D cA nL loc0 m0 mf) Rr ls st mm) : ab_k p l e R s m args below meth c Q D cA nL loc0 m0 mf pc ls st mm := by
  have hE := E
  obtain ⟨hx, hb, hml, hown1, hts, hVF, hHF, hst0, hlk, hd1, hd2, hRc, hRs, hd3⟩ := E
  refine so_call0 hE hQ hmf hRr h0 hC hA (fun r hsp h1 hmono hf H locs loc lsv ha hls hv hM => ?_) h
  exact ⟨((st.take a).reverse.map (cv loc)).toArray, fun T hT X => vx_runSN (host := host) (As := (st.take a).reverse.map (cv loc)) (rest := (st.drop a).map (cv loc)) (g := F0 m pc lsv (st.map (cv loc))) ⟨hx, hb, hml, hown1, hts⟩ hM ⟨va_cnB a hts (gi_0 hq5) rfl rfl rfl (hVF.2.2.2.1 _ hN) (hts _ hq4) hpar ⟨by show d' + 1 ≤ R.frames; omega, by show 8 + (maxL + 11) + 100 * d' ≤ R.locals; omega⟩, hts _ hq2, trivial⟩ ⟨ab_blind, fun U hU hW => ⟨rfl, by rw [hU], ha.pre hVF hHF h0 (tk_wf hv) hU hW⟩⟩ rfl (tk_len loc h1.1) hls (by show st.map (cv loc) = _; exact tk_rev (a := a) loc st) (e8_of loc h1.2.1) hdg hf T hT X⟩
end SO
