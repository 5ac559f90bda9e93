/-! each semantic function is sound over the machine: what holds of a frame -/
def NST : List (String × Nat × MethodName × String) := [("Iemotohall", 18, yX1_init, "Iemotohall"), ("Iemotohall", 25, yX4_init, "Iemotohall"), ("Iemotohall", 32, yX5_init, "Iemotohall"), ("Iemotohall", 9, yX2_init, "Iemotohall"), ("Iemotohall$People", 59, yX6_contains, "Iemotohall"), ("Iemotohall$Secrets", 29, yX6_contains, "Iemotohall"), ("Iemotohall$Utensils", 43, yX6_contains, "Iemotohall")]
def STR : List (String × Nat × String) := [("Iemotohall", 409, "no such person"), ("Iemotohall", 95, "no step can be given to this person"), ("Iemotohall", 418, "out of its range"), ("Iemotohall", 129, "not held, or given by none"), ("Iemotohall", 140, "dead already"), ("Iemotohall", 224, "no room, dead, or coins lack"), ("Iemotohall", 420, "no set of 1 to 4 other people"), ("Iemotohall", 275, "one is dead, or coins lack"), ("Iemotohall", 412, "no such house"), ("Iemotohall", 366, "not held"), ("Iemotohall", 414, "no such secret"), ("Iemotohall", 416, "no such utensil"), ("Iemotohall", 76, "no room, or a dead teacher")]
def eI : String := "java/lang/IndexOutOfBoundsException"
def eA : String := "java/lang/IllegalArgumentException"
def eS : String := "java/lang/IllegalStateException"
def CST : List (String × String) := [(eI, eI), (eA, eA), (eS, eS)]
def NCS : List (String × String) := []
def DCL : List MethodName := [⟨"java/lang/RuntimeException", "<init>", "(Ljava/lang/String;)V"⟩, ⟨"java/lang/Exception", "<init>", "(Ljava/lang/String;)V"⟩, ⟨"java/lang/Throwable", "<init>", "(Ljava/lang/String;)V"⟩]
def HF (loc : Nat → Nat → Nat) (m : ab_M) (U : State) (H : Heap) : Prop :=
  True ∧ vx_Zq Bundle.tN "UNASSIGNED_STACK" Bundle.steD (PA loc m) U H ∧ vx_Zq Bundle.tN "SUPPRESSED_SENTINEL" Bundle.listD (PA loc m) U H
def VF (D : va_G) (cA : Nat → ClassId) (U : State) : Prop :=
  va_K D vwCl (kTy cA) U ∧ True ∧ (va_AOA .int U ∧ True ∧ ArrOfT U (cA 201) .int) ∧ (∀ x ∈ NST, va_Nw (.methodLinkNest x.1 x.2.1 x.2.2.1 x.2.2.2) U) ∧ (∀ x ∈ STR, ∃ a, vk_R x.1 x.2.1 x.2.2 a U) ∧ True ∧ True ∧ (∀ x ∈ CST, va_Nw (.castable x.1 x.2) U) ∧ (∀ x ∈ NCS, va_Nc x.1 x.2 U) ∧ True ∧ (∀ x ∈ DCL, va_Nw (.declares x) U)
/-- the machine, its code (cc, of the class own, nL locals, at the depth d), the words, the standing facts of the start -/
def ab_env (p : Program) (l : Launch) (R : Room) (s : State) (m : MethodId) (args : Array Value) (meth : Method) (c : Code) (D : va_G) (cA : Nat → ClassId) (nL : Nat) (loc0 : Nat → Nat → Nat) (m0 mf : ab_M) (cc : ByteArray) (own : String) (d : Nat) : Prop :=
  p.tables.exec = Jvm.exec ∧ c.code = cc ∧ c.maxLocals = nL ∧ s.vm.findClass own = some m.cls ∧ (∀ w ∈ TB, w.before args s = true) ∧ VF D cA s ∧ HF loc0 m0 s s.heap ∧ l.stackTraces = false ∧ meth.locks = false ∧ d ≤ R.frames ∧ 100 * d ≤ R.locals ∧ mnc mf - mnc m0 ≤ R.cells ∧ mns mf - mns m0 ≤ R.slots ∧ 1 ≤ d
def ab_k (p : Program) (l : Launch) (e : Env) (R : Room) (s : State) (m : MethodId) (args : Array Value) (below : List Frame) (meth : Method) (c : Code) (Q : State → Prop) (D : va_G) (cA : Nat → ClassId) (nL : Nat) (loc0 : Nat → Nat → Nat) (m0 mf : ab_M) : ab_K := fun pc ls st mm =>
  (mnc mm ≤ mnc mf ∧ mns mm ≤ mns mf) ∧ ∀ (H : Heap) (locs : List Loc) (loc : Nat → Nat → Nat) (lsv : Array Slot), ab_at D cA s loc0 m0 loc mm H locs → (mnc m0 ≤ mnc mm ∧ mns m0 ≤ mns mm) → ab_lv nL loc mm lsv ls → (∀ v ∈ st, wfV mm v) →
    W p l e R s m args below meth c H locs (mnc mm - mnc m0) (mns mm - mns m0) Q (F0 m pc lsv (st.map (cv loc)))
theorem wd1 {P : ab_V → Prop} {a : ab_V} {r : List ab_V} (h : ∀ v ∈ a :: r, P v) : ∀ v ∈ r, P v := fun v hv => h v (List.mem_cons_of_mem _ hv)
theorem wd2 {P : ab_V → Prop} {a b : ab_V} {r : List ab_V} (h : ∀ v ∈ a :: b :: r, P v) : ∀ v ∈ r, P v := wd1 (wd1 h)
theorem wd3 {P : ab_V → Prop} {a b c : ab_V} {r : List ab_V} (h : ∀ v ∈ a :: b :: c :: r, P v) : ∀ v ∈ r, P v := wd1 (wd2 h)
theorem so_wfr {m : ab_M} {r : Option (Nat × Nat)} (h : ∀ y, r = some y → y.2 < mc m y.1) : wfV m (vR r) := by
  cases r with
  | none => trivial
  | some y => exact h y rfl
theorem so_nar {ty : FieldType} (h : (∃ n, ty = .object n) ∨ ∃ t, ty = .array t) (r : Option Nat) : narrow ty (va_rf r) = va_rf r := by
  rcases h with ⟨n, rfl⟩ | ⟨t, rfl⟩ <;> cases r <;> rfl
theorem so_fit {ty : FieldType} (h : (∃ n, ty = .object n) ∨ ∃ t, ty = .array t) (r : Option Nat) : fits ty (va_rf r) = true := by
  rcases h with ⟨n, rfl⟩ | ⟨t, rfl⟩ <;> cases r <;> rfl
/-- the cells of statics lie below, and none of ours is one: so a fact of theirs holds for the wider set too -/
theorem so_hz {C n d : String} {v : Value} {loc : Nat → Nat → Nat} {m : ab_M} {s : State} (h : va_Z C n d v (PA loc m) s s.heap) : va_Z C n d v (FA loc m s.heap.size) s s.heap := by
  obtain ⟨cf, kf, fi, f, a, cell, h1, h2, h3, h4, h5, h6, h7, h8⟩ := h
  refine ⟨cf, kf, fi, f, a, cell, h1, h2, h3, h4, h5, h6, h7, fun hz => ?_⟩
  rcases hz with hz | hz
  · exact h8 hz
  · have := (Array.getElem?_eq_some_iff.mp h5).1
    omega
theorem so_hl {C n d : String} {loc : Nat → Nat → Nat} {m : ab_M} {s : State} (h : vx_L C n d (PA loc m) s s.heap) : vx_L C n d (FA loc m s.heap.size) s s.heap := by
  obtain ⟨c, k, i, f, a, cell, h1, h2, h3, h4, h5, h6, h7, h8, h9, h10⟩ := h
  refine ⟨c, k, i, f, a, cell, h1, h2, h3, h4, h5, h6, h7, h8, h9, fun hz => ?_⟩
  rcases hz with hz | hz
  · exact h10 hz
  · have := (Array.getElem?_eq_some_iff.mp h5).1
    omega
theorem so_hq {C n d : String} {loc : Nat → Nat → Nat} {m : ab_M} {s : State} (h : vx_Zq C n d (PA loc m) s s.heap) : vx_Zq C n d (FA loc m s.heap.size) s s.heap := by
  obtain ⟨h1, h2⟩ := h
  refine ⟨?_, so_hl h2⟩
  rcases h1 with h1 | ⟨t, h1⟩
  · exact Or.inl (so_hz h1)
  · exact Or.inr ⟨t, so_hz h1⟩
section SO
variable {p : Program} {l : Launch} {e : Env} {R : Room} {s : State} {m : MethodId} {args : Array Value} {below : List Frame} {meth : Method} {c : Code} {Q : State → Prop} {D : va_G} {cA : Nat → ClassId} {nL : Nat} {loc0 : Nat → Nat → Nat} {m0 mf : ab_M} {cc : ByteArray} {own : String} {d : Nat}
variable {pc : Nat} {ls : ab_L} {st : List ab_V} {mm : ab_M} {Rr : ab_R → Prop}
/-- an instruction that touches the stack alone -/
theorem so_go {pc' : Nat} {st' : List ab_V} (k : ab_k p l e R s m args below meth c Q D cA nL loc0 m0 mf pc' ls st' mm)
    (hw : (∀ v ∈ st, wfV mm v) → ∀ v ∈ st', wfV mm v)
    (h : ∀ (H : Heap) (locs : List Loc) (loc : Nat → Nat → Nat) (lsv : Array Slot) (cells slots : Nat), ab_at D cA s loc0 m0 loc mm H locs → ab_lv nL loc mm lsv ls → (∀ v ∈ st, wfV mm v) → W p l e R s m args below meth c H locs cells slots Q (F0 m pc' lsv (st'.map (cv loc))) → W p l e R s m args below meth c H locs cells slots Q (F0 m pc lsv (st.map (cv loc)))) :
    ab_k p l e R s m args below meth c Q D cA nL loc0 m0 mf pc ls st mm :=
  ⟨k.1, fun H locs loc lsv ha hc hl hv => h H locs loc lsv _ _ ha hl hv (k.2 H locs loc lsv ha hc hl (hw hv))⟩
theorem so_weak {a b : ab_L} (hle : ab_le a b) (k : ab_k p l e R s m args below meth c Q D cA nL loc0 m0 mf pc a st mm) : ab_k p l e R s m args below meth c Q D cA nL loc0 m0 mf pc b st mm :=
  ⟨k.1, fun H locs loc lsv ha hc hl hv => k.2 H locs loc lsv ha hc (hl.le hle) hv⟩
theorem so_iconst (E : ab_env p l R s m args meth c D cA nL loc0 m0 mf cc own d) {n : Int} {v : Int32} (hv : Int32.ofInt n = v) (hdg : decode cc pc = .ok (.iconst n, 1)) (h : s_const (vI v) (pc + 1) (ab_k p l e R s m args below meth c Q D cA nL loc0 m0 mf) Rr ls st mm) : ab_k p l e R s m args below meth c Q D cA nL loc0 m0 mf pc ls st mm :=
  so_go h (fun hw => List.forall_mem_cons.mpr ⟨trivial, hw⟩) fun H locs loc lsv cells slots _ _ _ k => lv_iconst E.1 E.2.1 hdg hv k
theorem so_bipush (E : ab_env p l R s m args meth c D cA nL loc0 m0 mf cc own d) {n : Int} {v : Int32} (hv : (Int8.ofInt n).toInt32 = v) (hdg : decode cc pc = .ok (.bipush n, 2)) (h : s_const (vI v) (pc + 2) (ab_k p l e R s m args below meth c Q D cA nL loc0 m0 mf) Rr ls st mm) : ab_k p l e R s m args below meth c Q D cA nL loc0 m0 mf pc ls st mm :=
  so_go h (fun hw => List.forall_mem_cons.mpr ⟨trivial, hw⟩) fun H locs loc lsv cells slots _ _ _ k => lv_bipush E.1 E.2.1 hdg hv k
theorem so_sipush (E : ab_env p l R s m args meth c D cA nL loc0 m0 mf cc own d) {n : Int} {v : Int32} (hv : (Int16.ofInt n).toInt32 = v) (hdg : decode cc pc = .ok (.sipush n, 3)) (h : s_const (vI v) (pc + 3) (ab_k p l e R s m args below meth c Q D cA nL loc0 m0 mf) Rr ls st mm) : ab_k p l e R s m args below meth c Q D cA nL loc0 m0 mf pc ls st mm :=
  so_go h (fun hw => List.forall_mem_cons.mpr ⟨trivial, hw⟩) fun H locs loc lsv cells slots _ _ _ k => lv_sipush E.1 E.2.1 hdg hv k
theorem so_ldc (E : ab_env p l R s m args meth c D cA nL loc0 m0 mf cc own d) {i : Nat} {v : Int32} (hq : Jvm.Cond.constant own i v ∈ TB) (hdg : decode cc pc = .ok (.ldc i, 2)) (h : s_const (vI v) (pc + 2) (ab_k p l e R s m args below meth c Q D cA nL loc0 m0 mf) Rr ls st mm) : ab_k p l e R s m args below meth c Q D cA nL loc0 m0 mf pc ls st mm :=
  so_go h (fun hw => List.forall_mem_cons.mpr ⟨trivial, hw⟩) fun H locs loc lsv cells slots _ _ _ k => lv_ldc E.1 E.2.1 E.2.2.2.1 (E.2.2.2.2.1 _ hq) hdg k
theorem so_ldcw (E : ab_env p l R s m args meth c D cA nL loc0 m0 mf cc own d) {i : Nat} {v : Int32} (hq : Jvm.Cond.constant own i v ∈ TB) (hdg : decode cc pc = .ok (.ldc_w i, 3)) (h : s_const (vI v) (pc + 3) (ab_k p l e R s m args below meth c Q D cA nL loc0 m0 mf) Rr ls st mm) : ab_k p l e R s m args below meth c Q D cA nL loc0 m0 mf pc ls st mm :=
  so_go h (fun hw => List.forall_mem_cons.mpr ⟨trivial, hw⟩) fun H locs loc lsv cells slots _ _ _ k => lv_ldcw E.1 E.2.1 E.2.2.2.1 (E.2.2.2.2.1 _ hq) hdg k
theorem so_ldc2 (E : ab_env p l R s m args meth c D cA nL loc0 m0 mf cc own d) {i : Nat} {v : Int64} (hq : Jvm.Cond.constantLong own i v ∈ TB) (hdg : decode cc pc = .ok (.ldc2_w i, 3)) (h : s_const (vL v) (pc + 3) (ab_k p l e R s m args below meth c Q D cA nL loc0 m0 mf) Rr ls st mm) : ab_k p l e R s m args below meth c Q D cA nL loc0 m0 mf pc ls st mm :=
  so_go h (fun hw => List.forall_mem_cons.mpr ⟨trivial, hw⟩) fun H locs loc lsv cells slots _ _ _ k => lv_ldc2 E.1 E.2.1 E.2.2.2.1 (E.2.2.2.2.1 _ hq) hdg k
theorem so_iadd (E : ab_env p l R s m args meth c D cA nL loc0 m0 mf cc own d) (hdg : decode cc pc = .ok (.iadd, 1)) (h : s_bin (· + ·) (pc + 1) (ab_k p l e R s m args below meth c Q D cA nL loc0 m0 mf) Rr ls st mm) : ab_k p l e R s m args below meth c Q D cA nL loc0 m0 mf pc ls st mm := by
  unfold s_bin at h
  split at h
  · exact so_go h (fun hw => List.forall_mem_cons.mpr ⟨trivial, wd2 hw⟩) fun H locs loc lsv cells slots ha hl hv k => lv_iadd E.1 E.2.1 hdg k
  · exact h.elim
theorem so_isub (E : ab_env p l R s m args meth c D cA nL loc0 m0 mf cc own d) (hdg : decode cc pc = .ok (.isub, 1)) (h : s_bin (· - ·) (pc + 1) (ab_k p l e R s m args below meth c Q D cA nL loc0 m0 mf) Rr ls st mm) : ab_k p l e R s m args below meth c Q D cA nL loc0 m0 mf pc ls st mm := by
  unfold s_bin at h
  split at h
  · exact so_go h (fun hw => List.forall_mem_cons.mpr ⟨trivial, wd2 hw⟩) fun H locs loc lsv cells slots ha hl hv k => lv_isub E.1 E.2.1 hdg k
  · exact h.elim
theorem so_imul (E : ab_env p l R s m args meth c D cA nL loc0 m0 mf cc own d) (hdg : decode cc pc = .ok (.imul, 1)) (h : s_bin (· * ·) (pc + 1) (ab_k p l e R s m args below meth c Q D cA nL loc0 m0 mf) Rr ls st mm) : ab_k p l e R s m args below meth c Q D cA nL loc0 m0 mf pc ls st mm := by
  unfold s_bin at h
  split at h
  · exact so_go h (fun hw => List.forall_mem_cons.mpr ⟨trivial, wd2 hw⟩) fun H locs loc lsv cells slots ha hl hv k => lv_imul E.1 E.2.1 hdg k
  · exact h.elim
theorem so_ishl (E : ab_env p l R s m args meth c D cA nL loc0 m0 mf cc own d) (hdg : decode cc pc = .ok (.ishl, 1)) (h : s_bin (fun x y => x <<< (y &&& 31)) (pc + 1) (ab_k p l e R s m args below meth c Q D cA nL loc0 m0 mf) Rr ls st mm) : ab_k p l e R s m args below meth c Q D cA nL loc0 m0 mf pc ls st mm := by
  unfold s_bin at h
  split at h
  · exact so_go h (fun hw => List.forall_mem_cons.mpr ⟨trivial, wd2 hw⟩) fun H locs loc lsv cells slots ha hl hv k => lv_ishl E.1 E.2.1 hdg k
  · exact h.elim
theorem so_ishr (E : ab_env p l R s m args meth c D cA nL loc0 m0 mf cc own d) (hdg : decode cc pc = .ok (.ishr, 1)) (h : s_bin (fun x y => x >>> (y &&& 31)) (pc + 1) (ab_k p l e R s m args below meth c Q D cA nL loc0 m0 mf) Rr ls st mm) : ab_k p l e R s m args below meth c Q D cA nL loc0 m0 mf pc ls st mm := by
  unfold s_bin at h
  split at h
  · exact so_go h (fun hw => List.forall_mem_cons.mpr ⟨trivial, wd2 hw⟩) fun H locs loc lsv cells slots ha hl hv k => lv_ishr E.1 E.2.1 hdg k
  · exact h.elim
theorem so_iand (E : ab_env p l R s m args meth c D cA nL loc0 m0 mf cc own d) (hdg : decode cc pc = .ok (.iand, 1)) (h : s_bin (· &&& ·) (pc + 1) (ab_k p l e R s m args below meth c Q D cA nL loc0 m0 mf) Rr ls st mm) : ab_k p l e R s m args below meth c Q D cA nL loc0 m0 mf pc ls st mm := by
  unfold s_bin at h
  split at h
  · exact so_go h (fun hw => List.forall_mem_cons.mpr ⟨trivial, wd2 hw⟩) fun H locs loc lsv cells slots ha hl hv k => lv_iand E.1 E.2.1 hdg k
  · exact h.elim
theorem so_ior (E : ab_env p l R s m args meth c D cA nL loc0 m0 mf cc own d) (hdg : decode cc pc = .ok (.ior, 1)) (h : s_bin (· ||| ·) (pc + 1) (ab_k p l e R s m args below meth c Q D cA nL loc0 m0 mf) Rr ls st mm) : ab_k p l e R s m args below meth c Q D cA nL loc0 m0 mf pc ls st mm := by
  unfold s_bin at h
  split at h
  · exact so_go h (fun hw => List.forall_mem_cons.mpr ⟨trivial, wd2 hw⟩) fun H locs loc lsv cells slots ha hl hv k => lv_ior E.1 E.2.1 hdg k
  · exact h.elim
theorem so_ixor (E : ab_env p l R s m args meth c D cA nL loc0 m0 mf cc own d) (hdg : decode cc pc = .ok (.ixor, 1)) (h : s_bin (· ^^^ ·) (pc + 1) (ab_k p l e R s m args below meth c Q D cA nL loc0 m0 mf) Rr ls st mm) : ab_k p l e R s m args below meth c Q D cA nL loc0 m0 mf pc ls st mm := by
  unfold s_bin at h
  split at h
  · exact so_go h (fun hw => List.forall_mem_cons.mpr ⟨trivial, wd2 hw⟩) fun H locs loc lsv cells slots ha hl hv k => lv_ixor E.1 E.2.1 hdg k
  · exact h.elim
theorem so_iushr (E : ab_env p l R s m args meth c D cA nL loc0 m0 mf cc own d) (hdg : decode cc pc = .ok (.iushr, 1)) (h : s_bin (fun x y => (x.toUInt32 >>> (y.toUInt32 &&& Int32.toUInt32 31)).toInt32) (pc + 1) (ab_k p l e R s m args below meth c Q D cA nL loc0 m0 mf) Rr ls st mm) : ab_k p l e R s m args below meth c Q D cA nL loc0 m0 mf pc ls st mm := by
  unfold s_bin at h
  split at h
  · exact so_go h (fun hw => List.forall_mem_cons.mpr ⟨trivial, wd2 hw⟩) fun H locs loc lsv cells slots ha hl hv k => lv_iushr E.1 E.2.1 hdg rfl k
  · exact h.elim
theorem so_idiv (E : ab_env p l R s m args meth c D cA nL loc0 m0 mf cc own d) (hdg : decode cc pc = .ok (.idiv, 1)) (h : s_div (· / ·) (pc + 1) (ab_k p l e R s m args below meth c Q D cA nL loc0 m0 mf) Rr ls st mm) : ab_k p l e R s m args below meth c Q D cA nL loc0 m0 mf pc ls st mm := by
  unfold s_div at h
  split at h
  · split at h
    · exact h.elim
    · exact so_go h (fun hw => List.forall_mem_cons.mpr ⟨trivial, wd2 hw⟩) fun H locs loc lsv cells slots ha hl hv k => lv_idiv E.1 E.2.1 hdg (by assumption) k
  · exact h.elim
theorem so_irem (E : ab_env p l R s m args meth c D cA nL loc0 m0 mf cc own d) (hdg : decode cc pc = .ok (.irem, 1)) (h : s_div (fun x y => x - x / y * y) (pc + 1) (ab_k p l e R s m args below meth c Q D cA nL loc0 m0 mf) Rr ls st mm) : ab_k p l e R s m args below meth c Q D cA nL loc0 m0 mf pc ls st mm := by
  unfold s_div at h
  split at h
  · split at h
    · exact h.elim
    · exact so_go h (fun hw => List.forall_mem_cons.mpr ⟨trivial, wd2 hw⟩) fun H locs loc lsv cells slots ha hl hv k => lv_irem E.1 E.2.1 hdg (by assumption) k
  · exact h.elim
theorem so_ladd (E : ab_env p l R s m args meth c D cA nL loc0 m0 mf cc own d) (hdg : decode cc pc = .ok (.ladd, 1)) (h : s_binL (· + ·) (pc + 1) (ab_k p l e R s m args below meth c Q D cA nL loc0 m0 mf) Rr ls st mm) : ab_k p l e R s m args below meth c Q D cA nL loc0 m0 mf pc ls st mm := by
  unfold s_binL at h
  split at h
  · exact so_go h (fun hw => List.forall_mem_cons.mpr ⟨trivial, wd2 hw⟩) fun H locs loc lsv cells slots ha hl hv k => lv_ladd E.1 E.2.1 hdg k
  · exact h.elim
theorem so_lmul (E : ab_env p l R s m args meth c D cA nL loc0 m0 mf cc own d) (hdg : decode cc pc = .ok (.lmul, 1)) (h : s_binL (· * ·) (pc + 1) (ab_k p l e R s m args below meth c Q D cA nL loc0 m0 mf) Rr ls st mm) : ab_k p l e R s m args below meth c Q D cA nL loc0 m0 mf pc ls st mm := by
  unfold s_binL at h
  split at h
  · exact so_go h (fun hw => List.forall_mem_cons.mpr ⟨trivial, wd2 hw⟩) fun H locs loc lsv cells slots ha hl hv k => lv_lmul E.1 E.2.1 hdg k
  · exact h.elim
theorem so_lcmp (E : ab_env p l R s m args meth c D cA nL loc0 m0 mf cc own d) (hdg : decode cc pc = .ok (.lcmp, 1)) (h : s_lcmp (pc + 1) (ab_k p l e R s m args below meth c Q D cA nL loc0 m0 mf) Rr ls st mm) : ab_k p l e R s m args below meth c Q D cA nL loc0 m0 mf pc ls st mm := by
  unfold s_lcmp at h
  split at h
  · exact so_go h (fun hw => List.forall_mem_cons.mpr ⟨trivial, wd2 hw⟩) fun H locs loc lsv cells slots ha hl hv k => W.lcmp E.1 E.2.1 hdg k
  · exact h.elim
theorem so_i2l (E : ab_env p l R s m args meth c D cA nL loc0 m0 mf cc own d) (hdg : decode cc pc = .ok (.i2l, 1)) (h : s_i2l (pc + 1) (ab_k p l e R s m args below meth c Q D cA nL loc0 m0 mf) Rr ls st mm) : ab_k p l e R s m args below meth c Q D cA nL loc0 m0 mf pc ls st mm := by
  unfold s_i2l at h
  split at h
  · exact so_go h (fun hw => List.forall_mem_cons.mpr ⟨trivial, wd1 hw⟩) fun H locs loc lsv cells slots ha hl hv k => lv_i2l E.1 E.2.1 hdg rfl k
  · exact h.elim
theorem so_ifeq (E : ab_env p l R s m args meth c D cA nL loc0 m0 mf cc own d) {off : Int} {tgt : Nat} (ht : (pc : Int) + off = (tgt : Int)) (hdg : decode cc pc = .ok (.ifCond .eq off, 3)) (h : s_ifeq tgt (pc + 3) (ab_k p l e R s m args below meth c Q D cA nL loc0 m0 mf) Rr ls st mm) : ab_k p l e R s m args below meth c Q D cA nL loc0 m0 mf pc ls st mm := by
  unfold s_ifeq at h
  split at h
  · split at h
    · next hc => exact so_go h (fun hw => wd1 hw) fun H locs loc lsv cells slots ha hl hv k => lv_if_eq E.1 E.2.1 hdg ht (fun _ => k) (fun z => absurd hc z)
    · next hc => exact so_go h (fun hw => wd1 hw) fun H locs loc lsv cells slots ha hl hv k => lv_if_eq E.1 E.2.1 hdg ht (fun z => absurd z hc) (fun _ => k)
  · exact h.elim
theorem so_ifne (E : ab_env p l R s m args meth c D cA nL loc0 m0 mf cc own d) {off : Int} {tgt : Nat} (ht : (pc : Int) + off = (tgt : Int)) (hdg : decode cc pc = .ok (.ifCond .ne off, 3)) (h : s_ifeq (pc + 3) tgt (ab_k p l e R s m args below meth c Q D cA nL loc0 m0 mf) Rr ls st mm) : ab_k p l e R s m args below meth c Q D cA nL loc0 m0 mf pc ls st mm := by
  unfold s_ifeq at h
  split at h
  · split at h
    · next hc => exact so_go h (fun hw => wd1 hw) fun H locs loc lsv cells slots ha hl hv k => lv_if_ne E.1 E.2.1 hdg ht (fun z => absurd hc z) (fun _ => k)
    · next hc => exact so_go h (fun hw => wd1 hw) fun H locs loc lsv cells slots ha hl hv k => lv_if_ne E.1 E.2.1 hdg ht (fun _ => k) (fun z => absurd z hc)
  · exact h.elim
theorem so_iflt (E : ab_env p l R s m args meth c D cA nL loc0 m0 mf cc own d) {off : Int} {tgt : Nat} (ht : (pc : Int) + off = (tgt : Int)) (hdg : decode cc pc = .ok (.ifCond .lt off, 3)) (h : s_iflt tgt (pc + 3) (ab_k p l e R s m args below meth c Q D cA nL loc0 m0 mf) Rr ls st mm) : ab_k p l e R s m args below meth c Q D cA nL loc0 m0 mf pc ls st mm := by
  unfold s_iflt at h
  split at h
  · split at h
    · next hc => exact so_go h (fun hw => wd1 hw) fun H locs loc lsv cells slots ha hl hv k => lv_if_lt E.1 E.2.1 hdg ht (fun _ => k) (fun z => absurd hc z)
    · next hc => exact so_go h (fun hw => wd1 hw) fun H locs loc lsv cells slots ha hl hv k => lv_if_lt E.1 E.2.1 hdg ht (fun z => absurd z hc) (fun _ => k)
  · exact h.elim
theorem so_ifge (E : ab_env p l R s m args meth c D cA nL loc0 m0 mf cc own d) {off : Int} {tgt : Nat} (ht : (pc : Int) + off = (tgt : Int)) (hdg : decode cc pc = .ok (.ifCond .ge off, 3)) (h : s_iflt (pc + 3) tgt (ab_k p l e R s m args below meth c Q D cA nL loc0 m0 mf) Rr ls st mm) : ab_k p l e R s m args below meth c Q D cA nL loc0 m0 mf pc ls st mm := by
  unfold s_iflt at h
  split at h
  · split at h
    · next hc => exact so_go h (fun hw => wd1 hw) fun H locs loc lsv cells slots ha hl hv k => lv_if_ge E.1 E.2.1 hdg ht (fun z => absurd z (Int32.not_le.mpr hc)) (fun _ => k)
    · next hc => exact so_go h (fun hw => wd1 hw) fun H locs loc lsv cells slots ha hl hv k => lv_if_ge E.1 E.2.1 hdg ht (fun _ => k) (fun z => absurd (Int32.not_lt.mp hc) z)
  · exact h.elim
theorem so_ifle (E : ab_env p l R s m args meth c D cA nL loc0 m0 mf cc own d) {off : Int} {tgt : Nat} (ht : (pc : Int) + off = (tgt : Int)) (hdg : decode cc pc = .ok (.ifCond .le off, 3)) (h : s_ifgt (pc + 3) tgt (ab_k p l e R s m args below meth c Q D cA nL loc0 m0 mf) Rr ls st mm) : ab_k p l e R s m args below meth c Q D cA nL loc0 m0 mf pc ls st mm := by
  unfold s_ifgt at h
  split at h
  · split at h
    · next hc => exact so_go h (fun hw => wd1 hw) fun H locs loc lsv cells slots ha hl hv k => lv_if_le E.1 E.2.1 hdg ht (fun z => absurd z (Int32.not_le.mpr hc)) (fun _ => k)
    · next hc => exact so_go h (fun hw => wd1 hw) fun H locs loc lsv cells slots ha hl hv k => lv_if_le E.1 E.2.1 hdg ht (fun _ => k) (fun z => absurd (Int32.not_lt.mp hc) z)
  · exact h.elim
theorem so_icmpeq (E : ab_env p l R s m args meth c D cA nL loc0 m0 mf cc own d) {off : Int} {tgt : Nat} (ht : (pc : Int) + off = (tgt : Int)) (hdg : decode cc pc = .ok (.if_icmp .eq off, 3)) (h : s_cmpeq tgt (pc + 3) (ab_k p l e R s m args below meth c Q D cA nL loc0 m0 mf) Rr ls st mm) : ab_k p l e R s m args below meth c Q D cA nL loc0 m0 mf pc ls st mm := by
  unfold s_cmpeq at h
  split at h
  · split at h
    · next hc => exact so_go h (fun hw => wd2 hw) fun H locs loc lsv cells slots ha hl hv k => lv_icmp_eq E.1 E.2.1 hdg ht (fun _ => k) (fun z => absurd hc z)
    · next hc => exact so_go h (fun hw => wd2 hw) fun H locs loc lsv cells slots ha hl hv k => lv_icmp_eq E.1 E.2.1 hdg ht (fun z => absurd z hc) (fun _ => k)
  · exact h.elim
theorem so_icmpne (E : ab_env p l R s m args meth c D cA nL loc0 m0 mf cc own d) {off : Int} {tgt : Nat} (ht : (pc : Int) + off = (tgt : Int)) (hdg : decode cc pc = .ok (.if_icmp .ne off, 3)) (h : s_cmpeq (pc + 3) tgt (ab_k p l e R s m args below meth c Q D cA nL loc0 m0 mf) Rr ls st mm) : ab_k p l e R s m args below meth c Q D cA nL loc0 m0 mf pc ls st mm := by
  unfold s_cmpeq at h
  split at h
  · split at h
    · next hc => exact so_go h (fun hw => wd2 hw) fun H locs loc lsv cells slots ha hl hv k => lv_icmp_ne E.1 E.2.1 hdg ht (fun z => absurd hc z) (fun _ => k)
    · next hc => exact so_go h (fun hw => wd2 hw) fun H locs loc lsv cells slots ha hl hv k => lv_icmp_ne E.1 E.2.1 hdg ht (fun _ => k) (fun z => absurd z hc)
  · exact h.elim
theorem so_icmplt (E : ab_env p l R s m args meth c D cA nL loc0 m0 mf cc own d) {off : Int} {tgt : Nat} (ht : (pc : Int) + off = (tgt : Int)) (hdg : decode cc pc = .ok (.if_icmp .lt off, 3)) (h : s_cmplt tgt (pc + 3) (ab_k p l e R s m args below meth c Q D cA nL loc0 m0 mf) Rr ls st mm) : ab_k p l e R s m args below meth c Q D cA nL loc0 m0 mf pc ls st mm := by
  unfold s_cmplt at h
  split at h
  · split at h
    · next hc => exact so_go h (fun hw => wd2 hw) fun H locs loc lsv cells slots ha hl hv k => lv_icmp_lt E.1 E.2.1 hdg ht (fun _ => k) (fun z => absurd hc z)
    · next hc => exact so_go h (fun hw => wd2 hw) fun H locs loc lsv cells slots ha hl hv k => lv_icmp_lt E.1 E.2.1 hdg ht (fun z => absurd z hc) (fun _ => k)
  · exact h.elim
theorem so_icmpge (E : ab_env p l R s m args meth c D cA nL loc0 m0 mf cc own d) {off : Int} {tgt : Nat} (ht : (pc : Int) + off = (tgt : Int)) (hdg : decode cc pc = .ok (.if_icmp .ge off, 3)) (h : s_cmplt (pc + 3) tgt (ab_k p l e R s m args below meth c Q D cA nL loc0 m0 mf) Rr ls st mm) : ab_k p l e R s m args below meth c Q D cA nL loc0 m0 mf pc ls st mm := by
  unfold s_cmplt at h
  split at h
  · split at h
    · next hc => exact so_go h (fun hw => wd2 hw) fun H locs loc lsv cells slots ha hl hv k => lv_icmp_ge E.1 E.2.1 hdg ht (fun z => absurd z (Int32.not_le.mpr hc)) (fun _ => k)
    · next hc => exact so_go h (fun hw => wd2 hw) fun H locs loc lsv cells slots ha hl hv k => lv_icmp_ge E.1 E.2.1 hdg ht (fun _ => k) (fun z => absurd (Int32.not_lt.mp hc) z)
  · exact h.elim
theorem so_icmpgt (E : ab_env p l R s m args meth c D cA nL loc0 m0 mf cc own d) {off : Int} {tgt : Nat} (ht : (pc : Int) + off = (tgt : Int)) (hdg : decode cc pc = .ok (.if_icmp .gt off, 3)) (h : s_cmpgt tgt (pc + 3) (ab_k p l e R s m args below meth c Q D cA nL loc0 m0 mf) Rr ls st mm) : ab_k p l e R s m args below meth c Q D cA nL loc0 m0 mf pc ls st mm := by
  unfold s_cmpgt at h
  split at h
  · split at h
    · next hc => exact so_go h (fun hw => wd2 hw) fun H locs loc lsv cells slots ha hl hv k => lv_icmp_gt E.1 E.2.1 hdg ht (fun _ => k) (fun z => absurd hc z)
    · next hc => exact so_go h (fun hw => wd2 hw) fun H locs loc lsv cells slots ha hl hv k => lv_icmp_gt E.1 E.2.1 hdg ht (fun z => absurd z hc) (fun _ => k)
  · exact h.elim
theorem so_icmple (E : ab_env p l R s m args meth c D cA nL loc0 m0 mf cc own d) {off : Int} {tgt : Nat} (ht : (pc : Int) + off = (tgt : Int)) (hdg : decode cc pc = .ok (.if_icmp .le off, 3)) (h : s_cmpgt (pc + 3) tgt (ab_k p l e R s m args below meth c Q D cA nL loc0 m0 mf) Rr ls st mm) : ab_k p l e R s m args below meth c Q D cA nL loc0 m0 mf pc ls st mm := by
  unfold s_cmpgt at h
  split at h
  · split at h
    · next hc => exact so_go h (fun hw => wd2 hw) fun H locs loc lsv cells slots ha hl hv k => lv_icmp_le E.1 E.2.1 hdg ht (fun z => absurd z (Int32.not_le.mpr hc)) (fun _ => k)
    · next hc => exact so_go h (fun hw => wd2 hw) fun H locs loc lsv cells slots ha hl hv k => lv_icmp_le E.1 E.2.1 hdg ht (fun _ => k) (fun z => absurd (Int32.not_lt.mp hc) z)
  · exact h.elim
theorem so_goto (E : ab_env p l R s m args meth c D cA nL loc0 m0 mf cc own d) {off : Int} {tgt : Nat} (ht : (pc : Int) + off = (tgt : Int)) (hdg : decode cc pc = .ok (.goto off, 3)) (h : s_goto tgt (ab_k p l e R s m args below meth c Q D cA nL loc0 m0 mf) Rr ls st mm) : ab_k p l e R s m args below meth c Q D cA nL loc0 m0 mf pc ls st mm :=
  so_go h (fun hw => hw) fun H locs loc lsv cells slots ha hl hv k => lv_goto E.1 E.2.1 hdg ht k
theorem so_pop (E : ab_env p l R s m args meth c D cA nL loc0 m0 mf cc own d) (hdg : decode cc pc = .ok (.pop, 1)) (h : s_pop (pc + 1) (ab_k p l e R s m args below meth c Q D cA nL loc0 m0 mf) Rr ls st mm) : ab_k p l e R s m args below meth c Q D cA nL loc0 m0 mf pc ls st mm := by
  unfold s_pop at h
  split at h
  · split at h
    · next hc => exact so_go h (fun hw => wd1 hw) fun H locs loc lsv cells slots ha hl hv k => lv_pop E.1 E.2.1 hdg (by rw [cv_cat, hc]; rfl) k
    · exact h.elim
  · exact h.elim
theorem so_dup (E : ab_env p l R s m args meth c D cA nL loc0 m0 mf cc own d) (hdg : decode cc pc = .ok (.dup, 1)) (h : s_dup (pc + 1) (ab_k p l e R s m args below meth c Q D cA nL loc0 m0 mf) Rr ls st mm) : ab_k p l e R s m args below meth c Q D cA nL loc0 m0 mf pc ls st mm := by
  unfold s_dup at h
  split at h
  · split at h
    · next hc => exact so_go h (fun hw => List.forall_mem_cons.mpr ⟨hw _ List.mem_cons_self, hw⟩) fun H locs loc lsv cells slots ha hl hv k => lv_dup E.1 E.2.1 hdg (by rw [cv_cat, hc]; rfl) k
    · exact h.elim
  · exact h.elim
theorem so_dup2 (E : ab_env p l R s m args meth c D cA nL loc0 m0 mf cc own d) (hdg : decode cc pc = .ok (.dup2, 1)) (h : s_dup2 (pc + 1) (ab_k p l e R s m args below meth c Q D cA nL loc0 m0 mf) Rr ls st mm) : ab_k p l e R s m args below meth c Q D cA nL loc0 m0 mf pc ls st mm := by
  unfold s_dup2 at h
  split at h
  · split at h
    · next hc => exact so_go h (fun hw => List.forall_mem_cons.mpr ⟨hw _ List.mem_cons_self, List.forall_mem_cons.mpr ⟨wd1 hw _ List.mem_cons_self, hw⟩⟩) fun H locs loc lsv cells slots ha hl hv k => lv_dup2_11 E.1 E.2.1 hdg (by rw [cv_cat, hc.1]; rfl) (by rw [cv_cat, hc.2]; rfl) k
    · exact h.elim
  · exact h.elim
theorem so_iload (E : ab_env p l R s m args meth c D cA nL loc0 m0 mf cc own d) {i : Nat} (hdg : decode cc pc = .ok (.iload i, 2)) (h : s_iload i (pc + 2) (ab_k p l e R s m args below meth c Q D cA nL loc0 m0 mf) Rr ls st mm) : ab_k p l e R s m args below meth c Q D cA nL loc0 m0 mf pc ls st mm := by
  unfold s_iload at h
  split at h
  · exact so_go h (fun hw => List.forall_mem_cons.mpr ⟨trivial, hw⟩) fun H locs loc lsv cells slots ha hl hv k => lv_iload E.1 E.2.1 hdg (hl.2.2.2 _ _ (by assumption)).1 k
  · exact h.elim
theorem so_iload_n (E : ab_env p l R s m args meth c D cA nL loc0 m0 mf cc own d) {i : Nat} {kf : Fin 4} (hi : (kf : Nat) = i) (hdg : decode cc pc = .ok (.iload_n kf, 1)) (h : s_iload i (pc + 1) (ab_k p l e R s m args below meth c Q D cA nL loc0 m0 mf) Rr ls st mm) : ab_k p l e R s m args below meth c Q D cA nL loc0 m0 mf pc ls st mm := by
  unfold s_iload at h
  split at h
  · exact so_go h (fun hw => List.forall_mem_cons.mpr ⟨trivial, hw⟩) fun H locs loc lsv cells slots ha hl hv k => lv_iload_n E.1 E.2.1 hdg hi (hl.2.2.2 _ _ (by assumption)).1 k
  · exact h.elim
theorem so_lload (E : ab_env p l R s m args meth c D cA nL loc0 m0 mf cc own d) {i : Nat} (hdg : decode cc pc = .ok (.lload i, 2)) (h : s_lload i (pc + 2) (ab_k p l e R s m args below meth c Q D cA nL loc0 m0 mf) Rr ls st mm) : ab_k p l e R s m args below meth c Q D cA nL loc0 m0 mf pc ls st mm := by
  unfold s_lload at h
  split at h
  · exact so_go h (fun hw => List.forall_mem_cons.mpr ⟨trivial, hw⟩) fun H locs loc lsv cells slots ha hl hv k => lv_lload E.1 E.2.1 hdg (hl.2.2.2 _ _ (by assumption)).1 k
  · exact h.elim
theorem so_lload_n (E : ab_env p l R s m args meth c D cA nL loc0 m0 mf cc own d) {i : Nat} {kf : Fin 4} (hi : (kf : Nat) = i) (hdg : decode cc pc = .ok (.lload_n kf, 1)) (h : s_lload i (pc + 1) (ab_k p l e R s m args below meth c Q D cA nL loc0 m0 mf) Rr ls st mm) : ab_k p l e R s m args below meth c Q D cA nL loc0 m0 mf pc ls st mm := by
  unfold s_lload at h
  split at h
  · exact so_go h (fun hw => List.forall_mem_cons.mpr ⟨trivial, hw⟩) fun H locs loc lsv cells slots ha hl hv k => lv_lload_n E.1 E.2.1 hdg hi (hl.2.2.2 _ _ (by assumption)).1 k
  · exact h.elim
theorem so_aload_n (E : ab_env p l R s m args meth c D cA nL loc0 m0 mf cc own d) {i : Nat} {kf : Fin 4} (hi : (kf : Nat) = i) (hdg : decode cc pc = .ok (.aload_n kf, 1)) (h : s_aload i (pc + 1) (ab_k p l e R s m args below meth c Q D cA nL loc0 m0 mf) Rr ls st mm) : ab_k p l e R s m args below meth c Q D cA nL loc0 m0 mf pc ls st mm := by
  unfold s_aload at h
  split at h
  · next r hr =>
    refine ⟨h.1, fun H locs loc lsv ha hc hl hv => ?_⟩
    have hL := hl.2.2.2 _ _ hr
    have k := h.2 H locs loc lsv ha hc hl (List.forall_mem_cons.mpr ⟨hL.2, hv⟩)
    cases r with
    | none => exact lv_aload_nN E.1 E.2.1 hdg hi hL.1 k
    | some x => exact lv_aload_n E.1 E.2.1 hdg hi hL.1 k
  · exact h.elim
theorem so_istore (E : ab_env p l R s m args meth c D cA nL loc0 m0 mf cc own d) {i : Nat} (hdg : decode cc pc = .ok (.istore i, 2)) (h : s_istore i (pc + 2) (ab_k p l e R s m args below meth c Q D cA nL loc0 m0 mf) Rr ls st mm) : ab_k p l e R s m args below meth c Q D cA nL loc0 m0 mf pc ls st mm := by
  unfold s_istore at h
  split at h
  · split at h
    · next hlt => exact ⟨h.1, fun H locs loc lsv ha hc hl hv => lv_istore E.1 E.2.1 hdg hl.has (by rw [← hl.2.2.1]; exact hlt) rfl fun lsv' hl' => h.2 H locs loc lsv' ha hc (ab_lv_st1 hl hlt trivial hl') (wd1 hv)⟩
    · exact h.elim
  · exact h.elim
theorem so_istore_n (E : ab_env p l R s m args meth c D cA nL loc0 m0 mf cc own d) {i : Nat} {kf : Fin 4} (hi : (kf : Nat) = i) (hdg : decode cc pc = .ok (.istore_n kf, 1)) (h : s_istore i (pc + 1) (ab_k p l e R s m args below meth c Q D cA nL loc0 m0 mf) Rr ls st mm) : ab_k p l e R s m args below meth c Q D cA nL loc0 m0 mf pc ls st mm := by
  unfold s_istore at h
  split at h
  · split at h
    · next hlt => exact ⟨h.1, fun H locs loc lsv ha hc hl hv => lv_istore_n E.1 E.2.1 hdg hi hl.has (by rw [← hl.2.2.1]; exact hlt) rfl fun lsv' hl' => h.2 H locs loc lsv' ha hc (ab_lv_st1 hl hlt trivial hl') (wd1 hv)⟩
    · exact h.elim
  · exact h.elim
theorem so_lstore (E : ab_env p l R s m args meth c D cA nL loc0 m0 mf cc own d) {i : Nat} (hdg : decode cc pc = .ok (.lstore i, 2)) (h : s_lstore i (pc + 2) (ab_k p l e R s m args below meth c Q D cA nL loc0 m0 mf) Rr ls st mm) : ab_k p l e R s m args below meth c Q D cA nL loc0 m0 mf pc ls st mm := by
  unfold s_lstore at h
  split at h
  · split at h
    · next hlt => exact ⟨h.1, fun H locs loc lsv ha hc hl hv => lv_lstore E.1 E.2.1 hdg hl.has (by rw [← hl.2.2.1]; exact hlt) rfl fun lsv' hl' => h.2 H locs loc lsv' ha hc (ab_lv_st2 hl hlt trivial hl') (wd1 hv)⟩
    · exact h.elim
  · exact h.elim
theorem so_lstore_n (E : ab_env p l R s m args meth c D cA nL loc0 m0 mf cc own d) {i : Nat} {kf : Fin 4} (hi : (kf : Nat) = i) (hdg : decode cc pc = .ok (.lstore_n kf, 1)) (h : s_lstore i (pc + 1) (ab_k p l e R s m args below meth c Q D cA nL loc0 m0 mf) Rr ls st mm) : ab_k p l e R s m args below meth c Q D cA nL loc0 m0 mf pc ls st mm := by
  unfold s_lstore at h
  split at h
  · split at h
    · next hlt => exact ⟨h.1, fun H locs loc lsv ha hc hl hv => lv_lstore_n E.1 E.2.1 hdg hi hl.has (by rw [← hl.2.2.1]; exact hlt) rfl fun lsv' hl' => h.2 H locs loc lsv' ha hc (ab_lv_st2 hl hlt trivial hl') (wd1 hv)⟩
    · exact h.elim
  · exact h.elim
theorem so_astore_n (E : ab_env p l R s m args meth c D cA nL loc0 m0 mf cc own d) {i : Nat} {kf : Fin 4} (hi : (kf : Nat) = i) (hdg : decode cc pc = .ok (.astore_n kf, 1)) (h : s_astore i (pc + 1) (ab_k p l e R s m args below meth c Q D cA nL loc0 m0 mf) Rr ls st mm) : ab_k p l e R s m args below meth c Q D cA nL loc0 m0 mf pc ls st mm := by
  unfold s_astore at h
  split at h
  · split at h
    · next r _ hlt =>
      refine ⟨h.1, fun H locs loc lsv ha hc hl hv => ?_⟩
      cases r with
      | none => exact lv_astore_nN E.1 E.2.1 hdg hi hl.has (by rw [← hl.2.2.1]; exact hlt) rfl fun lsv' hl' => h.2 H locs loc lsv' ha hc (ab_lv_st1 hl hlt trivial hl') (wd1 hv)
      | some x => exact lv_astore_n E.1 E.2.1 hdg hi hl.has (by rw [← hl.2.2.1]; exact hlt) rfl fun lsv' hl' => h.2 H locs loc lsv' ha hc (ab_lv_st1 hl hlt (hv _ List.mem_cons_self) hl') (wd1 hv)
    · exact h.elim
  · split at h
    · next hlt => exact ⟨h.1, fun H locs loc lsv ha hc hl hv => lv_astore_n E.1 E.2.1 hdg hi hl.has (by rw [← hl.2.2.1]; exact hlt) rfl fun lsv' hl' => h.2 H locs loc lsv' ha hc (ab_lv_st1 hl hlt trivial hl') (wd1 hv)⟩
    · exact h.elim
  · exact h.elim
theorem so_iinc (E : ab_env p l R s m args meth c D cA nL loc0 m0 mf cc own d) {i : Nat} {n : Int} {v : Int32} (hv : Int32.ofInt n = v) (hdg : decode cc pc = .ok (.iinc i n, 3)) (h : s_iinc i v (pc + 3) (ab_k p l e R s m args below meth c Q D cA nL loc0 m0 mf) Rr ls st mm) : ab_k p l e R s m args below meth c Q D cA nL loc0 m0 mf pc ls st mm := by
  unfold s_iinc at h
  split at h
  · next x hx =>
    refine ⟨h.1, fun H locs loc lsv ha hc hl hw => ?_⟩
    have hlt : i < ls.length := (List.getElem?_eq_some_iff.mp hx).1
    obtain ⟨k, hk⟩ := List.getElem?_of_mem (ab_as_mem.mpr ⟨_, hx, rfl⟩ : (i, cv loc (vI x)) ∈ ab_as loc ls)
    exact lv_iinc E.1 E.2.1 hdg hl.has hk (by rw [hv]) (by rw [← hl.2.2.1]; exact hlt) rfl fun lsv' hl' => h.2 H locs loc lsv' ha hc (ab_lv_st1 hl hlt trivial hl') hw
  · exact h.elim
theorem so_tab (E : ab_env p l R s m args meth c D cA nL loc0 m0 mf cc own d) {lo hi df : Int} {offs : Array Int} {len dt : Nat} {tg : List Nat} (hd : (pc : Int) + df = (dt : Int)) (hlen : tg.length = offs.size) (ho9 : (List.range tg.length).all (fun i => decide ((pc : Int) + offs.getD i 0 = ((tg.getD i 0 : Nat) : Int))) = true) (hdg : decode cc pc = .ok (.tableswitch df lo hi offs, len)) (h : s_tab lo hi tg dt (ab_k p l e R s m args below meth c Q D cA nL loc0 m0 mf) Rr ls st mm) : ab_k p l e R s m args below meth c Q D cA nL loc0 m0 mf pc ls st mm := by
  have ho : ∀ (i : Nat) (off : Int) (t : Nat), offs[i]? = some off → tg[i]? = some t → (pc : Int) + off = (t : Int) := fun i off t h1 h2 => by
    have h3 := of_decide_eq_true (List.all_eq_true.mp ho9 i (List.mem_range.mpr (List.getElem?_eq_some_iff.mp h2).1))
    rw [List.getD_eq_getElem?_getD, h2, Array.getD_eq_getD_getElem?, h1] at h3
    exact h3
  unfold s_tab at h
  split at h
  · split at h
    · next hc => exact so_go h (fun hw => wd1 hw) fun H locs loc lsv cells slots ha hl hv k => lv_tableOut E.1 E.2.1 hdg hc hd k
    · next x r hc =>
      split at h
      · next t ht =>
        obtain ⟨off, hoff⟩ : ∃ off, offs[(x.toInt - lo).toNat]? = some off := by
          have h1 := (List.getElem?_eq_some_iff.mp ht).1
          rw [hlen] at h1
          exact ⟨offs[(x.toInt - lo).toNat], Array.getElem?_eq_getElem h1⟩
        exact so_go h (fun hw => wd1 hw) fun H locs loc lsv cells slots ha hl hv k => lv_tableIn E.1 E.2.1 hdg (fun z => hc (Or.inl z)) (fun z => hc (Or.inr z)) hoff (ho _ _ _ hoff ht) k
      · exact h.elim
  · exact h.elim
end SO
