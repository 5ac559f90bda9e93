/-! a contract out of a run of the abstract machine -/
def eL : List ab_V → ab_L
  | [] => []
  | v :: r => if wide v = true then some v :: none :: eL r else some v :: eL r
def entry (nL : Nat) (as : List ab_V) : ab_L := eL as ++ List.replicate (nL - (eL as).length) none
theorem eL_len (loc : Nat → Nat → Nat) : ∀ as : List ab_V, (eL as).length = (lg_sl (as.map (cv loc))).length
  | [] => rfl
  | v :: r => by
    have ih := eL_len loc r
    unfold eL lg_sl
    rw [List.map_cons, List.flatMap_cons]
    unfold lg_sl at ih
    rw [cv_cat]
    by_cases h : wide v = true
    · simp [h, ih]
    · simp [h, ih]
theorem eL_get (loc : Nat → Nat → Nat) : ∀ (as : List ab_V) (i : Nat) (v : ab_V), (eL as)[i]? = some (some v) → v ∈ as ∧ (lg_sl (as.map (cv loc)))[i]? = some (.val (cv loc v))
  | [], i, v, h => by simp [eL] at h
  | a :: r, i, v, h => by
    have ih := eL_get loc r
    unfold eL at h
    unfold lg_sl at ih ⊢
    rw [List.map_cons, List.flatMap_cons, cv_cat]
    by_cases hw : wide a = true
    · rw [if_pos hw] at h
      simp only [hw, if_true]
      match i, h with
      | 0, h => cases h; exact ⟨List.mem_cons_self, rfl⟩
      | 1, h => cases h
      | i + 2, h => exact ⟨List.mem_cons_of_mem _ (ih i v h).1, (ih i v h).2⟩
    · rw [if_neg hw] at h
      have hw2 : wide a = false := by cases hq : wide a with
        | true => exact absurd hq hw
        | false => rfl
      simp only [hw2]
      match i, h with
      | 0, h => cases h; exact ⟨List.mem_cons_self, rfl⟩
      | i + 1, h => exact ⟨List.mem_cons_of_mem _ (ih i v h).1, (ih i v h).2⟩
theorem entry_lv {loc : Nat → Nat → Nat} {m : ab_M} {as : List ab_V} {nL : Nat} (hlen : (eL as).length ≤ nL) (hv : ∀ v ∈ as, wfV m v) : ab_lv nL loc m (lg_sl (as.map (cv loc)) ++ List.replicate (nL - (lg_sl (as.map (cv loc))).length) Slot.unset).toArray (entry nL as) := by
  have hl := lv_entry (as.map (cv loc)) (n := nL) (by rw [← eL_len]; exact hlen)
  refine ⟨hl.1, hl.2.1, by unfold entry; rw [List.length_append, List.length_replicate]; omega, fun i v h => ?_⟩
  unfold entry at h
  by_cases hi : i < (eL as).length
  · rw [List.getElem?_append_left hi] at h
    obtain ⟨h1, h2⟩ := eL_get loc as i v h
    refine ⟨?_, hv v h1⟩
    rw [List.getElem?_toArray, List.getElem?_append_left (by rw [← eL_len]; exact hi)]
    exact h2
  · rw [List.getElem?_append_right (by omega)] at h
    rw [List.getElem?_replicate] at h
    split at h <;> cases h
/-- what a method's rows must be, at every frame: K follows them -/
def Sound (l : Launch) (D : va_G) (cA : Nat → ClassId) (d nL : Nat) (y : MethodName) (cc : ByteArray) (ret : Option FieldType) (tab : List ExceptionTableEntry) (T : ab_T) : Prop :=
  ∀ (p : Program) (e : Env) (R : Room) (s : State) (m : MethodId) (args : Array Value) (below : List Frame) (meth : Method) (c : Code) (loc0 : Nat → Nat → Nat) (m0 : ab_M) (r : ab_R) (Q : State → Prop),
    ab_env p l R s m args meth c D cA nL loc0 m0 (resM r) cc y.cls d → Q = ab_fin below args s D cA loc0 m0 r → 0 < mc m0 0 → meth.sig.returnType = ret → meth.name = y.name → c.exceptionTable.toList = tab →
      ∀ (pc : Nat) (f : ab_F), (pc, some f) ∈ T → ∀ (ls : ab_L) (st : List ab_V) (mm : ab_M), f (ab_k p l e R s m args below meth c Q D cA nL loc0 m0 (resM r)) (fun r' => r' = r) ls st mm → ab_k p l e R s m args below meth c Q D cA nL loc0 m0 (resM r) pc ls st mm
theorem ctr_body {l : Launch} {D : va_G} {cA : Nat → ClassId} {d nL : Nat} {y : MethodName} {cc : ByteArray} {ret : Option FieldType} {tab : List ExceptionTableEntry} {T : ab_T} {as : List ab_V} {m : ab_M} {r : ab_R} {ws : List Cond} {w0 : Cond} {loc0 : Nat → Nat → Nat}
    (hst : l.stackTraces = false) (hd : 1 ≤ d) (hS : Sound l D cA d nL y cc ret tab T) (hrun : Comes_to T (entry nL as) m r) (hlen : (eL as).length ≤ nL) (hws : ws = w0 :: TB)
    {p : Program} {e : Env} {s : State} {mth : MethodId} {args : Array Value} {below : List Frame} {meth : Method} {c : Code} {s₁ : State} (B : BodyLoose p l y (headSpec ws (ab_rm d m r)) cc nL ret e s mth args below meth c s₁) (hml : c.maxLocals = nL) (htab : c.exceptionTable.toList = tab)
    {sz : Nat} (hv : va_Pc (as.map (cv loc0)) (fun U => U.heap.size = sz ∧ ab_pre D cA loc0 m as U) args s) :
    W p l e (headSpec ws (ab_rm d m r)).room s mth args below meth c s.heap [] 0 0 (vx_MQ below (ab_Q D cA loc0 m r) (ab_X D cA loc0 m r) args s (mnc (resM r) - mnc m) (mns (resM r) - mns m) (FA loc0 m sz)) (entryFrame mth args nL) := by
  obtain ⟨hargs, hsz, hP, hD, hw, hwv, hVF, hHF, h0⟩ := hv
  have hts0 := atoms_spec (ws := ws) B.pre
  have hts : ∀ w ∈ TB, w.before args s = true := fun w h => hts0 w (by rw [hws]; exact List.mem_cons_of_mem _ h)
  have E : ab_env p l (headSpec ws (ab_rm d m r)).room s mth args meth c D cA nL loc0 m (resM r) cc y.cls d := ⟨B.exec, B.bytes, hml, findClass_of_methodNamed B.named, hts, hVF, hHF, hst, B.notSynchronized, Nat.le_refl _, Nat.le_refl _, Nat.le_refl _, Nat.le_refl _, hd⟩
  have hC : Closed T (fun r' => r' = r) (ab_k p l e (headSpec ws (ab_rm d m r)).room s mth args below meth c (ab_fin below args s D cA loc0 m r) D cA nL loc0 m (resM r)) :=
    ⟨fun pc f hf ls st mm h => hS p e _ s mth args below meth c loc0 m r _ E rfl h0 B.returns (name_of_methodNamed B.named B.method).1 htab pc f hf ls st mm h, fun pc a b st mm hle k => so_weak hle k⟩
  have hK := hrun _ hC
  subst hargs
  subst hsz
  rw [lg_entry_eq]
  have k := hK.2 s.heap [] loc0 _ ⟨hP, hD, hw, va_S.rf, fun t i h => ⟨h, rfl⟩, fun t i h hn => absurd h hn⟩ ⟨Nat.le_refl _, Nat.le_refl _⟩ (entry_lv hlen hwv) (fun v h => nomatch h)
  exact W.cs (Nat.sub_self _).symm (Nat.sub_self _).symm k
theorem ctr_of {l : Launch} {D : va_G} {cA : Nat → ClassId} {d nL : Nat} {y : MethodName} {cc : ByteArray} {ret : Option FieldType} {T : ab_T} {as : List ab_V} {m : ab_M} {o : ab_O} (hpl : plainName y.cls = true)
    (hst : l.stackTraces = false) (hd : 1 ≤ d) (hS : Sound l D cA d nL y cc ret [] T) (hlen : ∀ r, o = some r → (eL as).length ≤ nL) (hmono : ∀ r, o = some r → mnc m ≤ mnc (resM r) ∧ mns m ≤ mns (resM r)) (hrun : ∀ r, o = some r → Comes_to T (entry nL as) m r) : Ctr l D cA d y (Cond.code y cc nL ret :: TB) as m o := by
  intro r hr
  refine ⟨hmono r hr, fun loc0 sz => ?_⟩
  refine vx_ofW (cc := cc) (maxL := nL) (ret := ret) hpl rfl ?_
  intro p e s mth args below meth c s₁ B hml ht hv
  exact ctr_body hst hd hS (hrun r hr) (hlen r hr) rfl B hml (List.eq_nil_iff_forall_not_mem.mpr (fun x hx => ht x hx)) hv
/-- a table's rows, one by one -/
def SA (K : ab_K) (R : ab_R → Prop) : ab_T → Prop
  | [] => True
  | (_, none) :: T => SA K R T
  | (pc, some f) :: T => (∀ ls st mm, f K R ls st mm → K pc ls st mm) ∧ SA K R T
theorem SA_mem {K : ab_K} {R : ab_R → Prop} : ∀ {T : ab_T}, SA K R T → ∀ (pc : Nat) (f : ab_F), (pc, some f) ∈ T → ∀ (ls : ab_L) (st : List ab_V) (mm : ab_M), f K R ls st mm → K pc ls st mm
  | [], _, pc, f, hf => nomatch hf
  | (_, none) :: T, h, pc, f, hf => by
    rcases List.mem_cons.mp hf with e | hf
    · cases e
    · exact SA_mem (T := T) h pc f hf
  | (_, some g) :: T, h, pc, f, hf => by
    rcases List.mem_cons.mp hf with e | hf
    · cases e; exact h.1
    · exact SA_mem (T := T) h.2 pc f hf
def MA : ab_T → Prop
  | [] => True
  | (_, none) :: T => MA T
  | (_, some f) :: T => Mono f ∧ MA T
theorem MA_mem : ∀ {T : ab_T}, MA T → MonoT T
  | [], _, pc, f, hf => nomatch hf
  | (_, none) :: T, h, pc, f, hf => by
    rcases List.mem_cons.mp hf with e | hf
    · cases e
    · exact MA_mem (T := T) h pc f hf
  | (_, some g) :: T, h, pc, f, hf => by
    rcases List.mem_cons.mp hf with e | hf
    · cases e; exact h.1
    · exact MA_mem (T := T) h.2 pc f hf

