/-! Arrays.copyOf -/
theorem tw_t1_23 : (Jvm.Cond.initialized "java/lang/System") ∈ TB := tb_t1 _ (List.mem_of_getElem? (i := 23) (by decide +kernel)) rfl
theorem tw_t5_101 : (Jvm.Cond.methodLink "java/util/Arrays" (86 : Nat) ({ cls := "java/lang/Object", name := "getClass", desc := "()Ljava/lang/Class;" } : Jvm.MethodName)) ∈ TB := tb_t5 _ (List.mem_of_getElem? (i := 101) (by decide +kernel)) rfl
theorem tw_t5_102 : (Jvm.Cond.instanceMethod ({ cls := "java/lang/Object", name := "getClass", desc := "()Ljava/lang/Class;" } : Jvm.MethodName)) ∈ TB := tb_t5 _ (List.mem_of_getElem? (i := 102) (by decide +kernel)) rfl
theorem tw_t5_119 : (Jvm.Cond.native ({ cls := "java/lang/Object", name := "getClass", desc := "()Ljava/lang/Class;" } : Jvm.MethodName)) ∈ TB := tb_t5 _ (List.mem_of_getElem? (i := 119) (by decide +kernel)) rfl
theorem tw_t5_120 : (Jvm.Cond.methodLink "java/util/Arrays" (300 : Nat) ({ cls := "java/util/Arrays", name := "copyOf", desc := "([Ljava/lang/Object;ILjava/lang/Class;)[Ljava/lang/Object;" } : Jvm.MethodName)) ∈ TB := tb_t5 _ (List.mem_of_getElem? (i := 120) (by decide +kernel)) rfl
theorem tw_t5_121 : (Jvm.Cond.static ({ cls := "java/util/Arrays", name := "copyOf", desc := "([Ljava/lang/Object;ILjava/lang/Class;)[Ljava/lang/Object;" } : Jvm.MethodName)) ∈ TB := tb_t5 _ (List.mem_of_getElem? (i := 121) (by decide +kernel)) rfl
theorem tw_t5_122 : (Jvm.Cond.code ({ cls := "java/util/Arrays", name := "copyOf", desc := "([Ljava/lang/Object;ILjava/lang/Class;)[Ljava/lang/Object;" } : Jvm.MethodName) prog_29_method_120_code (4 : Nat) (Option.some (Jvm.ClassFile.FieldType.array (Jvm.ClassFile.FieldType.object "java/lang/Object")))) ∈ TB := tb_t5 _ (List.mem_of_getElem? (i := 122) (by decide +kernel)) rfl
theorem tw_t5_123 : (Jvm.Cond.classLink "java/util/Arrays" (110 : Nat) "[Ljava/lang/Object;") ∈ TB := tb_t5 _ (List.mem_of_getElem? (i := 123) (by decide +kernel)) rfl
theorem tw_t5_125 : (Jvm.Cond.classLink "java/util/Arrays" (2 : Nat) "java/lang/Object") ∈ TB := tb_t5 _ (List.mem_of_getElem? (i := 125) (by decide +kernel)) rfl
theorem tw_t5_126 : (Jvm.Cond.methodLink "java/util/Arrays" (304 : Nat) ({ cls := "java/lang/Math", name := "min", desc := "(II)I" } : Jvm.MethodName)) ∈ TB := tb_t5 _ (List.mem_of_getElem? (i := 126) (by decide +kernel)) rfl
theorem tw_t5_127 : (Jvm.Cond.methodLink "java/util/Arrays" (150 : Nat) ({ cls := "java/lang/System", name := "arraycopy", desc := "(Ljava/lang/Object;ILjava/lang/Object;II)V" } : Jvm.MethodName)) ∈ TB := tb_t5 _ (List.mem_of_getElem? (i := 127) (by decide +kernel)) rfl
theorem tw_t5_128 : (Jvm.Cond.static ({ cls := "java/lang/System", name := "arraycopy", desc := "(Ljava/lang/Object;ILjava/lang/Object;II)V" } : Jvm.MethodName)) ∈ TB := tb_t5 _ (List.mem_of_getElem? (i := 128) (by decide +kernel)) rfl
theorem tw_t5_129 : (Jvm.Cond.native ({ cls := "java/lang/System", name := "arraycopy", desc := "(Ljava/lang/Object;ILjava/lang/Object;II)V" } : Jvm.MethodName)) ∈ TB := tb_t5 _ (List.mem_of_getElem? (i := 129) (by decide +kernel)) rfl
theorem tw_t7_19 : (Jvm.Cond.selects "[Ljava/lang/Object;" ({ cls := "java/lang/Object", name := "getClass", desc := "()Ljava/lang/Class;" } : Jvm.MethodName) ({ cls := "java/lang/Object", name := "getClass", desc := "()Ljava/lang/Class;" } : Jvm.MethodName)) ∈ TB := tb_t7 _ (List.mem_of_getElem? (i := 19) (by decide +kernel)) rfl
theorem dJ7_copyOf_1904c_0 : decode cJ7_copyOf_1904c 0 = .ok (.aload_n 0, 1) := by decide +kernel
theorem dJ7_copyOf_1904c_1 : decode cJ7_copyOf_1904c 1 = .ok (.iload_n 1, 1) := by decide +kernel
theorem dJ7_copyOf_1904c_2 : decode cJ7_copyOf_1904c 2 = .ok (.aload_n 0, 1) := by decide +kernel
theorem dJ7_copyOf_1904c_3 : decode cJ7_copyOf_1904c 3 = .ok (.invokevirtual 86, 3) := by decide +kernel
theorem dJ7_copyOf_1904c_6 : decode cJ7_copyOf_1904c 6 = .ok (.invokestatic 300, 3) := by decide +kernel
theorem dJ7_copyOf_1904c_9 : decode cJ7_copyOf_1904c 9 = .ok (.areturn, 1) := by decide +kernel
theorem dJ7_copyOf_6403c_0 : decode cJ7_copyOf_6403c 0 = .ok (.aload_n 2, 1) := by decide +kernel
theorem dJ7_copyOf_6403c_1 : decode cJ7_copyOf_6403c 1 = .ok (.ldc 110, 2) := by decide +kernel
theorem dJ7_copyOf_6403c_3 : decode cJ7_copyOf_6403c 3 = .ok (.if_acmp .ne 10, 3) := by decide +kernel
theorem dJ7_copyOf_6403c_6 : decode cJ7_copyOf_6403c 6 = .ok (.iload_n 1, 1) := by decide +kernel
theorem dJ7_copyOf_6403c_7 : decode cJ7_copyOf_6403c 7 = .ok (.anewarray 2, 3) := by decide +kernel
theorem dJ7_copyOf_6403c_10 : decode cJ7_copyOf_6403c 10 = .ok (.goto 14, 3) := by decide +kernel
theorem dJ7_copyOf_6403c_24 : decode cJ7_copyOf_6403c 24 = .ok (.astore_n 3, 1) := by decide +kernel
theorem dJ7_copyOf_6403c_25 : decode cJ7_copyOf_6403c 25 = .ok (.aload_n 0, 1) := by decide +kernel
theorem dJ7_copyOf_6403c_26 : decode cJ7_copyOf_6403c 26 = .ok (.iconst 0, 1) := by decide +kernel
theorem dJ7_copyOf_6403c_27 : decode cJ7_copyOf_6403c 27 = .ok (.aload_n 3, 1) := by decide +kernel
theorem dJ7_copyOf_6403c_28 : decode cJ7_copyOf_6403c 28 = .ok (.iconst 0, 1) := by decide +kernel
theorem dJ7_copyOf_6403c_29 : decode cJ7_copyOf_6403c 29 = .ok (.aload_n 0, 1) := by decide +kernel
theorem dJ7_copyOf_6403c_30 : decode cJ7_copyOf_6403c 30 = .ok (.arraylength, 1) := by decide +kernel
theorem dJ7_copyOf_6403c_31 : decode cJ7_copyOf_6403c 31 = .ok (.iload_n 1, 1) := by decide +kernel
theorem dJ7_copyOf_6403c_32 : decode cJ7_copyOf_6403c 32 = .ok (.invokestatic 304, 3) := by decide +kernel
theorem dJ7_copyOf_6403c_35 : decode cJ7_copyOf_6403c 35 = .ok (.invokestatic 150, 3) := by decide +kernel
theorem dJ7_copyOf_6403c_38 : decode cJ7_copyOf_6403c 38 = .ok (.aload_n 3, 1) := by decide +kernel
theorem dJ7_copyOf_6403c_39 : decode cJ7_copyOf_6403c 39 = .ok (.areturn, 1) := by decide +kernel
/-- the list's array e: below, of elements that a list may hold -/
def KDs (m : ab_M) (e : Nat × Nat) : Prop := 2 ≤ e.1 ∧ e.2 < mc m e.1 ∧ ∀ (k : Nat) (y : Nat × Nat), k < mn m e.1 e.2 → mr m e.1 e.2 k = some y → (SK y.1 = 9 ∨ SK y.1 = 10 ∨ SK y.1 = 100) ∧ 2 ≤ y.1
/-- the first k entries of x into y -/
def cpM (m : ab_M) (x y : Nat × Nat) (k : Nat) : ab_M := (m.1, (fun a b c => if a = y.1 ∧ b = y.2 then (if c < k then mr m x.1 x.2 c else mr m y.1 y.2 c) else mr m a b c), m.2.2)
def s_xload (i n : Nat) : ab_F := fun K _ ls st m => match ls[i]? with
  | some (some (.inr (.inr (.inr (.inr x))))) => K n ls (vX x :: st) m
  | _ => False
def s_xeq (t n : Nat) : ab_F := fun K _ ls st m => match st with
  | .inr (.inr (.inr (.inr y))) :: .inr (.inr (.inr (.inr x))) :: r => if x = y then K t ls r m else K n ls r m
  | _ => False
def s_ldcM (a n : Nat) : ab_F := fun K _ ls st m => K n ls (vX a :: st) m
def s_getC (a n : Nat) : ab_F := fun K _ ls st m => match st with
  | .inr (.inr (.inr (.inl (some x)))) :: r => if SK x.1 = 104 ∧ (r.map (fun v => if wide v then 2 else 1)).sum ≤ 8 then K n ls (vX a :: r) m else False
  | _ => False
def s_copy (n : Nat) : ab_F := fun K _ ls st m => match st with
  | .inl k :: .inl d :: .inr (.inr (.inr (.inl (some y)))) :: .inl b :: .inr (.inr (.inr (.inl (some x)))) :: r => ((SK x.1 = 104 ∧ SK y.1 = 104) ∧ 2 ≤ y.1 ∧ (b = 0 ∧ d = 0 ∧ ¬ k < 0) ∧ (k.toNatClampNeg ≤ mn m x.1 x.2 ∧ k.toNatClampNeg ≤ mn m y.1 y.2) ∧ KDs m x ∧ (r.map (fun v => if wide v then 2 else 1)).sum ≤ 8) ∧ K n ls r (cpM m x y k.toNatClampNeg)
  | _ => False
theorem mono_xload {i n : Nat} : Mono (s_xload i n) := by
  intro K K' R hK ls st m h
  unfold s_xload at h ⊢
  split at h
  · exact hK _ _ _ _ h
  · exact h.elim
theorem mono_xeq {t n : Nat} : Mono (s_xeq t n) := by
  intro K K' R hK ls st m h
  unfold s_xeq at h ⊢
  split at h
  · exact ite_mono h (hK _ _ _ _) (hK _ _ _ _)
  · exact h.elim
theorem mono_ldcM {a n : Nat} : Mono (s_ldcM a n) := by
  intro K K' R hK ls st m h
  unfold s_ldcM at h ⊢
  exact hK _ _ _ _ h
theorem mono_getC {a n : Nat} : Mono (s_getC a n) := by
  intro K K' R hK ls st m h
  unfold s_getC at h ⊢
  split at h
  · exact ite_mono h (hK _ _ _ _) id
  · exact h.elim
theorem mono_copy {n : Nat} : Mono (s_copy n) := by
  intro K K' R hK ls st m h
  unfold s_copy at h ⊢
  split at h
  · exact ⟨h.1, hK _ _ _ _ h.2⟩
  · exact h.elim
section SO
variable {p : Program} {l : Launch} {e : Env} {R : Room} {s : State} {m : MethodId} {args : Array Value} {below : List Frame} {meth : Method} {c : Code} {Q : State → Prop} {D : va_G} {cA : Nat → ClassId} {nL : Nat} {loc0 : Nat → Nat → Nat} {m0 mf : ab_M} {cc : ByteArray} {own : String} {d : Nat}
variable {pc : Nat} {ls : ab_L} {st : List ab_V} {mm : ab_M} {Rr : ab_R → Prop}
theorem so_xload_n (E : ab_env p l R s m args meth c D cA nL loc0 m0 mf cc own d) {i : Nat} {kf : Fin 4} (hi : (kf : Nat) = i) (hdg : decode cc pc = .ok (.aload_n kf, 1)) (h : s_xload i (pc + 1) (ab_k p l e R s m args below meth c Q D cA nL loc0 m0 mf) Rr ls st mm) : ab_k p l e R s m args below meth c Q D cA nL loc0 m0 mf pc ls st mm := by
  unfold s_xload at h
  split at h
  · next x hr =>
    refine ⟨h.1, fun H locs loc lsv ha hc hl hv => ?_⟩
    have hL := hl.2.2.2 _ _ hr
    have k := h.2 H locs loc lsv ha hc hl (List.forall_mem_cons.mpr ⟨trivial, hv⟩)
    exact lv_aload_n E.1 E.2.1 hdg hi hL.1 k
  · exact h.elim
theorem so_xne (E : ab_env p l R s m args meth c D cA nL loc0 m0 mf cc own d) {off : Int} {tgt : Nat} (ht : (pc : Int) + off = (tgt : Int)) (hdg : decode cc pc = .ok (.if_acmp .ne off, 3)) (h : s_xeq (pc + 3) tgt (ab_k p l e R s m args below meth c Q D cA nL loc0 m0 mf) Rr ls st mm) : ab_k p l e R s m args below meth c Q D cA nL loc0 m0 mf pc ls st mm := by
  unfold s_xeq at h
  split at h
  · next y x r =>
    split at h
    · next hc => exact so_go h (fun hw => wd2 hw) fun H locs loc lsv cells slots ha hl hv k => lv_acmp_ne (rx := some x) (ry := some y) E.1 E.2.1 hdg ht (fun z => absurd (congrArg _ hc) z) (fun _ => k)
    · next hc => exact so_go h (fun hw => wd2 hw) fun H locs loc lsv cells slots ha hl hv k => lv_acmp_ne (rx := some x) (ry := some y) E.1 E.2.1 hdg ht (fun _ => k) (fun z => absurd (Option.some.inj z) hc)
  · exact h.elim
theorem so_ldcM (E : ab_env p l R s m args meth c D cA nL loc0 m0 mf cc own d) {idx a : Nat} (ha : a = cA 200) (hq : Cond.classLink own idx "[Ljava/lang/Object;" ∈ TB) (hdg : decode cc pc = .ok (.ldc idx, 2)) (h : s_ldcM a (pc + 2) (ab_k p l e R s m args below meth c Q D cA nL loc0 m0 mf) Rr ls st mm) : ab_k p l e R s m args below meth c Q D cA nL loc0 m0 mf pc ls st mm := by
  subst ha
  exact so_go h (fun hw => List.forall_mem_cons.mpr ⟨trivial, hw⟩) fun H locs loc lsv cells slots _ _ _ k => va_ldcM E.1 E.2.1 E.2.2.2.1 (E.2.2.2.2.1 _ hq) E.2.2.2.2.2.1.2.2.1.2.1 hdg k
theorem so_getC (E : ab_env p l R s m args meth c D cA nL loc0 m0 mf cc own d) {idx a : Nat} (ha9 : a = cA 200) (q1 : Cond.methodLink own idx ⟨"java/lang/Object", "getClass", "()Ljava/lang/Class;"⟩ ∈ TB) (q3 : Cond.selects "[Ljava/lang/Object;" ⟨"java/lang/Object", "getClass", "()Ljava/lang/Class;"⟩ ⟨"java/lang/Object", "getClass", "()Ljava/lang/Class;"⟩ ∈ TB) (q4 : Cond.instanceMethod ⟨"java/lang/Object", "getClass", "()Ljava/lang/Class;"⟩ ∈ TB) (q5 : Cond.native ⟨"java/lang/Object", "getClass", "()Ljava/lang/Class;"⟩ ∈ TB) (hdg : decode cc pc = .ok (.invokevirtual idx, 3)) (h : s_getC a (pc + 3) (ab_k p l e R s m args below meth c Q D cA nL loc0 m0 mf) Rr ls st mm) : ab_k p l e R s m args below meth c Q D cA nL loc0 m0 mf pc ls st mm := by
  subst ha9
  unfold s_getC at h
  split at h
  · next x r =>
    split at h
    · next hc =>
      refine ⟨h.1, fun H locs loc lsv ha hcc hl hv => ?_⟩
      have hts := E.2.2.2.2.1
      have hVF := E.2.2.2.2.2.1
      have hd2 := E.2.2.2.2.2.2.2.2.2.2.1
      have hd1 := E.2.2.2.2.2.2.2.2.2.1
      have hd3 := E.2.2.2.2.2.2.2.2.2.2.2.2.2
      have hx : x.2 < mc mm x.1 := hv _ List.mem_cons_self
      obtain ⟨cell, hcell, hcs, hcc9⟩ : ∃ cell : Cell, H[loc x.1 x.2]? = some cell ∧ cell.vm.isStatics = false ∧ cell.cls = cA 104 := by
        rcases Nat.lt_or_ge x.1 2 with w | w
        · obtain ⟨xs, xi⟩ := x
          simp only at w hc hx
          have e1 : xs = 1 := by
            rcases (show xs = 0 ∨ xs = 1 by omega) with rfl | rfl
            · have := hc.1; rw [SK_0] at this; omega
            · rfl
          subst e1
          obtain ⟨-, cell, d1, d2, ⟨d3, d6⟩, d4⟩ := ha.2.1.2.2.1 xi hx
          exact ⟨cell, d1, d6, d2⟩
        · obtain ⟨q0, -, hq0⟩ := aw_get (cA := cA) (loc := loc) ha.2.2.1 w hx
          rw [ab_ent_q hc.1 (by omega)] at hq0
          exact ⟨_, ha.1 q0 _ hq0, rfl, rfl⟩
      refine va_getC E.1 E.2.1 (by rw [E.2.2.1]; exact hl.1.symm) E.2.2.2.1 (hts _ q1) (va_Nw.use rfl (hVF.2.2.2.2.2.2.2.2.2.2 _ (by decide +kernel))) (hts _ q3) (hts _ q4) (hts _ q5) hVF.2.2.1.2.1 ⟨cell, hcell, hcs, ?_⟩ (by omega) ?_ hdg (h.2 H locs loc lsv ha hcc hl (List.forall_mem_cons.mpr ⟨trivial, wd1 hv⟩))
      · have := va_nmO (nm := "[Ljava/lang/Object;") (hVF.1.2 4 _ rfl).2 (by decide +kernel)
        rw [hcc9]
        exact this
      · have e8 : ((r.map (cv loc)).map fun v => v.category).sum ≤ 8 := by
          rw [List.map_map]
          simpa [Function.comp_def, cv_cat] using hc.2
        omega
    · exact h.elim
  · exact h.elim
theorem cp_ne {x y : Nat × Nat} {k t i : Nat} (h : ¬ (t = y.1 ∧ i = y.2)) {loc : Nat → Nat → Nat} : ab_ent cA loc (cpM mm x y k) t i = ab_ent cA loc mm t i :=
  ab_ent_cong (fun _ => rfl) (fun q => by
    have e : mr (cpM mm x y k) t i q = mr mm t i q := if_neg h
    rw [e]) (fun _ => rfl) (fun _ => rfl) rfl
theorem so_copy (E : ab_env p l R s m args meth c D cA nL loc0 m0 mf cc own d) {idx : Nat} (q1 : Cond.methodLink own idx arraycopyName ∈ TB) (q2 : Cond.native arraycopyName ∈ TB) (q3 : Cond.static arraycopyName ∈ TB) (q4 : Cond.initialized "java/lang/System" ∈ TB) (hdg : decode cc pc = .ok (.invokestatic idx, 3)) (h : s_copy (pc + 3) (ab_k p l e R s m args below meth c Q D cA nL loc0 m0 mf) Rr ls st mm) : ab_k p l e R s m args below meth c Q D cA nL loc0 m0 mf pc ls st mm := by
  unfold s_copy at h
  split at h
  · next k d9 y b x r =>
    obtain ⟨⟨⟨c1, c2⟩, c3, ⟨rfl, rfl, c4⟩, ⟨c5, c6⟩, ⟨c7, c8, c9⟩, c10⟩, h⟩ := h
    refine ⟨h.1, fun H locs loc lsv ha hcc hl hv => ?_⟩
    have hts := E.2.2.2.2.1
    have hVF := E.2.2.2.2.2.1
    have hd2 := E.2.2.2.2.2.2.2.2.2.2.1
    have hd1 := E.2.2.2.2.2.2.2.2.2.1
    have hd3 := E.2.2.2.2.2.2.2.2.2.2.2.2.2
    have hy9 : y.2 < mc mm y.1 := wd2 hv _ List.mem_cons_self
    have hx9 : x.2 < mc mm x.1 := wd2 (wd2 hv) _ List.mem_cons_self
    have hvr := wd1 (wd2 (wd2 hv))
    obtain ⟨qx, -, hqx⟩ := aw_get (cA := cA) (loc := loc) ha.2.2.1 c7 hx9
    obtain ⟨qy, hqy0, hqy⟩ := aw_get (cA := cA) (loc := loc) ha.2.2.1 c3 hy9
    rw [ab_ent_q c1 (by omega)] at hqx
    rw [ab_ent_q c2 (by omega)] at hqy
    have hcx := ha.1 qx _ hqx
    have hcy := ha.1 qy _ hqy
    have t104 := hVF.1.2 4 _ rfl
    have hw := ha.2.2.1
    have hw2 : wfM (cpM mm x y k.toNatClampNeg) := by
      refine ⟨hw.1, fun u j q z hj hz => ?_⟩
      have hz2 : (if u = y.1 ∧ j = y.2 then (if q < k.toNatClampNeg then mr mm x.1 x.2 q else mr mm y.1 y.2 q) else mr mm u j q) = some z := hz
      show z.2 < mc mm z.1
      split at hz2
      · split at hz2
        · exact hw.2 _ _ _ _ hx9 hz2
        · exact hw.2 _ _ _ _ hy9 hz2
      · exact hw.2 _ _ _ _ hj hz2
    refine copy0 (E0 := "java/lang/Object") (E1 := "java/lang/Object") E.1 E.2.1 (by rw [E.2.2.1]; exact hl.1.symm) E.2.2.2.1 (hts _ q1) (hts _ q2) (hts _ q3) (hts _ q4) hcx hcy t104.1 t104.1 t104.2 c4 c5 c6 (fun i hi z hz => ?_) (by omega) ?_ hdg (fun H1 locs1 z1 e1 o1 hl1 => ?_)
    · cases hr : mr mm x.1 x.2 i with
      | none => simp only [hr] at hz; cases hz
      | some v =>
        simp only [hr, Option.map_some] at hz
        cases hz
        exact any_v hVF ha (hw.2 _ _ _ _ hx9 hr) (c9 i v (Nat.lt_of_lt_of_le hi c5) hr)
    · have e8 : ((r.map (cv loc)).map fun v => v.category).sum ≤ 8 := by
        rw [List.map_map]
        simpa [Function.comp_def, cv_cat] using c10
      have hw9 : nativeFrameWords "java/lang/System" "arraycopy" 5 ≤ 20 := by decide
      omega
    · have g := ha.set (m' := cpM mm x y k.toNatClampNeg) (k := 0) hqy0 c3 rfl rfl hw2 (fun u j _ hn => cp_ne hn) (by
        rw [ab_ent_q c2 (by omega)]
        show H1[loc y.1 y.2]? = some (vp_cell _ _)
        rw [e1]
        refine congrArg (fun z => some (vp_cell (cA 104) (mn mm y.1 y.2, .inr (.inr (.inr (.inr z)))))) (funext fun q => ?_)
        show _ = Option.map (fun x => loc x.1 x.2) (mr (cpM mm x y k.toNatClampNeg) y.1 y.2 q)
        have e9 : mr (cpM mm x y k.toNatClampNeg) y.1 y.2 q = if q < k.toNatClampNeg then mr mm x.1 x.2 q else mr mm y.1 y.2 q := if_pos ⟨rfl, rfl⟩
        rw [e9]
        unfold va_cpy
        by_cases hq : q < k.toNatClampNeg
        · rw [if_pos ⟨Nat.zero_le _, by omega⟩, if_pos hq]
          simp
        · rw [if_neg (fun w => hq (by omega)), if_neg hq]) z1 o1
      obtain ⟨g1, g2, g3, ⟨g4, g5, -⟩, g6, g7⟩ := g
      refine h.2 H1 locs1 loc lsv ⟨g1, g2, g3, ⟨g4, g5, fun z hz => ?_⟩, g6, g7⟩ hcc (hl.mem (fun _ _ hi => ⟨hi, rfl⟩)) hvr
      rcases hl1 z hz with w | w
      · exact ha.2.2.2.1.2.2 z w
      · rw [w]; exact ha.fa hy9 c3
  · exact h.elim
end SO
def T_J7_copyOf_6403c (a : Nat) : ab_T := [(0, some (s_xload 2 1)), (1, some (s_ldcM a 3)), (3, some (s_xeq 6 13)), (6, some (s_iload 1 7)), (7, some (s_newa 65 10)), (10, some (s_goto 24)), (24, some (s_astore 3 25)), (25, some (s_aload 0 26)), (26, some (s_const (vI 0) 27)), (27, some (s_aload 3 28)), (28, some (s_const (vI 0) 29)), (29, some (s_aload 0 30)), (30, some (s_alen 31)), (31, some (s_iload 1 32)), (32, some (s_mmin 35)), (35, some (s_copy 38)), (38, some (s_aload 3 39)), (39, some s_retA)]
theorem mt_J7_copyOf_6403c {a : Nat} : MonoT (T_J7_copyOf_6403c a) := MA_mem (And.intro mono_xload (And.intro mono_ldcM (And.intro mono_xeq (And.intro mono_iload (And.intro mono_newa (And.intro mono_goto (And.intro mono_astore (And.intro mono_aload (And.intro mono_const (And.intro mono_aload (And.intro mono_const (And.intro mono_aload (And.intro mono_alen (And.intro mono_iload (And.intro mono_mmin (And.intro mono_copy (And.intro mono_aload (And.intro mono_retA trivial))))))))))))))))))
set_option maxRecDepth 20000 in
set_option maxHeartbeats 4000000 in
theorem snd_J7_copyOf_6403c {l : Launch} {D : va_G} {cA : Nat → ClassId} {d : Nat} : Sound l D cA d 4 yJ7_copyOf_6403c cJ7_copyOf_6403c (some (.array (.object "java/lang/Object"))) [] (T_J7_copyOf_6403c (cA 200)) := by
  intro p e R s m args below meth c loc0 m0 r Q E hQ h0 hrt hnm htab
  exact SA_mem (And.intro (fun ls st mm h => so_xload_n E rfl dJ7_copyOf_6403c_0 h) (And.intro (fun ls st mm h => so_ldcM E rfl tw_t5_123 dJ7_copyOf_6403c_1 h) (And.intro (fun ls st mm h => so_xne E (tgt := 13) (by decide) dJ7_copyOf_6403c_3 h) (And.intro (fun ls st mm h => so_iload_n E rfl dJ7_copyOf_6403c_6 h) (And.intro (fun ls st mm h => so_anewa E (t := 65) rfl tw_t5_125 dJ7_copyOf_6403c_7 h) (And.intro (fun ls st mm h => so_goto E (tgt := 24) (by decide) dJ7_copyOf_6403c_10 h) (And.intro (fun ls st mm h => so_astore_n E rfl dJ7_copyOf_6403c_24 h) (And.intro (fun ls st mm h => so_aload_n E rfl dJ7_copyOf_6403c_25 h) (And.intro (fun ls st mm h => so_iconst E (by decide) dJ7_copyOf_6403c_26 h) (And.intro (fun ls st mm h => so_aload_n E rfl dJ7_copyOf_6403c_27 h) (And.intro (fun ls st mm h => so_iconst E (by decide) dJ7_copyOf_6403c_28 h) (And.intro (fun ls st mm h => so_aload_n E rfl dJ7_copyOf_6403c_29 h) (And.intro (fun ls st mm h => so_alen E dJ7_copyOf_6403c_30 sk6 h) (And.intro (fun ls st mm h => so_iload_n E rfl dJ7_copyOf_6403c_31 h) (And.intro (fun ls st mm h => so_mmin E tw_t5_126 tw_t4_36 tw_t1_21 tw_t4_37 dJ7_copyOf_6403c_32 h) (And.intro (fun ls st mm h => so_copy E tw_t5_127 tw_t5_129 tw_t5_128 tw_t1_23 dJ7_copyOf_6403c_35 h) (And.intro (fun ls st mm h => so_aload_n E rfl dJ7_copyOf_6403c_38 h) (And.intro (fun ls st mm h => so_areturn E hQ rfl (fun _ h => h) h0 (ty := (.array (.object "java/lang/Object"))) hrt (Or.inr ⟨_, rfl⟩) dJ7_copyOf_6403c_39 h) trivial))))))))))))))))))
def T_J7_copyOf_1904c (a : Nat) (sp_J7_copyOf_6403c : List ab_V → ab_M → ab_O) : ab_T := [(0, some (s_aload 0 1)), (1, some (s_iload 1 2)), (2, some (s_aload 0 3)), (3, some (s_getC a 6)), (6, some (s_call 999 sp_J7_copyOf_6403c 3 [] 9)), (9, some s_retA)]
theorem mt_J7_copyOf_1904c {a : Nat} {sp_J7_copyOf_6403c : List ab_V → ab_M → ab_O} : MonoT (T_J7_copyOf_1904c a sp_J7_copyOf_6403c) := MA_mem (And.intro mono_aload (And.intro mono_iload (And.intro mono_aload (And.intro mono_getC (And.intro mono_call (And.intro mono_retA trivial))))))
set_option maxRecDepth 20000 in
set_option maxHeartbeats 4000000 in
theorem snd_J7_copyOf_1904c {l : Launch} {D : va_G} {cA : Nat → ClassId} {d : Nat} {sp_J7_copyOf_6403c : List ab_V → ab_M → ab_O} {d' : Nat} (hd9 : d' + 1 ≤ d) (hC : ∀ as m, Ctr l D cA d' yJ7_copyOf_6403c (Cond.code yJ7_copyOf_6403c cJ7_copyOf_6403c 4 (some (.array (.object "java/lang/Object"))) :: TB) as m (sp_J7_copyOf_6403c as m)) : Sound l D cA d 2 yJ7_copyOf_1904c cJ7_copyOf_1904c (some (.array (.object "java/lang/Object"))) [] (T_J7_copyOf_1904c (cA 200) sp_J7_copyOf_6403c) := by
  intro p e R s m args below meth c loc0 m0 r Q E hQ h0 hrt hnm htab
  exact SA_mem (And.intro (fun ls st mm h => so_aload_n E rfl dJ7_copyOf_1904c_0 h) (And.intro (fun ls st mm h => so_iload_n E rfl dJ7_copyOf_1904c_1 h) (And.intro (fun ls st mm h => so_aload_n E rfl dJ7_copyOf_1904c_2 h) (And.intro (fun ls st mm h => so_getC E rfl tw_t5_101 tw_t7_19 tw_t5_102 tw_t5_119 dJ7_copyOf_1904c_3 h) (And.intro (fun ls st mm h => so_callS E hQ rfl (fun _ h => h) h0 (idx := 300) hd9 (by decide) hC (hd_nil htab) tw_t5_120 tw_t5_121 tw_t1_22 tw_t5_122 (by decide +kernel) dJ7_copyOf_1904c_6 h) (And.intro (fun ls st mm h => so_areturn E hQ rfl (fun _ h => h) h0 (ty := (.array (.object "java/lang/Object"))) hrt (Or.inr ⟨_, rfl⟩) dJ7_copyOf_1904c_9 h) trivial))))))
