/-! the instructions that read and write the heap -/
theorem ab_ent_obj {cA : Nat → ClassId} {loc : Nat → Nat → Nat} {m : ab_M} {s i c : Nat} (h : SK s = c) (hc : c < 100) : ab_ent cA loc m s i = .inr (c, ab_fs loc m c (NF c) s i) := by
  unfold ab_ent; rw [h, if_pos hc]
theorem ab_ent_i {cA : Nat → ClassId} {loc : Nat → Nat → Nat} {m : ab_M} {s i c : Nat} (h : SK s = c) (hc : 100 ≤ c) (hc2 : c < 102) : ab_ent cA loc m s i = .inl (cA c, mn m s i, .inl (fun k => mi m s i k)) := by
  unfold ab_ent; rw [h, if_neg (by omega), if_pos hc2]
theorem ab_ent_l {cA : Nat → ClassId} {loc : Nat → Nat → Nat} {m : ab_M} {s i : Nat} (h : SK s = 102) : ab_ent cA loc m s i = .inl (cA 102, mn m s i, .inr (.inl (fun k => ml m s i k))) := by
  unfold ab_ent; rw [h]; rfl
theorem ab_ent_d {cA : Nat → ClassId} {loc : Nat → Nat → Nat} {m : ab_M} {s i : Nat} (h : SK s = 103) : ab_ent cA loc m s i = .inl (cA 103, mn m s i, .inr (.inr (.inr (.inl (fun k => md m s i k))))) := by
  unfold ab_ent; rw [h]; rfl
theorem ab_ent_q {cA : Nat → ClassId} {loc : Nat → Nat → Nat} {m : ab_M} {s i c : Nat} (h : SK s = c) (hc : 104 ≤ c) : ab_ent cA loc m s i = .inl (cA c, mn m s i, .inr (.inr (.inr (.inr (fun k => (mr m s i k).map (fun x => loc x.1 x.2)))))) := by
  unfold ab_ent; rw [h, if_neg (by omega), if_neg (by omega), if_neg (by omega), if_neg (by omega)]
theorem ab_fs_int {loc : Nat → Nat → Nat} {m : ab_M} {c N s i k : Nat} (hk : k < N) (h : FT c k ≠ 2) : (ab_fs loc m c N s i)[k]? = some (.int (mi m s i k)) := by
  unfold ab_fs; rw [List.getElem?_map, List.getElem?_range hk]; simp [h]
theorem ab_fs_ref {loc : Nat → Nat → Nat} {m : ab_M} {c N s i k : Nat} (hk : k < N) (h : FT c k = 2) : (ab_fs loc m c N s i)[k]? = some (va_rf ((mr m s i k).map (fun x => loc x.1 x.2))) := by
  unfold ab_fs; rw [List.getElem?_map, List.getElem?_range hk]; simp [h]
theorem ab_fs_len {loc : Nat → Nat → Nat} {m : ab_M} {c N s i : Nat} : (ab_fs loc m c N s i).length = N := by simp [ab_fs]
theorem ab_fs_sI {loc : Nat → Nat → Nat} {m : ab_M} {c N s i k : Nat} (hk : k < N) (h : FT c k ≠ 2) (v : Int32) : ab_fs loc (sI m s i k v) c N s i = (ab_fs loc m c N s i).set k (.int v) := by
  apply List.ext_getElem?
  intro j
  by_cases hj : j < N
  · by_cases e : j = k
    · subst e
      rw [List.getElem?_set_self (by rw [ab_fs_len]; exact hj), ab_fs_int hj h, mi_sI]
      simp [u3]
    · rw [List.getElem?_set_ne (Ne.symm e)]
      by_cases h2 : FT c j = 2
      · rw [ab_fs_ref hj h2, ab_fs_ref hj h2, mr_sI]
      · rw [ab_fs_int hj h2, ab_fs_int hj h2, mi_sI]
        simp [u3, e]
  · rw [List.getElem?_eq_none (by rw [ab_fs_len]; omega), List.getElem?_eq_none (by rw [List.length_set, ab_fs_len]; omega)]
theorem ab_fs_sR {loc : Nat → Nat → Nat} {m : ab_M} {c N s i k : Nat} (hk : k < N) (h : FT c k = 2) (v : Option (Nat × Nat)) : ab_fs loc (sR m s i k v) c N s i = (ab_fs loc m c N s i).set k (va_rf (v.map (fun (y : Nat × Nat) => loc y.1 y.2))) := by
  apply List.ext_getElem?
  intro j
  by_cases hj : j < N
  · by_cases e : j = k
    · subst e
      rw [List.getElem?_set_self (by rw [ab_fs_len]; exact hj), ab_fs_ref hj h, mr_sR]
      simp [u3]
    · rw [List.getElem?_set_ne (Ne.symm e)]
      by_cases h2 : FT c j = 2
      · rw [ab_fs_ref hj h2, ab_fs_ref hj h2, mr_sR]
        simp [u3, e]
      · rw [ab_fs_int hj h2, ab_fs_int hj h2, mi_sR]
  · rw [List.getElem?_eq_none (by rw [ab_fs_len]; omega), List.getElem?_eq_none (by rw [List.length_set, ab_fs_len]; omega)]
theorem u3_ne {α : Type} {f : Nat → Nat → Nat → α} {s i k t j : Nat} {v : α} (h : ¬ (t = s ∧ j = i)) (n : Nat) : u3 f s i k v t j n = f t j n := by
  unfold u3; rw [if_neg]; rintro ⟨a, b, -⟩; exact h ⟨a, b⟩
theorem ent_sI {cA : Nat → ClassId} {loc : Nat → Nat → Nat} {m : ab_M} {s i k t j : Nat} {v : Int32} (h : ¬ (t = s ∧ j = i)) : ab_ent cA loc (sI m s i k v) t j = ab_ent cA loc m t j :=
  ab_ent_cong (fun n => by rw [mi_sI]; exact u3_ne h n) (fun _ => rfl) (fun _ => rfl) (fun _ => rfl) rfl
theorem ent_sR {cA : Nat → ClassId} {loc : Nat → Nat → Nat} {m : ab_M} {s i k t j : Nat} {v : Option (Nat × Nat)} (h : ¬ (t = s ∧ j = i)) : ab_ent cA loc (sR m s i k v) t j = ab_ent cA loc m t j :=
  ab_ent_cong (fun _ => rfl) (fun n => by rw [mr_sR, u3_ne h n]) (fun _ => rfl) (fun _ => rfl) rfl
section SO
variable {p : Program} {l : Launch} {e : Env} {R : Room} {s : State} {m : MethodId} {args : Array Value} {below : List Frame} {meth : Method} {c : Code} {Q : State → Prop} {D : va_G} {cA : Nat → ClassId} {nL : Nat} {loc0 : Nat → Nat → Nat} {m0 mf : ab_M} {cc : ByteArray} {own : String} {d : Nat}
variable {pc : Nat} {ls : ab_L} {st : List ab_V} {mm : ab_M} {Rr : ab_R → Prop}
theorem va_aldq2 {H : Heap} {locs : List Loc} {cells slots a : Nat} {lsv : Array Slot} {rest : List Value} {cl : List vw_C} {tys : List (ClassId × FieldType)} {ws : va_W} (hexec : p.tables.exec = Jvm.exec) (hb : c.code = cc) (hK : va_K D cl tys s) (hP : va_P D cl ws H) (q0 t0 : Nat) {cA : ClassId} {n : Nat} {f : Nat → Option Nat} (ha : ws[q0]? = some (a, .inl (cA, n, .inr (.inr (.inr (.inr f)))))) (ht : tys[t0]? = some (cA, .array .int)) {i : Int32} (hin : vp_in i n) (hdg : decode cc pc = .ok (.aaload, 1))
    (kk : W p l e R s m args below meth c H locs cells slots Q (F0 m (pc + 1) lsv (va_rf (f i.toNatClampNeg) :: rest))) : W p l e R s m args below meth c H locs cells slots Q (F0 m pc lsv (.int i :: .ref a :: rest)) := by
  have hlt : i.toNatClampNeg < n := Nat.not_le.mp fun q => hin (Or.inr q)
  exact W.aald (v := va_rf (f i.toNatClampNeg)) (ty := .array .int) hexec hb (hP q0 _ ha) ((hK.2 t0 _ ht).1 n (fun j => va_rf (f j))) rfl (fun q => by cases q) (by show ¬ (i < 0 ∨ (arrV _ _ _).slots.size ≤ _); rw [arrV_size]; exact hin) (by show (arrV _ _ _).slots[_]? = _; rw [arrV_read _ _ hlt]) rfl rfl hdg kk
theorem so_getI (E : ab_env p l R s m args meth c D cA nL loc0 m0 mf cc own d) {C : String} {T : u_T} {N ck k idx : Nat} {ref : String} (hcl : vwCl[ck]? = some (C, T, N)) (hN : NF ck = N) (hck : ck < 100) (hin : ∀ w ∈ u_ws C T N, w ∈ TB) (hk : k < N) (hF : FT ck k ≠ 2) (hlink : Cond.fieldLink own idx ref (T k).2.1 (T k).2.2.1 ∈ TB) (hsame : ∀ x, s.fieldFound? (T k).1 (T k).2.1 (T k).2.2.1 = some x → s.fieldFound? ref (T k).2.1 (T k).2.2.1 = some x) (hdg : decode cc pc = .ok (.getfield idx, 3)) (h : s_getI ck k (pc + 3) (ab_k p l e R s m args below meth c Q D cA nL loc0 m0 mf) Rr ls st mm) : ab_k p l e R s m args below meth c Q D cA nL loc0 m0 mf pc ls st mm := by
  unfold s_getI at h
  split at h
  · next x r =>
    split at h
    · next hc =>
      refine ⟨h.1, fun H locs loc lsv ha hcc hl hv => ?_⟩
      have hx : x.2 < mc mm x.1 := hv _ List.mem_cons_self
      obtain ⟨q0, -, hq⟩ := aw_get (cA := cA) (loc := loc) ha.2.2.1 (by first | omega | exact sk_ge2 (by omega) (by omega)) hx
      rw [ab_ent_obj hc hck] at hq
      exact va_get (v := .int (mi mm x.1 x.2 k)) E.1 E.2.1 E.2.2.2.2.1 hin E.2.2.2.1 E.2.2.2.2.2.1.1 ha.1 q0 hq hcl k hk (E.2.2.2.2.1 _ hlink) hsame (ab_fs_int (by rw [hN]; exact hk) hF) hdg (h.2 H locs loc lsv ha hcc hl (List.forall_mem_cons.mpr ⟨trivial, wd1 hv⟩))
    · exact h.elim
  · exact h.elim
theorem so_getR (E : ab_env p l R s m args meth c D cA nL loc0 m0 mf cc own d) {C : String} {T : u_T} {N ck k idx : Nat} {ref : String} (hcl : vwCl[ck]? = some (C, T, N)) (hN : NF ck = N) (hck : ck < 100) (hin : ∀ w ∈ u_ws C T N, w ∈ TB) (hk : k < N) (hF : FT ck k = 2) (hlink : Cond.fieldLink own idx ref (T k).2.1 (T k).2.2.1 ∈ TB) (hsame : ∀ x, s.fieldFound? (T k).1 (T k).2.1 (T k).2.2.1 = some x → s.fieldFound? ref (T k).2.1 (T k).2.2.1 = some x) (hdg : decode cc pc = .ok (.getfield idx, 3)) (h : s_getR ck k (pc + 3) (ab_k p l e R s m args below meth c Q D cA nL loc0 m0 mf) Rr ls st mm) : ab_k p l e R s m args below meth c Q D cA nL loc0 m0 mf pc ls st mm := by
  unfold s_getR at h
  split at h
  · next x r =>
    split at h
    · next hc =>
      refine ⟨h.1, fun H locs loc lsv ha hcc hl hv => ?_⟩
      have hx : x.2 < mc mm x.1 := hv _ List.mem_cons_self
      obtain ⟨q0, -, hq⟩ := aw_get (cA := cA) (loc := loc) ha.2.2.1 (by first | omega | exact sk_ge2 (by omega) (by omega)) hx
      rw [ab_ent_obj hc hck] at hq
      exact va_get (v := va_rf ((mr mm x.1 x.2 k).map (fun (y : Nat × Nat) => loc y.1 y.2))) E.1 E.2.1 E.2.2.2.2.1 hin E.2.2.2.1 E.2.2.2.2.2.1.1 ha.1 q0 hq hcl k hk (E.2.2.2.2.1 _ hlink) hsame (ab_fs_ref (by rw [hN]; exact hk) hF) hdg (h.2 H locs loc lsv ha hcc hl (List.forall_mem_cons.mpr ⟨so_wfr (fun y hy => ha.2.2.1.2 _ _ _ _ hx hy), wd1 hv⟩))
    · exact h.elim
  · exact h.elim
theorem r_put {H : Heap} {locs : List Loc} {cells slots a : Nat} {lsv : Array Slot} {rest : List Value} {cl : List vw_C} {tys : List (ClassId × FieldType)} {ws : va_W} (hexec : p.tables.exec = Jvm.exec) (hb : c.code = cc) {ref C : String} {T : u_T} {N ci index : Nat} {Ts : List Cond} (hts : ∀ w ∈ Ts, w.before args s = true) (hin : ∀ w ∈ u_ws C T N, w ∈ Ts) (ty0 : Nat → FieldType) (hty : ∀ k, k < N → parseFieldDescriptor (T k).2.2.1 = some (ty0 k)) (hnm : ∀ a, a < N → ∀ b, b < N → a ≠ b → (T a).2.1 ≠ (T b).2.1) (hown : s.vm.findClass own = some m.cls) (hK : va_K D cl tys s) (hP : va_P D cl ws H) (q0 : Nat) {fs : List Value} (he : ws[q0]? = some (a, .inr (ci, fs))) (hc : cl[ci]? = some (C, T, N)) (k : Nat) (hk : k < N) (hlink : (Cond.fieldLink own index ref (T k).2.1 (T k).2.2.1).before args s = true) (hsame : ∀ x, s.fieldFound? (T k).1 (T k).2.1 (T k).2.2.1 = some x → s.fieldFound? ref (T k).2.1 (T k).2.2.1 = some x) (hfin : (T k).2.2.2 = false) {ty : FieldType} {v : Value} (hd : parseFieldDescriptor (T k).2.2.1 = some ty) (hn : narrow ty v = v) (hfit : fits ty v = true) (hl : k < fs.length)
    (hdg : decode cc pc = .ok (.putfield index, 3)) (kk : ∀ (H1 : Heap), va_at D cl (a, .inr (ci, fs.set k v)) H1 → H1.size = H.size → (∀ q : Nat, q ≠ a → H1[q]? = H[q]?) → W p l e R s m args below meth c H1 (locs ++ [⟨a, D.2 ci k⟩]) cells slots Q (F0 m (pc + 3) lsv rest)) : W p l e R s m args below meth c H locs cells slots Q (F0 m pc lsv (v :: .ref a :: rest)) := by
  have hap := va_apart (own := own) hts hin ty0 hty hnm hK hc
  obtain ⟨r, h1, cell, q1, q2, q3, q4⟩ := hP q0 _ he
  have hr : r = (C, T, N) := Option.some.inj (h1.symm.trans hc)
  subst hr
  obtain ⟨hS, hfc, kC, hkC, hkind⟩ := hK.1 ci _ hc
  obtain ⟨cf, kf, fi, f, hi, hsl⟩ := hS k hk
  have hlay := hts _ (hin _ (u_in_lay hk))
  unfold u_lay at hlay
  rw [if_neg (by rw [hfin]; decide)] at hlay
  have hst := (u_facts hfc hkC (u_lays hts hin hk) hi).1
  have h6 := u_store hfc hkC hkind hlay hi hd hn hfit
  refine W.putK hexec hb (f := f) ⟨hown, hlink, ⟨_, _, _, hsame _ hi⟩, hst⟩ (by rw [q2]; exact h6) q1 q3 (by rw [hsl]; exact k2_hasslot (q4 k hk)) rfl rfl hdg fun H' e1 e2 e3 => ?_
  rw [hsl] at e1 ⊢
  exact kk H' ⟨_, hc, t_OB.to (V := updV (vp_V fs) k v) ⟨_, e1, q2, q3, t_set q4 hap hk v⟩ (fun j _ => vp_updV_set hl v j)⟩ e2 e3
theorem r_putF {H : Heap} {locs : List Loc} {cells slots a : Nat} {lsv : Array Slot} {rest : List Value} {cl : List vw_C} {tys : List (ClassId × FieldType)} {ws : va_W} (hexec : p.tables.exec = Jvm.exec) (hb : c.code = cc) {ref C : String} {T : u_T} {N ci index : Nat} {Ts : List Cond} (hts : ∀ w ∈ Ts, w.before args s = true) (hin : ∀ w ∈ u_ws C T N, w ∈ Ts) (ty0 : Nat → FieldType) (hty : ∀ k, k < N → parseFieldDescriptor (T k).2.2.1 = some (ty0 k)) (hnm : ∀ a, a < N → ∀ b, b < N → a ≠ b → (T a).2.1 ≠ (T b).2.1) (hown : s.vm.findClass own = some m.cls) (hK : va_K D cl tys s) (hP : va_P D cl ws H) (q0 : Nat) {fs : List Value} (he : ws[q0]? = some (a, .inr (ci, fs))) (hc : cl[ci]? = some (C, T, N)) (k : Nat) (hk : k < N) (hlink : (Cond.fieldLink own index ref (T k).2.1 (T k).2.2.1).before args s = true) (hsame : ∀ x, s.fieldFound? (T k).1 (T k).2.1 (T k).2.2.1 = some x → s.fieldFound? ref (T k).2.1 (T k).2.2.1 = some x) (hfin : (T k).2.2.2 = true) (hin2 : meth.name = "<init>") (hdecl : (T k).1 = own) {ty : FieldType} {v : Value} (hd : parseFieldDescriptor (T k).2.2.1 = some ty) (hn : narrow ty v = v) (hfit : fits ty v = true) (hl : k < fs.length)
    (hdg : decode cc pc = .ok (.putfield index, 3)) (kk : ∀ (H1 : Heap), va_at D cl (a, .inr (ci, fs.set k v)) H1 → H1.size = H.size → (∀ q : Nat, q ≠ a → H1[q]? = H[q]?) → W p l e R s m args below meth c H1 (locs ++ [⟨a, D.2 ci k⟩]) cells slots Q (F0 m (pc + 3) lsv rest)) : W p l e R s m args below meth c H locs cells slots Q (F0 m pc lsv (v :: .ref a :: rest)) := by
  have hap := va_apart (own := own) hts hin ty0 hty hnm hK hc
  obtain ⟨r, h1, cell, q1, q2, q3, q4⟩ := hP q0 _ he
  have hr : r = (C, T, N) := Option.some.inj (h1.symm.trans hc)
  subst hr
  obtain ⟨hS, hfc, kC, hkC, hkind⟩ := hK.1 ci _ hc
  obtain ⟨cf, kf, fi, f, hi, hsl⟩ := hS k hk
  have hlay := hts _ (hin _ (u_in_lay hk))
  unfold u_lay at hlay
  rw [if_pos hfin] at hlay
  have hst := (u_facts hfc hkC (u_lays hts hin hk) hi).1
  have hcf : m.cls = cf := by
    obtain ⟨_, _, c', _, _, _, -, -, hf', -, -, -, hown2, -⟩ := Cond.laysFinal_spec hlay
    have e1 : c' = cf := by have := hi.symm.trans hf'; simp at this; exact this.1.symm
    rw [hdecl] at hown2
    rw [← e1]; exact Option.some.inj (hown.symm.trans hown2)
  have h6 := u_fits hfc hkC hkind (Or.inr hlay) hi hd hn hfit
  refine W.putFinK hexec hb hown hlink (hsame _ hi) hst hcf hin2 (by rw [q2]; exact h6) q1 q3 (by rw [hsl]; exact k2_hasslot (q4 k hk)) rfl rfl hdg fun H' e1 e2 e3 => ?_
  rw [hsl] at e1 ⊢
  exact kk H' ⟨_, hc, t_OB.to (V := updV (vp_V fs) k v) ⟨_, e1, q2, q3, t_set q4 hap hk v⟩ (fun j _ => vp_updV_set hl v j)⟩ e2 e3
theorem so_putI (E : ab_env p l R s m args meth c D cA nL loc0 m0 mf cc own d) {C : String} {T : u_T} {N ck k idx : Nat} {ref : String} (hcl : vwCl[ck]? = some (C, T, N)) (hN : NF ck = N) (hck : ck < 100) (hin : ∀ w ∈ u_ws C T N, w ∈ TB) (hk : k < N) (hF : FT ck k ≠ 2) (ty0 : Nat → FieldType) (hty : ∀ k, k < N → parseFieldDescriptor (T k).2.2.1 = some (ty0 k)) (hnm : ∀ a, a < N → ∀ b, b < N → a ≠ b → (T a).2.1 ≠ (T b).2.1) (hlink : Cond.fieldLink own idx ref (T k).2.1 (T k).2.2.1 ∈ TB) (hsame : ∀ x, s.fieldFound? (T k).1 (T k).2.1 (T k).2.2.1 = some x → s.fieldFound? ref (T k).2.1 (T k).2.2.1 = some x) (hfin : (T k).2.2.2 = false) (hd : parseFieldDescriptor (T k).2.2.1 = some .int) (hdg : decode cc pc = .ok (.putfield idx, 3)) (h2 : ∀ t, SK t = ck → 2 ≤ t) (h : s_putI ck k (pc + 3) (ab_k p l e R s m args below meth c Q D cA nL loc0 m0 mf) Rr ls st mm) : ab_k p l e R s m args below meth c Q D cA nL loc0 m0 mf pc ls st mm := by
  unfold s_putI at h
  split at h
  · next v x r =>
    split at h
    · next hc =>
      refine ⟨h.1, fun H locs loc lsv ha hcc hl hv => ?_⟩
      have hx : x.2 < mc mm x.1 := wd1 hv _ List.mem_cons_self
      obtain ⟨q0, hq0, hq⟩ := aw_get (cA := cA) (loc := loc) ha.2.2.1 (by first | omega | exact sk_ge2 (by omega) (by omega)) hx
      rw [ab_ent_obj hc hck] at hq
      refine r_put (v := .int v) E.1 E.2.1 E.2.2.2.2.1 hin ty0 hty hnm E.2.2.2.1 E.2.2.2.2.2.1.1 ha.1 q0 hq hcl k hk (E.2.2.2.2.1 _ hlink) hsame hfin hd rfl rfl (by rw [ab_fs_len, hN]; exact hk) hdg fun H1 e1 z oq => ?_
      refine h.2 H1 _ loc lsv (ha.set hq0 (h2 _ hc) rfl rfl (wfM_sI ha.2.2.1 x.1 x.2 k v) (fun u j _ hn => ent_sI hn) ?_ z oq) hcc (hl.mem (fun _ _ hi => ⟨hi, rfl⟩)) (wd2 hv)
      rw [ab_ent_obj hc hck, ab_fs_sI (by rw [hN]; exact hk) hF]
      exact e1
    · exact h.elim
  · exact h.elim
theorem so_putRF (E : ab_env p l R s m args meth c D cA nL loc0 m0 mf cc own d) {C : String} {T : u_T} {N ck k idx : Nat} {ref : String} (hcl : vwCl[ck]? = some (C, T, N)) (hN : NF ck = N) (hck : ck < 100) (hin : ∀ w ∈ u_ws C T N, w ∈ TB) (hk : k < N) (hF : FT ck k = 2) (ty0 : Nat → FieldType) (hty : ∀ k, k < N → parseFieldDescriptor (T k).2.2.1 = some (ty0 k)) (hnm : ∀ a, a < N → ∀ b, b < N → a ≠ b → (T a).2.1 ≠ (T b).2.1) (hlink : Cond.fieldLink own idx ref (T k).2.1 (T k).2.2.1 ∈ TB) (hsame : ∀ x, s.fieldFound? (T k).1 (T k).2.1 (T k).2.2.1 = some x → s.fieldFound? ref (T k).2.1 (T k).2.2.1 = some x) (hfin : (T k).2.2.2 = true) (hin2 : meth.name = "<init>") (hdecl : (T k).1 = own) {ty : FieldType} (hty2 : (∃ n, ty = .object n) ∨ ∃ t, ty = .array t) (hd : parseFieldDescriptor (T k).2.2.1 = some ty) (hdg : decode cc pc = .ok (.putfield idx, 3)) (h2 : ∀ t, SK t = ck → 2 ≤ t) (h : s_putR ck k (pc + 3) (ab_k p l e R s m args below meth c Q D cA nL loc0 m0 mf) Rr ls st mm) : ab_k p l e R s m args below meth c Q D cA nL loc0 m0 mf pc ls st mm := by
  unfold s_putR at h
  split at h
  · next v x r =>
    split at h
    · next hc =>
      refine ⟨h.1, fun H locs loc lsv ha hcc hl hv => ?_⟩
      have hx : x.2 < mc mm x.1 := wd1 hv _ List.mem_cons_self
      obtain ⟨q0, hq0, hq⟩ := aw_get (cA := cA) (loc := loc) ha.2.2.1 (by first | omega | exact sk_ge2 (by omega) (by omega)) hx
      rw [ab_ent_obj hc hck] at hq
      refine r_putF (v := va_rf (v.map (fun (y : Nat × Nat) => loc y.1 y.2))) E.1 E.2.1 E.2.2.2.2.1 hin ty0 hty hnm E.2.2.2.1 E.2.2.2.2.2.1.1 ha.1 q0 hq hcl k hk (E.2.2.2.2.1 _ hlink) hsame hfin hin2 hdecl hd (so_nar hty2 _) (so_fit hty2 _) (by rw [ab_fs_len, hN]; exact hk) hdg fun H1 e1 z oq => ?_
      refine h.2 H1 _ loc lsv (ha.set hq0 (h2 _ hc) rfl rfl (wfM_sR ha.2.2.1 x.1 x.2 k (fun y hy => by subst hy; exact hv _ List.mem_cons_self)) (fun u j _ hn => ent_sR hn) ?_ z oq) hcc (hl.mem (fun _ _ hi => ⟨hi, rfl⟩)) (wd2 hv)
      rw [ab_ent_obj hc hck, ab_fs_sR (by rw [hN]; exact hk) hF]
      exact e1
    · exact h.elim
  · exact h.elim
theorem arr_cell {U : State} {cell : Cell} {c : ClassId} {ty : FieldType} (h : ArrOfT U c ty) (hc : cell.cls = c) (hs : cell.vm.isStatics = false) : U.isArrayOf cell ty := by
  obtain ⟨-, k, hk, comp, hkk⟩ := h 0 (fun _ => .null)
  exact ⟨(fun z hz => by rw [hz] at hs; cases hs), k, (by rw [hc]; exact hk), comp, hkk⟩
theorem so_iald (E : ab_env p l R s m args meth c D cA nL loc0 m0 mf cc own d) (hdg : decode cc pc = .ok (.iaload, 1)) (h : s_ald 100 (pc + 1) (ab_k p l e R s m args below meth c Q D cA nL loc0 m0 mf) Rr ls st mm) : ab_k p l e R s m args below meth c Q D cA nL loc0 m0 mf pc ls st mm := by
  unfold s_ald at h
  split at h
  · next j x r =>
    obtain ⟨hc1, hj, h⟩ := h
    have hc := And.intro hc1 hj
    refine ⟨h.1, fun H locs loc lsv ha hcc hl hv => ?_⟩
    have hx : x.2 < mc mm x.1 := wd1 hv _ List.mem_cons_self
    rcases Nat.lt_or_ge x.1 2 with w | w
    · obtain ⟨xs, xi⟩ := x
      simp only at w hc1 hx hj
      have e0 : xs = 0 := by
        rcases (show xs = 0 ∨ xs = 1 by omega) with rfl | rfl
        · rfl
        · rw [SK_1] at hc1; omega
      subst e0
      obtain ⟨cell, d1, d2, ⟨d3, d6⟩, d4, d5⟩ := ha.2.1.2.1 xi hx
      have hlt : j.toNatClampNeg < mn mm 0 xi := Nat.not_le.mp fun q => hj (Or.inr q)
      exact W.iald (v := .int (mi mm 0 xi j.toNatClampNeg)) E.1 E.2.1 d1 (arr_cell E.2.2.2.2.2.1.2.2.1.2.2 d2 d6) d3 (by rw [d4]; exact hj) (d5 _ hlt) rfl rfl hdg (h.2 H locs loc lsv ha hcc hl (List.forall_mem_cons.mpr ⟨trivial, wd2 hv⟩))
    obtain ⟨q0, -, hq⟩ := aw_get (cA := cA) (loc := loc) ha.2.2.1 w hx
    rw [ab_ent_i hc.1 (by omega) (by omega)] at hq
    exact va_iald E.1 E.2.1 E.2.2.2.2.2.1.1 ha.1 q0 0 hq rfl hj hdg (h.2 H locs loc lsv ha hcc hl (List.forall_mem_cons.mpr ⟨trivial, wd2 hv⟩))
  · exact h.elim
theorem so_zald (E : ab_env p l R s m args meth c D cA nL loc0 m0 mf cc own d) (hdg : decode cc pc = .ok (.baload, 1)) (h : s_ald 101 (pc + 1) (ab_k p l e R s m args below meth c Q D cA nL loc0 m0 mf) Rr ls st mm) : ab_k p l e R s m args below meth c Q D cA nL loc0 m0 mf pc ls st mm := by
  unfold s_ald at h
  split at h
  · next j x r =>
    obtain ⟨hc1, hj, h⟩ := h
    have hc := And.intro hc1 hj
    refine ⟨h.1, fun H locs loc lsv ha hcc hl hv => ?_⟩
    have hx : x.2 < mc mm x.1 := wd1 hv _ List.mem_cons_self
    obtain ⟨q0, -, hq⟩ := aw_get (cA := cA) (loc := loc) ha.2.2.1 (by first | omega | exact sk_ge2 (by omega) (by omega)) hx
    rw [ab_ent_i hc.1 (by omega) (by omega)] at hq
    exact va_zald E.1 E.2.1 E.2.2.2.2.2.1.1 ha.1 q0 1 hq rfl hj hdg (h.2 H locs loc lsv ha hcc hl (List.forall_mem_cons.mpr ⟨trivial, wd2 hv⟩))
  · exact h.elim
theorem so_aald2 (E : ab_env p l R s m args meth c D cA nL loc0 m0 mf cc own d) (hdg : decode cc pc = .ok (.aaload, 1)) (h : s_aald 105 (pc + 1) (ab_k p l e R s m args below meth c Q D cA nL loc0 m0 mf) Rr ls st mm) : ab_k p l e R s m args below meth c Q D cA nL loc0 m0 mf pc ls st mm := by
  unfold s_aald at h
  split at h
  · next j x r =>
    obtain ⟨hc1, hj, h⟩ := h
    have hc := And.intro hc1 hj
    refine ⟨h.1, fun H locs loc lsv ha hcc hl hv => ?_⟩
    have hx : x.2 < mc mm x.1 := wd1 hv _ List.mem_cons_self
    obtain ⟨q0, -, hq⟩ := aw_get (cA := cA) (loc := loc) ha.2.2.1 (by first | omega | exact sk_ge2 (by omega) (by omega)) hx
    rw [ab_ent_q hc.1 (by omega)] at hq
    exact va_aldq2 E.1 E.2.1 E.2.2.2.2.2.1.1 ha.1 q0 5 hq rfl hj hdg (h.2 H locs loc lsv ha hcc hl (List.forall_mem_cons.mpr ⟨so_wfr (fun y hy => ha.2.2.1.2 _ _ _ _ hx hy), wd2 hv⟩))
  · exact h.elim
theorem so_iast (E : ab_env p l R s m args meth c D cA nL loc0 m0 mf cc own d) (hdg : decode cc pc = .ok (.iastore, 1)) (h : s_ast 100 (pc + 1) (ab_k p l e R s m args below meth c Q D cA nL loc0 m0 mf) Rr ls st mm) : ab_k p l e R s m args below meth c Q D cA nL loc0 m0 mf pc ls st mm := by
  unfold s_ast at h
  split at h
  · next v j x r =>
    obtain ⟨hc, hj, h⟩ := h
    refine ⟨h.1, fun H locs loc lsv ha hcc hl hv => ?_⟩
    have hx : x.2 < mc mm x.1 := wd2 hv _ List.mem_cons_self
    obtain ⟨q0, hq0, hq⟩ := aw_get (cA := cA) (loc := loc) ha.2.2.1 (by first | omega | exact sk_ge2 (by omega) (by omega)) hx
    rw [ab_ent_i hc.1 (by omega) (by omega)] at hq
    refine W.iast E.1 E.2.1 (ha.1 q0 _ hq) ((E.2.2.2.2.2.1.1.2 0 _ rfl).1 (mn mm x.1 x.2) (fun j => .int (mi mm x.1 x.2 j))) (fun q => by cases q) (by show ¬ (j < 0 ∨ (arrV _ _ _).slots.size ≤ _); rw [arrV_size]; exact hj) rfl rfl hdg fun H1 e1 z oq => ?_
    refine h.2 H1 _ loc lsv (ha.set hq0 hc.2 rfl rfl (wfM_sI ha.2.2.1 x.1 x.2 _ v) (fun u j _ hn => ent_sI hn) ?_ z oq) hcc (hl.mem (fun _ _ hi => ⟨hi, rfl⟩)) (wd3 hv)
    · rw [ab_ent_i hc.1 (by omega) (by omega)]
      show H1[loc x.1 x.2]? = some (vp_cell _ _)
      rw [e1, vp_cell_i, vp_cell_i, arrV_store]
      congr 2
      funext q
      by_cases hq9 : q = j.toNatClampNeg
      · subst hq9
        simp [updV, u3, mi_sI]
      · simp [updV, u3, mi_sI, hq9]
  · exact h.elim
theorem so_zast (E : ab_env p l R s m args meth c D cA nL loc0 m0 mf cc own d) (hdg : decode cc pc = .ok (.bastore, 1)) (h : s_zast (pc + 1) (ab_k p l e R s m args below meth c Q D cA nL loc0 m0 mf) Rr ls st mm) : ab_k p l e R s m args below meth c Q D cA nL loc0 m0 mf pc ls st mm := by
  unfold s_zast at h
  split at h
  · next v j x r =>
    obtain ⟨hc, hj, h⟩ := h
    refine ⟨h.1, fun H locs loc lsv ha hcc hl hv => ?_⟩
    have hx : x.2 < mc mm x.1 := wd2 hv _ List.mem_cons_self
    obtain ⟨q0, hq0, hq⟩ := aw_get (cA := cA) (loc := loc) ha.2.2.1 (by first | omega | exact sk_ge2 (by omega) (by omega)) hx
    rw [ab_ent_i hc.1 (by omega) (by omega)] at hq
    refine W.zast E.1 E.2.1 (ha.1 q0 _ hq) ((E.2.2.2.2.2.1.1.2 1 _ rfl).1 (mn mm x.1 x.2) (fun j => .int (mi mm x.1 x.2 j))) (fun q => by cases q) (by show ¬ (j < 0 ∨ (arrV _ _ _).slots.size ≤ _); rw [arrV_size]; exact hj) rfl rfl hdg fun H1 e1 z oq => ?_
    refine h.2 H1 _ loc lsv (ha.set hq0 hc.2.1 rfl rfl (wfM_sI ha.2.2.1 x.1 x.2 _ v) (fun u j _ hn => ent_sI hn) ?_ z oq) hcc (hl.mem (fun _ _ hi => ⟨hi, rfl⟩)) (wd3 hv)
    · rw [ab_ent_i hc.1 (by omega) (by omega)]
      show H1[loc x.1 x.2]? = some (vp_cell _ _)
      rw [e1, vp_cell_i, vp_cell_i, arrV_store]
      congr 2
      funext q
      by_cases hq9 : q = j.toNatClampNeg
      · subst hq9
        rcases hc.2.2 with rfl | rfl <;> simp [updV, u3, mi_sI] <;> try rfl
      · simp [updV, u3, mi_sI, hq9]
  · exact h.elim
theorem so_alen (E : ab_env p l R s m args meth c D cA nL loc0 m0 mf cc own d) (hdg : decode cc pc = .ok (.arraylength, 1)) (hk6 : ∀ t, 100 ≤ SK t → SK t ≤ 105) (h : s_alen (pc + 1) (ab_k p l e R s m args below meth c Q D cA nL loc0 m0 mf) Rr ls st mm) : ab_k p l e R s m args below meth c Q D cA nL loc0 m0 mf pc ls st mm := by
  unfold s_alen at h
  split at h
  · next x r =>
    split at h
    · next hc =>
      refine ⟨h.1, fun H locs loc lsv ha hcc hl hv => ?_⟩
      have hx : x.2 < mc mm x.1 := hv _ List.mem_cons_self
      have k := h.2 H locs loc lsv ha hcc hl (List.forall_mem_cons.mpr ⟨trivial, wd1 hv⟩)
      obtain ⟨xs, xi⟩ := x
      simp only at hc hx k
      subst hc
      obtain ⟨cell, d1, d2, ⟨d3, d6⟩, d4, d5⟩ := ha.2.1.2.1 xi hx
      exact W.alen (n := Int32.ofNat (mn mm 0 xi)) E.1 E.2.1 d1 (arr_cell E.2.2.2.2.2.1.2.2.1.2.2 d2 d6) (by rw [d4] <;> rfl) rfl rfl hdg k
    · exact h.elim
  · exact h.elim
end SO
