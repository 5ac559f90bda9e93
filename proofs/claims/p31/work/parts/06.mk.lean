/-! instructions that make cells; casts; Object.<init>; Math.min and max; a store into Object[] -/
section SO
variable {p : Program} {l : Launch} {e : Env} {R : Room} {s : State} {m : MethodId} {args : Array Value} {below : List Frame} {meth : Method} {c : Code} {Q : State → Prop} {D : va_G} {cA : Nat → ClassId} {nL : Nat} {loc0 : Nat → Nat → Nat} {m0 mf : ab_M} {cc : ByteArray} {own : String} {d : Nat}
variable {pc : Nat} {ls : ab_L} {st : List ab_V} {mm : ab_M} {Rr : ab_R → Prop}
theorem al_mem {t L w q : Nat} {loc : Nat → Nat → Nat} : ∀ u i, i < mc mm u → i < mc (al mm t L w) u ∧ lo1 loc t (mc mm t) q u i = loc u i := by
  intro u i hi
  refine ⟨?_, lo1_old hi⟩
  rw [mc_al]; unfold u1
  by_cases c : u = t
  · rw [if_pos c]; rw [← c]; omega
  · rw [if_neg c]; exact hi
theorem al_self {t L w : Nat} : mc mm t < mc (al mm t L w) t := by rw [mc_al]; simp [u1]
/-- behind a row that has made a cell at the end of the heap -/
theorem so_made {t L w : Nat} {r : List ab_V} {pc' : Nat} {H H1 : Heap} {locs : List Loc} {loc : Nat → Nat → Nat} {lsv : Array Slot} (k : ab_k p l e R s m args below meth c Q D cA nL loc0 m0 mf pc' ls (vA t (mc mm t) :: r) (al mm t L w))
    (ha : ab_at D cA s loc0 m0 loc mm H locs) (hcc : mnc m0 ≤ mnc mm ∧ mns m0 ≤ mns mm) (hl : ab_lv nL loc mm lsv ls) (hv : ∀ v ∈ r, wfV mm v) (ht : 2 ≤ t) (he : va_at D vwCl (H.size, ab_ent cA (lo1 loc t (mc mm t) H.size) (al mm t L w) t (mc mm t)) H1) (z : H1.size = H.size + 1) (oq : ∀ q : Nat, q < H.size → H1[q]? = H[q]?) :
    W p l e R s m args below meth c H1 locs (mnc mm - mnc m0 + 1) (mns mm - mns m0 + w) Q (F0 m pc' lsv (.ref H.size :: r.map (cv loc))) := by
  obtain ⟨e1, e2⟩ := cvs_mem (al_mem (t := t) (L := L) (w := w) (q := H.size) (loc := loc)) hv
  have h := k.2 H1 locs (lo1 loc t (mc mm t) H.size) lsv (ha.push ht he (by omega) oq) ⟨by rw [mnc_al]; omega, by rw [mns_al]; omega⟩ (hl.mem al_mem) (List.forall_mem_cons.mpr ⟨al_self, e2⟩)
  rw [List.map_cons, e1] at h
  have e3 : cv (lo1 loc t (mc mm t) H.size) (vA t (mc mm t)) = .ref H.size := by show Value.ref (lo1 loc t (mc mm t) H.size t (mc mm t)) = _; rw [lo1_self]
  rw [e3] at h
  exact W.cs (by rw [mnc_al]; omega) (by rw [mns_al]; omega) h
theorem so_new (E : ab_env p l R s m args meth c D cA nL loc0 m0 mf cc own d) {t : Nat} {C : String} {T : u_T} {N ck idx : Nat} (hcl : vwCl[ck]? = some (C, T, N)) (hN : NF ck = N) (hck : ck < 100) (hin : ∀ w ∈ u_ws C T N, w ∈ TB) (ty0 : Nat → FieldType) (hty : ∀ k, k < N → parseFieldDescriptor (T k).2.2.1 = some (ty0 k)) (hdf : ∀ k, k < N → defaultValue (ty0 k) = if FT ck k = 2 then .null else .int 0) (hkt : SK t = ck)
    (hq1 : Cond.classLink own idx C ∈ TB) (hq2 : Cond.instantiable C N ∈ TB) (hq3 : Cond.initialized C ∈ TB) (hdg : decode cc pc = .ok (.new idx, 3)) (h : s_new t (pc + 3) (ab_k p l e R s m args below meth c Q D cA nL loc0 m0 mf) Rr ls st mm) : ab_k p l e R s m args below meth c Q D cA nL loc0 m0 mf pc ls st mm := by
  unfold s_new at h
  split at h
  · next hc =>
    have h1 := h.1
    rw [mnc_al, mns_al, hkt, hN] at h1
    rw [hkt, hN] at h
    obtain ⟨hx, hb, hml, hown, hts, hVF, hHF, hst, hlk, hd1, hd2, hRc, hRs, hd3⟩ := E
    refine ⟨⟨by omega, by omega⟩, fun H locs loc lsv ha hcc hl hv => ?_⟩
    have hKn := hVF.1.1 ck _ hcl
    refine W.newcK hx hb hown (hts _ hq1) (hts _ hq2) (hts _ hq3) rfl hdg (by omega) (by omega) hKn.2.1 rfl fun H1 kC hkC e1 z1 o1 => ?_
    refine so_made h ha hcc hl hv hc.2 ?_ z1 o1
    rw [ab_ent_obj hkt hck, hN]
    refine ⟨_, hcl, (u_born ty0 hts hin hKn hkC e1 hty).to (fun k hk => ?_)⟩
    rw [hdf k hk]
    unfold vp_V
    rw [List.getD_eq_getElem?_getD]
    by_cases h2 : FT ck k = 2
    · rw [ab_fs_ref hk h2, if_pos h2, mr_al]; simp [u2, va_rf]
    · rw [ab_fs_int hk h2, if_neg h2, mi_al]; simp [u2]
  · exact h.elim
theorem so_newa100 (E : ab_env p l R s m args meth c D cA nL loc0 m0 mf cc own d) {t : Nat} (hkt : SK t = 100) (hq : Cond.arrayClass .int ∈ TB) (hdg : decode cc pc = .ok (.newarray .int, 2)) (h : s_newa t (pc + 2) (ab_k p l e R s m args below meth c Q D cA nL loc0 m0 mf) Rr ls st mm) : ab_k p l e R s m args below meth c Q D cA nL loc0 m0 mf pc ls st mm := by
  unfold s_newa at h
  split at h
  · next j r =>
    split at h
    · next hc =>
      obtain ⟨-, ht2, hj, hj2⟩ := hc
      have h1 := h.1
      rw [mnc_al, mns_al] at h1
      obtain ⟨hx, hb, hml, hown, hts, hVF, hHF, hst, hlk, hd1, hd2, hRc, hRs, hd3⟩ := E
      refine ⟨⟨by omega, by omega⟩, fun H locs loc lsv ha hcc hl hv => ?_⟩
      refine va_newaK (atype := .int) hx hb (hts _ hq) rfl hdg rfl hj rfl (by show _ * 4 ≤ _; omega) (by omega) (by omega) rfl fun H1 cA1 e1 z1 o1 hA hf => ?_
      have hcA : cA1 = cA 100 := Option.some.inj (hf.symm.trans (hVF.1.2 0 _ rfl).2)
      subst hcA
      refine so_made h ha hcc hl (wd1 hv) ht2 ?_ z1 o1
      rw [ab_ent_i hkt (by omega) (by omega)]
      show H1[H.size]? = some (vp_cell _ _)
      rw [e1, vp_cell_i, mn_al, mi_al]
      simp [u2, newarray.typeOf, defaultValue, FP.dconst0]
    · exact h.elim
  · exact h.elim
theorem so_newa101 (E : ab_env p l R s m args meth c D cA nL loc0 m0 mf cc own d) {t : Nat} (hkt : SK t = 101) (hq : Cond.arrayClass .boolean ∈ TB) (hdg : decode cc pc = .ok (.newarray .boolean, 2)) (h : s_newa t (pc + 2) (ab_k p l e R s m args below meth c Q D cA nL loc0 m0 mf) Rr ls st mm) : ab_k p l e R s m args below meth c Q D cA nL loc0 m0 mf pc ls st mm := by
  unfold s_newa at h
  split at h
  · next j r =>
    split at h
    · next hc =>
      obtain ⟨-, ht2, hj, hj2⟩ := hc
      have h1 := h.1
      rw [mnc_al, mns_al] at h1
      obtain ⟨hx, hb, hml, hown, hts, hVF, hHF, hst, hlk, hd1, hd2, hRc, hRs, hd3⟩ := E
      refine ⟨⟨by omega, by omega⟩, fun H locs loc lsv ha hcc hl hv => ?_⟩
      refine va_newaK (atype := .boolean) hx hb (hts _ hq) rfl hdg rfl hj rfl (by show _ * 1 ≤ _; omega) (by omega) (by omega) rfl fun H1 cA1 e1 z1 o1 hA hf => ?_
      have hcA : cA1 = cA 101 := Option.some.inj (hf.symm.trans (hVF.1.2 1 _ rfl).2)
      subst hcA
      refine so_made h ha hcc hl (wd1 hv) ht2 ?_ z1 o1
      rw [ab_ent_i hkt (by omega) (by omega)]
      show H1[H.size]? = some (vp_cell _ _)
      rw [e1, vp_cell_i, mn_al, mi_al]
      simp [u2, newarray.typeOf, defaultValue, FP.dconst0]
    · exact h.elim
  · exact h.elim
theorem so_obj (E : ab_env p l R s m args meth c D cA nL loc0 m0 mf cc own d) {idx : Nat} (hq1 : Cond.methodLink own idx objectInit ∈ TB) (hq2 : Cond.instanceMethod objectInit ∈ TB) (hq3 : Cond.code objectInit ⟨#[0xb1]⟩ 1 none ∈ TB) (hdg : decode cc pc = .ok (.invokespecial idx, 3)) (h : s_obj (pc + 3) (ab_k p l e R s m args below meth c Q D cA nL loc0 m0 mf) Rr ls st mm) : ab_k p l e R s m args below meth c Q D cA nL loc0 m0 mf pc ls st mm := by
  unfold s_obj at h
  split at h
  · next x r =>
    split at h
    · next hst8 =>
      refine ⟨h.1, fun H locs loc lsv ha hcc hl hv => ?_⟩
      obtain ⟨hx, hb, hml, hown, hts, hVF, hHF, hst, hlk, hd1, hd2, hRc, hRs, hd3⟩ := E
      refine W.objInit hx hb hown (hts _ hq1) (hts _ hq2) (hts _ hq3) rfl (by rw [hml]; exact hl.1) rfl hdg (by omega) ?_ (h.2 H locs loc lsv ha hcc hl (wd1 hv))
      have e8 : ((r.map (cv loc)).map fun v => v.category).sum ≤ 8 := by
        rw [List.map_map]
        simpa [Function.comp_def, cv_cat] using hst8
      show 2 * 0 + ((r.map (cv loc)).map fun v => v.category).sum + 12 ≤ R.locals
      omega
    · exact h.elim
  · exact h.elim
theorem so_mmin (E : ab_env p l R s m args meth c D cA nL loc0 m0 mf cc own d) {idx : Nat} (hq1 : Cond.methodLink own idx Lib.Math.min.name ∈ TB) (hq2 : Cond.static Lib.Math.min.name ∈ TB) (hq3 : Cond.initialized "java/lang/Math" ∈ TB) (hq4 : Cond.code Lib.Math.min.name Lib.Math.min.code 2 (some .int) ∈ TB) (hdg : decode cc pc = .ok (.invokestatic idx, 3)) (h : s_mmin (pc + 3) (ab_k p l e R s m args below meth c Q D cA nL loc0 m0 mf) Rr ls st mm) : ab_k p l e R s m args below meth c Q D cA nL loc0 m0 mf pc ls st mm := by
  unfold s_mmin at h
  split at h
  · next y x r =>
    split at h
    · next hst8 =>
      refine ⟨h.1, fun H locs loc lsv ha hcc hl hv => ?_⟩
      have hc1 := h.1
      obtain ⟨hx, hb, hml, hown, hts, hVF, hHF, hst, hlk, hd1, hd2, hRc, hRs, hd3⟩ := E
      refine va_mmin hx hb (by rw [hml]; exact hl.1.symm) hown (hts _ hq1) (hts _ hq2) (hts _ hq3) (hts _ hq4) (by omega) ?_ (by omega) (by omega) hdg (h.2 H locs loc lsv ha hcc hl (List.forall_mem_cons.mpr ⟨trivial, wd2 hv⟩))
      have e8 : ((r.map (cv loc)).map fun v => v.category).sum ≤ 8 := by
        rw [List.map_map]
        simpa [Function.comp_def, cv_cat] using hst8
      omega
    · exact h.elim
  · exact h.elim
theorem so_mmax (E : ab_env p l R s m args meth c D cA nL loc0 m0 mf cc own d) {idx : Nat} (hq1 : Cond.methodLink own idx Lib.Math.max.name ∈ TB) (hq2 : Cond.static Lib.Math.max.name ∈ TB) (hq3 : Cond.initialized "java/lang/Math" ∈ TB) (hq4 : Cond.code Lib.Math.max.name Lib.Math.max.code 2 (some .int) ∈ TB) (hdg : decode cc pc = .ok (.invokestatic idx, 3)) (h : s_mmax (pc + 3) (ab_k p l e R s m args below meth c Q D cA nL loc0 m0 mf) Rr ls st mm) : ab_k p l e R s m args below meth c Q D cA nL loc0 m0 mf pc ls st mm := by
  unfold s_mmax at h
  split at h
  · next y x r =>
    split at h
    · next hst8 =>
      refine ⟨h.1, fun H locs loc lsv ha hcc hl hv => ?_⟩
      have hc1 := h.1
      obtain ⟨hx, hb, hml, hown, hts, hVF, hHF, hst, hlk, hd1, hd2, hRc, hRs, hd3⟩ := E
      refine va_mmax hx hb (by rw [hml]; exact hl.1.symm) hown (hts _ hq1) (hts _ hq2) (hts _ hq3) (hts _ hq4) (by omega) ?_ (by omega) (by omega) hdg (h.2 H locs loc lsv ha hcc hl (List.forall_mem_cons.mpr ⟨trivial, wd2 hv⟩))
      have e8 : ((r.map (cv loc)).map fun v => v.category).sum ≤ 8 := by
        rw [List.map_map]
        simpa [Function.comp_def, cv_cat] using hst8
      omega
    · exact h.elim
  · exact h.elim
end SO
