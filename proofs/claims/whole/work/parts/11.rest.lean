/-! a nest mate's field; a store into Object[] -/
section SO
variable {p : Program} {l : Launch} {e : Env} {R : Room} {s : State} {m : MethodId} {args : Array Value} {below : List Frame} {meth : Method} {c : Code} {Q : State → Prop} {D : va_G} {cA : Nat → ClassId} {nL : Nat} {loc0 : Nat → Nat → Nat} {m0 mf : ab_M} {cc : ByteArray} {own : String} {d : Nat}
variable {pc : Nat} {ls : ab_L} {st : List ab_V} {mm : ab_M} {Rr : ab_R → Prop}

theorem so_getIN (E : ab_env p l R s m args meth c D cA nL loc0 m0 mf cc own d) {C : String} {T : u_T} {N ck k idx : Nat} {ref : String} (hcl : vwCl[ck]? = some (C, T, N)) (hN : NF ck = N) (hck : ck < 100) (hin : ∀ w ∈ u_ws C T N, w ∈ TB) (hk : k < N) (hF : FT ck k ≠ 2) {host : String} (hlink : ∀ s, VF D cA s → va_Nw (.fieldLinkNest own idx ref (T k).2.1 (T k).2.2.1 host) s) (hsame : ∀ x, s.fieldFound? (T k).1 (T k).2.1 (T k).2.2.1 = some x → s.fieldFound? ref (T k).2.1 (T k).2.2.1 = some x) (hdg : decode cc pc = .ok (.getfield idx, 3)) (h : s_getI ck k (pc + 3) (ab_k p l e R s m args below meth c Q D cA nL loc0 m0 mf) Rr ls st mm) : ab_k p l e R s m args below meth c Q D cA nL loc0 m0 mf pc ls st mm := by
  unfold s_getI at h
  split at h
  · next x r =>
    split at h
    · next hc =>
      refine ⟨h.1, fun H locs loc lsv ha hcc hl hv => ?_⟩
      have hx : x.2 < mc mm x.1 := hv _ List.mem_cons_self
      obtain ⟨q0, -, hq⟩ := aw_get (cA := cA) (loc := loc) ha.2.2.1 (sk_ge2 (by omega) (by omega)) hx
      rw [ab_ent_obj hc hck] at hq
      exact va_getN (v := .int (mi mm x.1 x.2 k)) E.1 E.2.1 E.2.2.2.2.1 hin E.2.2.2.1 E.2.2.2.2.2.1.1 ha.1 q0 hq hcl k hk (va_Nw.use rfl (hlink s E.2.2.2.2.2.1)) hsame (ab_fs_int (by rw [hN]; exact hk) hF) hdg (h.2 H locs loc lsv ha hcc hl (List.forall_mem_cons.mpr ⟨trivial, wd1 hv⟩))
    · exact h.elim
  · exact h.elim
theorem any_obj {H : Heap} {a : Nat} {cell : Cell} {C : String} (hVF : VF D cA s) (hC : (C, "java/lang/Object") ∈ CST) (h1 : H[a]? = some cell) (h2 : cell.vm = .none) (h3 : s.vm.findClass C = some cell.cls) : va_Any "java/lang/Object" s H a := by
  obtain ⟨c3, c4, g1, g2, g3⟩ := Cond.castable_spec (args := #[]) (va_Nw.use rfl (hVF.2.2.2.2.2.2.2.1 _ hC))
  cases Option.some.inj (g1.symm.trans h3)
  obtain ⟨k9, h9, -⟩ := Vm.findClass_spec h3
  exact ⟨cell, h1, by rw [h2]; rfl, ⟨k9, h9⟩, fun comp hcomp => by cases Option.some.inj (g2.symm.trans hcomp); exact g3⟩
theorem any_v {H : Heap} {locs : List Loc} {loc : Nat → Nat → Nat} {v : Nat × Nat} (hVF : VF D cA s) (ha : ab_at D cA s loc0 m0 loc mm H locs) (hv : v.2 < mc mm v.1) (hk : (SK v.1 = 9 ∨ SK v.1 = 10 ∨ SK v.1 = 100) ∧ 2 ≤ v.1) : va_Any "java/lang/Object" s H (loc v.1 v.2) := by
  obtain ⟨q0, -, hq⟩ := aw_get (cA := cA) (loc := loc) ha.2.2.1 hk.2 hv
  rcases hk.1 with h | h | h
  · rw [ab_ent_obj h (by omega)] at hq
    obtain ⟨r, h1, cell, q1, q2, q3, q4⟩ := ha.1 q0 _ hq
    cases h1
    exact any_obj (C := "IemotohallModel$Person") hVF (by decide +kernel) q1 q3 (by rw [q2]; exact (hVF.1.1 9 _ rfl).2.1)
  · rw [ab_ent_obj h (by omega)] at hq
    obtain ⟨r, h1, cell, q1, q2, q3, q4⟩ := ha.1 q0 _ hq
    cases h1
    exact any_obj (C := "IemotohallModel$Utensil") hVF (by decide +kernel) q1 q3 (by rw [q2]; exact (hVF.1.1 10 _ rfl).2.1)
  · rw [ab_ent_i h (by omega) (by omega)] at hq
    exact any_obj (C := "[I") hVF (by decide +kernel) (ha.1 q0 _ hq) rfl (hVF.1.2 0 _ rfl).2
theorem so_aast (E : ab_env p l R s m args meth c D cA nL loc0 m0 mf cc own d) (hdg : decode cc pc = .ok (.aastore, 1)) (h : s_aast (pc + 1) (ab_k p l e R s m args below meth c Q D cA nL loc0 m0 mf) Rr ls st mm) : ab_k p l e R s m args below meth c Q D cA nL loc0 m0 mf pc ls st mm := by
  unfold s_aast at h
  split at h
  · next v j x r =>
    obtain ⟨hc, hj, h⟩ := h
    refine ⟨h.1, fun H locs loc lsv ha hcc hl hv => ?_⟩
    have hx : x.2 < mc mm x.1 := wd2 hv _ List.mem_cons_self
    have hv9 : v.2 < mc mm v.1 := hv _ List.mem_cons_self
    obtain ⟨q0, hq0, hq⟩ := aw_get (cA := cA) (loc := loc) ha.2.2.1 hc.2.1 hx
    rw [ab_ent_q hc.1 (by omega)] at hq
    have hlt : j.toNatClampNeg < mn mm x.1 x.2 := Nat.not_le.mp fun q => hj (Or.inr q)
    have hj0 : ¬ j < 0 := fun q => hj (Or.inl q)
    obtain ⟨cellV, g1, g3, ⟨kC, hkC⟩, hasg⟩ := any_v E.2.2.2.2.2.1 ha hv9 hc.2.2
    obtain ⟨kA, comp, k1, k2, k3, -⟩ := (E.2.2.2.2.2.1.1.2 4 _ rfl).2
    obtain ⟨kE, hkE, -⟩ := Vm.findClass_spec k3
    refine W.aast E.1 E.2.1 (ha.1 q0 _ hq) (fun q h => by cases h) (fun h => by cases h) k1 k2 rfl hkE ⟨hj0, by show _ < (arrV _ _ _).slots.size; rw [arrV_size]; exact hlt⟩ g1 (fun q h => by rw [h] at g3; cases g3) hkC (hasg _ k3) rfl rfl hdg fun H1 e1 z oq => ?_
    refine h.2 H1 _ loc lsv (ha.set hq0 hc.2.1 rfl rfl (wfM_sR ha.2.2.1 x.1 x.2 _ (fun y hy => by cases hy; exact hv9)) (fun u j _ hn => ent_sR hn) ?_ z oq) hcc (hl.mem (fun _ _ hi => ⟨hi, rfl⟩)) (wd3 hv)
    rw [ab_ent_q hc.1 (by omega)]
    show H1[loc x.1 x.2]? = some (vp_cell _ _)
    rw [e1, vp_cell_q, vp_cell_q, arrV_store]
    congr 2
    funext q
    by_cases hq9 : q = j.toNatClampNeg
    · subst hq9
      simp [updV, u3, mr_sR, va_rf]
    · simp [updV, u3, mr_sR, hq9]
  · exact h.elim
end SO
