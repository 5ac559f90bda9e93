/-! new int[a][b] -/
section MNA
variable {p : Program} {l : Launch} {e : Env} {R : Room} {s : State} {m : MethodId} {args : Array Value} {below : List Frame} {meth : Method} {c : Code} {H : Heap} {locs : List Loc} {cells slots : Nat} {Q : State → Prop}
variable {cc : ByteArray} {pc : Nat} {ls : Array Slot} {rest : List Value}
theorem mna0 (hexec : p.tables.exec = Jvm.exec) (hb : c.code = cc) {own : String} {index : Nat} {ty : FieldType} {cy : ClassId} (hown : s.vm.findClass own = some m.cls) (hclink : (Cond.classLink own index ("[" ++ (FieldType.array ty).toString)).before args s = true) (hover : va_AOA ty s) (harr : (Cond.arrayClass ty).before args s = true) (hcy : s.vm.findClass (FieldType.array ty).toString = some cy)
    {n k : Int32} {N' K' : Nat} {z : vp_A} (hn : ¬ n < 0) (hk : ¬ k < 0) (hN : n.toNatClampNeg = N') (hM : k.toNatClampNeg = K')
    (hb1 : N' * 4 ≤ 536870912) (hb2 : K' * componentBytes ty ≤ 536870912) (hb3 : K' ≤ 536870912) (hdf : fits ty (defaultValue ty) = true) (hdd : (defaultValue ty).isDefault = true) (hcells : cells + (1 + N') ≤ R.cells) (hslots : slots + (N' + N' * K') ≤ R.slots) (hz : ∀ c : ClassId, Jvm.Free.Multi.innerC c K' (defaultValue ty) = vp_cell c z) (hdg : decode cc pc = .ok (.multianewarray index 2, 4))
    (kk : ∀ (cA1 : ClassId) (H1 : Heap), va_RA s cA1 (.array ty) → H1.size = H.size + 1 + N' → (∀ x : Nat, x < H.size → H1[x]? = H[x]?) → H1[H.size]? = some (vp_cell cA1 (N', .inr (.inr (.inr (.inr (fun i => if i < N' then some (H.size + 1 + i) else none)))))) → (∀ j : Nat, j < N' → H1[H.size + 1 + j]? = some (vp_cell cy z)) →
      W p l e R s m args below meth c H1 locs (cells + 1 + N') (slots + N' + N' * K') Q (F0 m (pc + 4) ls (.ref H.size :: rest))) : W p l e R s m args below meth c H locs cells slots Q (F0 m pc ls (.int k :: .int n :: rest)) := by
  subst hN
  subst hM
  intro T hT Xs
  have hover2 : (Cond.arrayOver (.array ty)).before args s = true := hover
  obtain ⟨vm₁, cA, comp, -, fA, fC, hO, -, X', step⟩ := Xs.multianewarray2F hexec hown hclink hover2 harr (g := F0 m pc ls (.int k :: .int n :: rest)) rfl (by rw [hb]; exact hdg) rfl hn hk hb1 hb2 hb3 hdf hdd hcells hslots
  have ec : some cy = some comp := hcy.symm.trans fC
  cases ec
  generalize hF : Jvm.Free.Multi.fill (T.setVm vm₁) cA cy n.toNatClampNeg k.toNatClampNeg (defaultValue ty) n.toNatClampNeg = F at X' step
  have hTh : (T.setVm vm₁).heap = H := hT
  obtain ⟨f1, f2, -, -⟩ := Jvm.Free.Multi.fill_facts (T.setVm vm₁) cA cy n.toNatClampNeg k.toNatClampNeg (defaultValue ty) n.toNatClampNeg
  rw [hF, hTh] at f1 f2
  have hold : ∀ x : Nat, x < H.size → F.heap[x]? = H[x]? := fun x hx => by
    have := Jvm.Free.Multi.fill_old (T.setVm vm₁) cA cy n.toNatClampNeg k.toNatClampNeg (defaultValue ty) (a := x) (by rw [hTh]; exact hx) n.toNatClampNeg
    rw [hF, hTh] at this
    exact this
  have hrow : ∀ j : Nat, j < n.toNatClampNeg → F.heap[H.size + 1 + j]? = some (vp_cell cy z) := fun j hj => by
    have := Jvm.Free.Multi.fill_inner (T.setVm vm₁) cA cy n.toNatClampNeg k.toNatClampNeg (defaultValue ty) n.toNatClampNeg j hj
    rw [hF, hTh, hz] at this
    exact this
  have hout : Jvm.Free.Multi.outerC cA n.toNatClampNeg H.size n.toNatClampNeg = vp_cell cA (n.toNatClampNeg, .inr (.inr (.inr (.inr (fun i => if i < n.toNatClampNeg then some (H.size + 1 + i) else none))))) := by
    rw [vp_cell_q]
    exact vr_outer cA n.toNatClampNeg H.size n.toNatClampNeg
  rw [hout] at f2
  obtain ⟨t, a1, b1⟩ := kk cA F.heap fA (by rw [f1]) hold f2 hrow F rfl X'
  refine ⟨t, step t ?_, b1⟩
  have e : T.heap.size = H.size := by rw [hT]
  rw [e]
  exact a1
end MNA
theorem mo_f (m : ab_M) (t s c : Nat) : ∀ a, mc (mkO m t s c a) = mc m ∧ mnc (mkO m t s c a) = mnc m ∧ mns (mkO m t s c a) = mns m ∧ mi (mkO m t s c a) = mi m ∧ mn (mkO m t s c a) = mn m ∧ ml (mkO m t s c a) = ml m ∧ md (mkO m t s c a) = md m ∧ mdm (mkO m t s c a) = mdm m
  | 0 => ⟨rfl, rfl, rfl, rfl, rfl, rfl, rfl, rfl⟩
  | a + 1 => mo_f m t s c a
theorem mo_r (m : ab_M) (t s c : Nat) : ∀ a x y z, mr (mkO m t s c a) x y z = if x = t ∧ y = mc m t - 1 ∧ z < a then some (s, c + z) else mr m x y z
  | 0, x, y, z => by rw [if_neg (by omega)]; rfl
  | a + 1, x, y, z => by
    show u3 (mr (mkO m t s c a)) t (mc m t - 1) a (some (s, c + a)) x y z = _
    unfold u3
    rw [mo_r m t s c a]
    by_cases h1 : x = t ∧ y = mc m t - 1 ∧ z = a
    · rw [if_pos h1, if_pos ⟨h1.1, h1.2.1, by omega⟩, h1.2.2]
    · rw [if_neg h1]
      by_cases h2 : x = t ∧ y = mc m t - 1 ∧ z < a
      · rw [if_pos h2, if_pos ⟨h2.1, h2.2.1, by omega⟩]
      · rw [if_neg h2, if_neg (fun h => h2 ⟨h.1, h.2.1, by
          have : z ≠ a := fun e => h1 ⟨h.1, h.2.1, e⟩
          omega⟩)]
theorem m2_f (m : ab_M) (s b : Nat) : ∀ a, (∀ x, mc (mk2 m s b a) x = if x = s then mc m s + a else mc m x) ∧ mnc (mk2 m s b a) = mnc m + a ∧ mns (mk2 m s b a) = mns m + a * b
  | 0 => ⟨fun x => by by_cases e : x = s <;> simp [mk2, e], rfl, by simp [mk2]⟩
  | a + 1 => by
    have ih := m2_f m s b a
    refine ⟨fun x => ?_, ?_, ?_⟩
    · show mc (al (mk2 m s b a) s b b) x = _
      rw [mc_al]
      unfold u1
      rw [ih.1 x, ih.1 s]
      by_cases e : x = s
      · simp [e]; omega
      · simp [e]
    · show mnc (al (mk2 m s b a) s b b) = _
      rw [mnc_al, ih.2.1]; omega
    · show mns (al (mk2 m s b a) s b b) = _
      rw [mns_al, ih.2.2, Nat.succ_mul]; omega
/-- the rows -/
theorem ab_rows {D : va_G} {cA : Nat → ClassId} {s : State} {loc0 : Nat → Nat → Nat} {m0 : ab_M} {loc : Nat → Nat → Nat} {m : ab_M} {F : Heap} {locs : List Loc} {sz : Nat} (h : ab_at D cA s loc0 m0 loc m F locs) {t b : Nat} (hkt : SK t = 100) (ht : 2 ≤ t) (hsz : s.heap.size ≤ sz) (hlt : ∀ u i, i < mc m u → loc u i < sz) : ∀ a : Nat, (∀ j : Nat, j < a → F[sz + 1 + j]? = some (vp_cell (cA 100) (b, .inl (fun _ => 0)))) →
    ∃ loc2 : Nat → Nat → Nat, ab_at D cA s loc0 m0 loc2 (mk2 m t b a) F locs ∧ (∀ u i, i < mc m u → loc2 u i = loc u i) ∧ ∀ j, j < a → loc2 t (mc m t + j) = sz + 1 + j
  | 0, _ => ⟨loc, h, fun _ _ _ => rfl, fun j hj => by omega⟩
  | a + 1, hF => by
    obtain ⟨loc2, h1, h2, h3⟩ := ab_rows h hkt ht hsz hlt a (fun j hj => hF j (by omega))
    have f := m2_f m t b a
    have ft : mc (mk2 m t b a) t = mc m t + a := by rw [f.1]; simp
    have hw := h1.2.2.1
    refine ⟨lo1 loc2 t (mc (mk2 m t b a) t) (sz + 1 + a), h1.pushG (m2 := al (mk2 m t b a) t b b) ht rfl rfl (wfM_al hw t b b ht) (fun u j hj => ?_) (fun u i hi => ?_) (by omega) ?_, fun u i hi => ?_, fun j hj => ?_⟩
    · have hne : ¬ (u = t ∧ j = mc (mk2 m t b a) t) := by rintro ⟨rfl, rfl⟩; omega
      exact ab_ent_cong (fun k => by rw [mi_al]; simp [u2, hne]) (fun k => by rw [mr_al]; simp only [u2, hne, if_false]; exact map_lo1 (fun x h => hw.2 u j k x hj h)) (fun k => by rw [ml_al]; simp [u2, hne]) (fun k => by rw [md_al]; simp [u2, hne]) (by rw [mn_al]; simp [u2, hne])
    · rw [f.1] at hi
      by_cases e : u = t
      · subst e
        rw [if_pos rfl] at hi
        by_cases e2 : i < mc m u
        · rw [h2 u i e2]; have := hlt u i e2; omega
        · have := h3 (i - mc m u) (by omega)
          rw [show mc m u + (i - mc m u) = i by omega] at this
          omega
      · rw [if_neg e] at hi
        rw [h2 u i hi]; have := hlt u i hi; omega
    · rw [ab_ent_i hkt (by omega) (by omega), mn_al, mi_al]
      show F[sz + 1 + a]? = some (vp_cell _ _)
      rw [hF a (by omega)]
      simp [u2]
    · have hi2 : i < mc (mk2 m t b a) u := by
        rw [f.1]
        by_cases e : u = t
        · rw [if_pos e]; rw [e] at hi; omega
        · rw [if_neg e]; exact hi
      rw [lo1_old hi2]; exact h2 u i hi
    · by_cases e : j = a
      · subst e
        rw [ft, lo1_self]
      · have hi2 : mc m t + j < mc (mk2 m t b a) t := by rw [ft]; omega
        rw [lo1_old hi2]; exact h3 j (by omega)
section SO
variable {p : Program} {l : Launch} {e : Env} {R : Room} {s : State} {m : MethodId} {args : Array Value} {below : List Frame} {meth : Method} {c : Code} {Q : State → Prop} {D : va_G} {cA : Nat → ClassId} {nL : Nat} {loc0 : Nat → Nat → Nat} {m0 mf : ab_M} {cc : ByteArray} {own : String} {d : Nat}
variable {pc : Nat} {ls : ab_L} {st : List ab_V} {mm : ab_M} {Rr : ab_R → Prop}
theorem so_multi (E : ab_env p l R s m args meth c D cA nL loc0 m0 mf cc own d) {t s9 idx : Nat} (hkt : SK t = 105) (hks : SK s9 = 100) (hq1 : Cond.classLink own idx "[[I" ∈ TB) (hq2 : Cond.arrayClass .int ∈ TB) (hdg : decode cc pc = .ok (.multianewarray idx 2, 4)) (h : s_multi t s9 (pc + 4) (ab_k p l e R s m args below meth c Q D cA nL loc0 m0 mf) Rr ls st mm) : ab_k p l e R s m args below meth c Q D cA nL loc0 m0 mf pc ls st mm := by
  unfold s_multi at h
  split at h
  · next b a r =>
    split at h
    · next hc =>
      obtain ⟨-, -, c3, c4, c5, c6, c7, c8, c9⟩ := hc
      have hE := E
      obtain ⟨hx, hb, hml, hown, hts, hVF, hHF, hst, hlk, hd1, hd2, hRc, hRs, hd3⟩ := E
      generalize hA : a.toNatClampNeg = A at *
      generalize hB : b.toNatClampNeg = B at *
      have f2 := m2_f mm s9 B A
      have fo := mo_f (al (mk2 mm s9 B A) t A A) t s9 (mc mm s9) A
      have ec : mnc (mkO (al (mk2 mm s9 B A) t A A) t s9 (mc mm s9) A) = mnc mm + A + 1 := by rw [fo.2.1, mnc_al, f2.2.1]
      have es : mns (mkO (al (mk2 mm s9 B A) t A A) t s9 (mc mm s9) A) = mns mm + A * B + A := by rw [fo.2.2.1, mns_al, f2.2.2]
      have h1 := h.1
      rw [ec, es] at h1
      refine ⟨⟨by omega, by omega⟩, fun H locs loc lsv ha hcc hl hv => ?_⟩
      have hA100 : A * 4 ≤ 536870912 := by omega
      refine mna0 (ty := .int) (cy := cA 100) (N' := A) (K' := B) (z := (B, .inl (fun _ => 0))) hx hb hown (hts _ hq1) hVF.2.2.1.1 (hts _ hq2) (hVF.1.2 0 _ rfl).2 c6 c7 hA hB hA100 (by show B * 4 ≤ _; omega) (by omega) rfl rfl (by omega) (by omega) (fun c => ?_) hdg (fun cA1 H1 hRA z1 o1 e1 e2 => ?_)
      · rw [vp_cell_i]
        show ({ cls := c, slots := Array.replicate B (.int 0), vm := .none } : Cell) = _
        rw [arrV_new]
      · have hcA : cA1 = cA 105 := Option.some.inj ((show s.vm.findClass ("[" ++ (FieldType.array .int).toString) = some cA1 from hRA).symm.trans (hVF.1.2 5 _ rfl).2)
        subst hcA
        have hlt : ∀ u i, i < mc mm u → loc u i < H.size := fun u i hi => ha.lt hi
        have hsz : s.heap.size ≤ H.size := ha.2.2.2.1.1
        have ha1 : ab_at D cA s loc0 m0 loc mm H1 locs := ha.grow (by omega) o1 0 0
        obtain ⟨loc2, g1, g2, g3⟩ := ab_rows ha1 hks c4 hsz hlt A e2
        have mt : mc (mk2 mm s9 B A) t = mc mm t := by rw [f2.1, if_neg c5]
        have hw := g1.2.2.1
        have hwa := wfM_al hw t A A c3
        have mt2 : mc (al (mk2 mm s9 B A) t A A) t = mc mm t + 1 := by
          rw [mc_al]; unfold u1
          rw [if_pos rfl, mt]
        have ms2 : mc (mk2 mm s9 B A) s9 = mc mm s9 + A := by rw [f2.1, if_pos rfl]
        have er : ∀ x y z, mr (mkO (al (mk2 mm s9 B A) t A A) t s9 (mc mm s9) A) x y z = if x = t ∧ y = mc mm t ∧ z < A then some (s9, mc mm s9 + z) else mr (al (mk2 mm s9 B A) t A A) x y z := fun x y z => by
          rw [mo_r, mt2]; rfl
        have hup : ∀ u i, i < mc mm u → i < mc (mk2 mm s9 B A) u := fun u i hi => by
          rw [f2.1]
          by_cases e : u = s9
          · rw [if_pos e]; rw [e] at hi; omega
          · rw [if_neg e]; exact hi
        have hw2 : wfM (mkO (al (mk2 mm s9 B A) t A A) t s9 (mc mm s9) A) := by
          refine ⟨fun x => by rw [fo.2.2.2.2.2.2.2, fo.1]; exact hwa.1 x, fun u i k x hi hx => ?_⟩
          rw [fo.1] at hi ⊢
          rw [er] at hx
          split at hx
          · next w =>
            cases hx
            show mc mm s9 + k < mc (al (mk2 mm s9 B A) t A A) s9
            rw [mc_al]; unfold u1
            rw [if_neg (Ne.symm c5), ms2]; omega
          · exact hwa.2 u i k x hi hx
        have g := g1.pushG (t := t) (q := H.size) (m2 := mkO (al (mk2 mm s9 B A) t A A) t s9 (mc mm s9) A) c3 (by rw [fo.2.2.2.2.2.2.2]; rfl) (by rw [fo.1]; rfl) hw2 (fun u j hj => by
          have hne : ¬ (u = t ∧ j = mc (mk2 mm s9 B A) t) := by rintro ⟨rfl, rfl⟩; omega
          have hne2 : ∀ k, ¬ (u = t ∧ j = mc mm t ∧ k < A) := fun k w => hne ⟨w.1, by rw [mt]; exact w.2.1⟩
          exact ab_ent_cong (fun k => by rw [fo.2.2.2.1, mi_al]; simp [u2, hne]) (fun k => by rw [er, if_neg (hne2 k), mr_al]; simp only [u2, hne, if_false]; exact map_lo1 (fun x h => hw.2 u j k x hj h)) (fun k => by rw [fo.2.2.2.2.2.1, ml_al]; simp [u2, hne]) (fun k => by rw [fo.2.2.2.2.2.2.1, md_al]; simp [u2, hne]) (by rw [fo.2.2.2.2.1, mn_al]; simp [u2, hne])) (fun u i hi => by
          by_cases e2 : i < mc mm u
          · rw [g2 u i e2]; have := hlt u i e2; omega
          · rw [f2.1] at hi
            by_cases e : u = s9
            · subst e
              rw [if_pos rfl] at hi
              have := g3 (i - mc mm u) (by omega)
              rw [show mc mm u + (i - mc mm u) = i by omega] at this
              omega
            · rw [if_neg e] at hi; exact absurd hi e2) hsz (by
          rw [ab_ent_q hkt (by omega)]
          show H1[H.size]? = some (vp_cell _ _)
          rw [e1]
          have en : mn (mkO (al (mk2 mm s9 B A) t A A) t s9 (mc mm s9) A) t (mc (mk2 mm s9 B A) t) = A := by rw [fo.2.2.2.2.1, mn_al]; simp [u2]
          rw [en]
          refine congrArg (fun z => some (vp_cell (cA 105) (A, .inr (.inr (.inr (.inr z)))))) (funext fun k => ?_)
          rw [er, mr_al]
          by_cases hk : k < A
          · rw [if_pos hk, if_pos ⟨rfl, mt, hk⟩, Option.map_some, lo1_old (show mc mm s9 + k < mc (mk2 mm s9 B A) s9 by rw [ms2]; omega), g3 k hk]
          · rw [if_neg hk, if_neg (fun w => hk w.2.2)]; simp [u2])
        have hgr : ∀ u i, i < mc mm u → i < mc (mkO (al (mk2 mm s9 B A) t A A) t s9 (mc mm s9) A) u ∧ lo1 loc2 t (mc (mk2 mm s9 B A) t) H.size u i = loc u i := fun u i hi => by
          have h2 := hup u i hi
          refine ⟨?_, by rw [lo1_old h2]; exact g2 u i hi⟩
          rw [fo.1, mc_al]; unfold u1
          by_cases e : u = t
          · rw [if_pos e]; rw [e] at h2; omega
          · rw [if_neg e]; exact h2
        have hself : wfV (mkO (al (mk2 mm s9 B A) t A A) t s9 (mc mm s9) A) (vA t (mc mm t)) := by
          show mc mm t < mc (mkO (al (mk2 mm s9 B A) t A A) t s9 (mc mm s9) A) t
          rw [fo.1, mt2]; omega
        obtain ⟨e4, e5⟩ := cvs_mem hgr (wd2 hv)
        have k := h.2 H1 locs _ lsv g ⟨by omega, by omega⟩ (hl.mem hgr) (List.forall_mem_cons.mpr ⟨hself, e5⟩)
        rw [List.map_cons, e4] at k
        have e3 : cv (lo1 loc2 t (mc (mk2 mm s9 B A) t) H.size) (vA t (mc mm t)) = .ref H.size := by
          show Value.ref (lo1 loc2 t (mc (mk2 mm s9 B A) t) H.size t (mc mm t)) = _
          rw [← mt, lo1_self]
        rw [e3] at k
        exact W.cs (by rw [ec]; omega) (by rw [es]; omega) k
    · exact h.elim
  · exact h.elim
end SO
