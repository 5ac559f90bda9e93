/-! What the abstract memory says of the heap -/
def cv (loc : Nat → Nat → Nat) (v : ab_V) : Value := match v with
  | .inl x => .int x
  | .inr (.inl x) => .long x
  | .inr (.inr (.inl x)) => .double x
  | .inr (.inr (.inr (.inl r))) => va_rf (r.map (fun x => loc x.1 x.2))
  | .inr (.inr (.inr (.inr a))) => .ref a
def wfV (m : ab_M) (v : ab_V) : Prop := match v with
  | .inr (.inr (.inr (.inl (some x)))) => x.2 < mc m x.1
  | _ => True
def wfM (m : ab_M) : Prop := (∀ x : Nat × Nat, x ∈ mdm m ↔ (2 ≤ x.1 ∧ x.2 < mc m x.1)) ∧ ∀ (s i k : Nat) (x : Nat × Nat), i < mc m s → mr m s i k = some x → x.2 < mc m x.1
/-- the fields of an object, as values -/
def ab_fs (loc : Nat → Nat → Nat) (m : ab_M) (c N s i : Nat) : List Value := (List.range N).map (fun k => if FT c k = 2 then va_rf ((mr m s i k).map (fun x => loc x.1 x.2)) else .int (mi m s i k))
def ab_ent (cA : Nat → ClassId) (loc : Nat → Nat → Nat) (m : ab_M) (s i : Nat) : va_E :=
  if SK s < 100 then .inr (SK s, ab_fs loc m (SK s) (NF (SK s)) s i)
  else if SK s < 102 then .inl (cA (SK s), mn m s i, .inl (fun k => mi m s i k))
  else if SK s = 102 then .inl (cA (SK s), mn m s i, .inr (.inl (fun k => ml m s i k)))
  else if SK s = 103 then .inl (cA (SK s), mn m s i, .inr (.inr (.inr (.inl (fun k => md m s i k)))))
  else .inl (cA (SK s), mn m s i, .inr (.inr (.inr (.inr (fun k => (mr m s i k).map (fun x => loc x.1 x.2))))))
def aw (cA : Nat → ClassId) (loc : Nat → Nat → Nat) (m : ab_M) : va_W := (mdm m).map (fun x => (loc x.1 x.2, ab_ent cA loc m x.1 x.2))
theorem aw_get {cA : Nat → ClassId} {loc : Nat → Nat → Nat} {m : ab_M} (hw : wfM m) {s i : Nat} (h2 : 2 ≤ s) (h : i < mc m s) : ∃ q0 : Nat, (mdm m)[q0]? = some (s, i) ∧ (aw cA loc m)[q0]? = some (loc s i, ab_ent cA loc m s i) := by
  obtain ⟨q0, hq⟩ := List.getElem?_of_mem ((hw.1 (s, i)).mpr ⟨h2, h⟩)
  exact ⟨q0, hq, by unfold aw; rw [List.getElem?_map, hq]; rfl⟩
/-- the script's cells, the empty array's: of these not all is known -/
def ab_lo (cA : Nat → ClassId) (loc : Nat → Nat → Nat) (m : ab_M) (H : Heap) : Prop :=
  (∀ i, i < mc m 0 → ∃ cell : Cell, H[loc 0 i]? = some cell ∧ cell.cls = cA 201 ∧ (cell.vm ≠ .unknown ∧ cell.vm.isStatics = false) ∧ cell.slots.size = mn m 0 i ∧ ∀ j, j < mn m 0 i → cell.slots[j]? = some (.int (mi m 0 i j))) ∧
  (∀ i, i < mc m 1 → mn m 1 i = 0 ∧ ∃ cell : Cell, H[loc 1 i]? = some cell ∧ cell.cls = cA 104 ∧ (cell.vm ≠ .unknown ∧ cell.vm.isStatics = false) ∧ cell.slots.size = 0) ∧
  ∀ t i u j, t < 2 → i < mc m t → j < mc m u → loc t i = loc u j → t = u ∧ i = j
def ab_D (cA : Nat → ClassId) (loc : Nat → Nat → Nat) (m : ab_M) (H : Heap) : Prop := va_D (fun _ => True) (aw cA loc m) ∧ ab_lo cA loc m H
theorem lo_lt {cA : Nat → ClassId} {loc : Nat → Nat → Nat} {m : ab_M} {H : Heap} (h : ab_lo cA loc m H) {t i : Nat} (ht : t < 2) (hi : i < mc m t) : loc t i < H.size := by
  rcases (show t = 0 ∨ t = 1 by omega) with rfl | rfl
  · obtain ⟨cell, h1, -⟩ := h.1 i hi
    exact (Array.getElem?_eq_some_iff.mp h1).1
  · obtain ⟨-, cell, h1, -⟩ := h.2.1 i hi
    exact (Array.getElem?_eq_some_iff.mp h1).1
theorem ent_0 {cA : Nat → ClassId} {loc loc' : Nat → Nat → Nat} {m m' : ab_M} {i : Nat} (h : ab_ent cA loc' m' 0 i = ab_ent cA loc m 0 i) : mn m' 0 i = mn m 0 i ∧ ∀ k, mi m' 0 i k = mi m 0 i k := by
  unfold ab_ent at h
  rw [SK_0, if_neg (by omega), if_pos (by omega), if_neg (by omega), if_pos (by omega)] at h
  injection h with h1
  injection h1 with h2 h3
  injection h3 with h4 h5
  injection h5 with h6
  exact ⟨h4, fun k => congrFun h6 k⟩
theorem ent_1 {cA : Nat → ClassId} {loc loc' : Nat → Nat → Nat} {m m' : ab_M} {i : Nat} (h : ab_ent cA loc' m' 1 i = ab_ent cA loc m 1 i) : mn m' 1 i = mn m 1 i := by
  unfold ab_ent at h
  rw [SK_1, if_neg (by omega), if_neg (by omega), if_neg (by omega), if_neg (by omega), if_neg (by omega), if_neg (by omega), if_neg (by omega), if_neg (by omega)] at h
  injection h with h1
  injection h1 with h2 h3
  injection h3 with h4 h5
/-- .. behind a change of the memory and the heap that leaves them alone -/
theorem lo_of {cA : Nat → ClassId} {loc loc' : Nat → Nat → Nat} {m m' : ab_M} {H H1 : Heap} (h : ab_lo cA loc m H) (h0 : mc m' 0 = mc m 0) (h1 : mc m' 1 = mc m 1) (hl : ∀ t i, t < 2 → i < mc m t → loc' t i = loc t i) (he : ∀ t i, t < 2 → i < mc m t → ab_ent cA loc' m' t i = ab_ent cA loc m t i) (hq : ∀ t i, t < 2 → i < mc m t → H1[loc t i]? = H[loc t i]?) (hx : ∀ t i u j, t < 2 → i < mc m t → j < mc m' u → loc' t i = loc' u j → t = u ∧ i = j) : ab_lo cA loc' m' H1 := by
  refine ⟨fun i hi => ?_, fun i hi => ?_, fun t i u j ht hi hj e => ?_⟩
  · rw [h0] at hi
    obtain ⟨cell, c1, c2, c3, c4, c5⟩ := h.1 i hi
    obtain ⟨e1, e2⟩ := ent_0 (he 0 i (by omega) hi)
    refine ⟨cell, by rw [hl 0 i (by omega) hi, hq 0 i (by omega) hi]; exact c1, c2, c3, by rw [e1]; exact c4, fun j hj => ?_⟩
    rw [e1] at hj
    rw [e2]
    exact c5 j hj
  · rw [h1] at hi
    obtain ⟨z, cell, c1, c2, c3, c4⟩ := h.2.1 i hi
    exact ⟨(ent_1 (he 1 i (by omega) hi)).trans z, cell, by rw [hl 1 i (by omega) hi, hq 1 i (by omega) hi]; exact c1, c2, c3, c4⟩
  · refine hx t i u j ht ?_ hj e
    rcases (show t = 0 ∨ t = 1 by omega) with rfl | rfl
    · rw [← h0]; exact hi
    · rw [← h1]; exact hi
theorem sk_ge2 {t : Nat} (h : SK t ≠ 100) (h' : SK t ≠ 104) : 2 ≤ t := by
  rcases Nat.lt_or_ge t 2 with q | q
  · rcases (show t = 0 ∨ t = 1 by omega) with rfl | rfl
    · exact absurd SK_0 h
    · exact absurd SK_1 h'
  · exact q
/-- where a cell changes: the world with that entry -/
theorem aw_set {cA : Nat → ClassId} {A : Nat → Prop} {loc : Nat → Nat → Nat} {m m' : ab_M} (hw : wfM m) (hD : va_D A (aw cA loc m)) {s i q0 : Nat} {e : va_E} (hq : (mdm m)[q0]? = some (s, i))
    (hdm : mdm m' = mdm m) (he : ab_ent cA loc m' s i = e) (ho : ∀ t j, j < mc m t → ¬ (t = s ∧ j = i) → ab_ent cA loc m' t j = ab_ent cA loc m t j) : (aw cA loc m).set q0 (loc s i, e) = aw cA loc m' := by
  have hl : q0 < (mdm m).length := (List.getElem?_eq_some_iff.mp hq).1
  apply List.ext_getElem?
  intro j
  by_cases hj : j = q0
  · subst hj
    rw [List.getElem?_set_self (by unfold aw; rw [List.length_map]; exact hl)]
    unfold aw
    rw [hdm, List.getElem?_map, hq]
    show some (loc s i, e) = some (loc s i, ab_ent cA loc m' s i)
    rw [he]
  · rw [List.getElem?_set_ne (Ne.symm hj)]
    unfold aw
    rw [hdm, List.getElem?_map, List.getElem?_map]
    cases hx : (mdm m)[j]? with
    | none => rfl
    | some x =>
      obtain ⟨t, k⟩ := x
      show some (loc t k, ab_ent cA loc m t k) = some (loc t k, ab_ent cA loc m' t k)
      have hk : k < mc m t := ((hw.1 (t, k)).mp (List.mem_of_getElem? hx)).2
      rw [ho t k hk ?_]
      rintro ⟨rfl, rfl⟩
      refine hj (hD.1 j q0 (loc t k, ab_ent cA loc m t k) (loc t k, ab_ent cA loc m t k) ?_ ?_ rfl)
      · unfold aw; rw [List.getElem?_map, hx]; rfl
      · unfold aw; rw [List.getElem?_map, hq]; rfl
/-- a new cell at the address q -/
def lo1 (loc : Nat → Nat → Nat) (s i q : Nat) : Nat → Nat → Nat := fun a b => if a = s ∧ b = i then q else loc a b
theorem lo1_self (loc : Nat → Nat → Nat) (s i q : Nat) : lo1 loc s i q s i = q := by simp [lo1]
theorem lo1_old {loc : Nat → Nat → Nat} {m : ab_M} {s q t j : Nat} (h : j < mc m t) : lo1 loc s (mc m s) q t j = loc t j := by
  unfold lo1
  rw [if_neg]
  rintro ⟨rfl, rfl⟩
  omega
theorem map_lo1 {loc : Nat → Nat → Nat} {m : ab_M} {s q : Nat} {r : Option (Nat × Nat)} (h : ∀ x, r = some x → x.2 < mc m x.1) : r.map (fun x => lo1 loc s (mc m s) q x.1 x.2) = r.map (fun x => loc x.1 x.2) := by
  cases r with
  | none => rfl
  | some x => simp only [Option.map_some]; rw [lo1_old (h x rfl)]
theorem ab_fs_cong {loc loc' : Nat → Nat → Nat} {m m' : ab_M} {c N s i : Nat} (h1 : ∀ k, mi m' s i k = mi m s i k) (h2 : ∀ k, (mr m' s i k).map (fun x => loc' x.1 x.2) = (mr m s i k).map (fun x => loc x.1 x.2)) : ab_fs loc' m' c N s i = ab_fs loc m c N s i := by
  unfold ab_fs
  apply List.map_congr_left
  intro k _
  rw [h1, h2]
theorem ab_ent_cong {cA : Nat → ClassId} {loc loc' : Nat → Nat → Nat} {m m' : ab_M} {s i : Nat} (h1 : ∀ k, mi m' s i k = mi m s i k) (h2 : ∀ k, (mr m' s i k).map (fun x => loc' x.1 x.2) = (mr m s i k).map (fun x => loc x.1 x.2)) (h3 : ∀ k, ml m' s i k = ml m s i k) (h4 : ∀ k, md m' s i k = md m s i k) (h5 : mn m' s i = mn m s i) : ab_ent cA loc' m' s i = ab_ent cA loc m s i := by
  unfold ab_ent
  rw [ab_fs_cong h1 h2, h5]
  simp only [h1, h2, h3, h4]
theorem wfM_al {m : ab_M} (hw : wfM m) (s L w : Nat) (h2 : 2 ≤ s) : wfM (al m s L w) := by
  refine ⟨fun x => ?_, fun t i k x hi hx => ?_⟩
  · rw [mdm_al, mc_al, List.mem_append, List.mem_singleton, hw.1 x]
    unfold u1
    obtain ⟨a, b⟩ := x
    simp only [Prod.mk.injEq]
    by_cases e : a = s
    · subst e
      simp only [if_true, true_and]
      omega
    · simp [e]
  · rw [mr_al] at hx
    rw [mc_al] at hi ⊢
    unfold u2 at hx
    have key : x.2 < mc m x.1 → x.2 < u1 (mc m) s (mc m s + 1) x.1 := by
      intro h
      unfold u1
      by_cases e : x.1 = s
      · rw [if_pos e]; rw [e] at h; omega
      · rw [if_neg e]; exact h
    by_cases e : t = s ∧ i = mc m s
    · rw [if_pos e] at hx; cases hx
    · rw [if_neg e] at hx
      refine key (hw.2 t i k x ?_ hx)
      unfold u1 at hi
      by_cases e2 : t = s
      · rw [if_pos e2] at hi
        have : i ≠ mc m s := fun q => e ⟨e2, q⟩
        rw [e2]; omega
      · rw [if_neg e2] at hi; exact hi
theorem wfM_sI {m : ab_M} (hw : wfM m) (s i k : Nat) (v : Int32) : wfM (sI m s i k v) := hw
theorem wfM_sR {m : ab_M} (hw : wfM m) (s i k : Nat) {v : Option (Nat × Nat)} (hv : ∀ x, v = some x → x.2 < mc m x.1) : wfM (sR m s i k v) := by
  refine ⟨hw.1, fun t j n x hj hx => ?_⟩
  rw [mr_sR] at hx
  unfold u3 at hx
  by_cases e : t = s ∧ j = i ∧ n = k
  · rw [if_pos e] at hx; exact hv x hx
  · rw [if_neg e] at hx; exact hw.2 t j n x hj hx
/-- the addresses that a method may write to: the cells that were there, but the script and the empty array, and new ones -/
def FA (loc : Nat → Nat → Nat) (m : ab_M) (sz : Nat) : Nat → Prop := fun q => (∃ t i, 2 ≤ t ∧ i < mc m t ∧ q = loc t i) ∨ sz ≤ q
/-- .. of them those that were there -/
def PA (loc : Nat → Nat → Nat) (m : ab_M) : Nat → Prop := fun q => ∃ t i, 2 ≤ t ∧ i < mc m t ∧ q = loc t i
/-! the frame's standing facts, and the state at a place -/
def kTy (cA : Nat → ClassId) : List (ClassId × FieldType) := [(cA 100, .int), (cA 101, .boolean), (cA 100, .int), (cA 100, .int), (cA 100, .int), (cA 105, .array .int)]
def ab_at (D : va_G) (cA : Nat → ClassId) (s : State) (loc0 : Nat → Nat → Nat) (m0 : ab_M) (loc : Nat → Nat → Nat) (m : ab_M) (H : Heap) (locs : List Loc) : Prop :=
  va_P D vwCl (aw cA loc m) H ∧ ab_D cA loc m H ∧ wfM m ∧ va_S (FA loc0 m0 s.heap.size) s.heap H locs ∧
  (∀ t i, i < mc m0 t → i < mc m t ∧ loc t i = loc0 t i) ∧ (∀ t i, i < mc m t → ¬ i < mc m0 t → s.heap.size ≤ loc t i ∧ 2 ≤ t)
theorem ab_at.fa {D : va_G} {cA : Nat → ClassId} {s : State} {loc0 : Nat → Nat → Nat} {m0 : ab_M} {loc : Nat → Nat → Nat} {m : ab_M} {H : Heap} {locs : List Loc} (h : ab_at D cA s loc0 m0 loc m H locs) {t i : Nat} (hi : i < mc m t) (ht : 2 ≤ t) : FA loc0 m0 s.heap.size (loc t i) := by
  obtain ⟨-, -, -, -, h5, h6⟩ := h
  by_cases c : i < mc m0 t
  · exact Or.inl ⟨t, i, ht, c, (h5 t i c).2⟩
  · exact Or.inr (h6 t i hi c).1
theorem ab_at.lt {D : va_G} {cA : Nat → ClassId} {s : State} {loc0 : Nat → Nat → Nat} {m0 : ab_M} {loc : Nat → Nat → Nat} {m : ab_M} {H : Heap} {locs : List Loc} (h : ab_at D cA s loc0 m0 loc m H locs) {t i : Nat} (hi : i < mc m t) : loc t i < H.size := by
  rcases Nat.lt_or_ge t 2 with q | q
  · exact lo_lt h.2.1.2 q hi
  · obtain ⟨q0, -, hq⟩ := aw_get (cA := cA) (loc := loc) h.2.2.1 q hi
    exact (h.1 q0 _ hq).lt
theorem ab_at.set {D : va_G} {cA : Nat → ClassId} {s : State} {loc0 : Nat → Nat → Nat} {m0 : ab_M} {loc : Nat → Nat → Nat} {m m' : ab_M} {H H1 : Heap} {locs : List Loc} (h : ab_at D cA s loc0 m0 loc m H locs)
    {t i k q0 : Nat} (hq : (mdm m)[q0]? = some (t, i)) (ht : 2 ≤ t) (hdm : mdm m' = mdm m) (hmc : mc m' = mc m) (hw' : wfM m') (ho : ∀ u j, j < mc m u → ¬ (u = t ∧ j = i) → ab_ent cA loc m' u j = ab_ent cA loc m u j)
    (he : va_at D vwCl (loc t i, ab_ent cA loc m' t i) H1) (z : H1.size = H.size) (oq : ∀ q : Nat, q ≠ loc t i → H1[q]? = H[q]?) : ab_at D cA s loc0 m0 loc m' H1 (locs ++ [⟨loc t i, k⟩]) := by
  obtain ⟨hP, hD, hw, hS, h5, h6⟩ := id h
  have hi : i < mc m t := ((hw.1 (t, i)).mp (List.mem_of_getElem? hq)).2
  have hp : (aw cA loc m)[q0]? = some (loc t i, ab_ent cA loc m t i) := by unfold aw; rw [List.getElem?_map, hq]; rfl
  have e := aw_set (cA := cA) (m' := m') hw hD.1 hq hdm rfl ho
  refine ⟨?_, ⟨?_, ?_⟩, hw', hS.put z oq (h.fa hi ht), fun u j hj => ?_, fun u j hj hn => ?_⟩
  · rw [← e]; exact hP.set hD.1 hp he oq
  · rw [← e]; exact hD.1.set hp
  · refine lo_of hD.2 (by rw [hmc]) (by rw [hmc]) (fun _ _ _ _ => rfl) (fun u j hu hj => ho u j hj (fun w => by omega)) (fun u j hu hj => oq _ (fun w => ?_)) (fun u j v k hu hj hk w => hD.2.2.2 u j v k hu hj (by rw [← hmc]; exact hk) w)
    have := (hD.2.2.2 u j t i hu hj hi w).1
    omega
  · rw [hmc]; exact h5 u j hj
  · rw [hmc] at hj; exact h6 u j hj hn
/-- cells that nobody sees: the heap has grown -/
theorem ab_at.grow {D : va_G} {cA : Nat → ClassId} {s : State} {loc0 : Nat → Nat → Nat} {m0 : ab_M} {loc : Nat → Nat → Nat} {m : ab_M} {H H1 : Heap} {locs : List Loc} (h : ab_at D cA s loc0 m0 loc m H locs)
    (z : H.size ≤ H1.size) (oq : ∀ q : Nat, q < H.size → H1[q]? = H[q]?) (c w : Nat) : ab_at D cA s loc0 m0 loc (bp m c w) H1 locs := by
  obtain ⟨hP, hD, hw, hS, h5, h6⟩ := id h
  exact ⟨hP.kept (fun k x hx => oq x.1 ((hP k x hx).lt)), ⟨hD.1, lo_of hD.2 rfl rfl (fun _ _ _ _ => rfl) (fun _ _ _ _ => rfl) (fun t i ht hi => oq _ (lo_lt hD.2 ht hi)) hD.2.2.2⟩, hw, ⟨Nat.le_trans hS.1 z, fun x h1 h2 => (oq x (Nat.lt_of_lt_of_le h1 hS.1)).trans (hS.2.1 x h1 h2), hS.2.2⟩, h5, h6⟩
theorem va_D_snoc {A : Nat → Prop} {ws : va_W} {q : Nat} {e : va_E} (hD : va_D A ws) (hq : ∀ (k : Nat) (x : Nat × va_E), ws[k]? = some x → x.1 ≠ q) (hA : A q) : va_D A (ws ++ [(q, e)]) := by
  have last : ∀ (k : Nat) (x : Nat × va_E), (ws ++ [(q, e)])[k]? = some x → ws[k]? = some x ∨ (k = ws.length ∧ x = (q, e)) := by
    intro k x hx
    by_cases h : k < ws.length
    · rw [List.getElem?_append_left h] at hx; exact Or.inl hx
    · rw [List.getElem?_append_right (by omega)] at hx
      have h0 : k - ws.length < 1 := (List.getElem?_eq_some_iff.mp hx).1
      rw [show k - ws.length = 0 by omega] at hx
      exact Or.inr ⟨by omega, (Option.some.inj hx).symm⟩
  refine ⟨fun i j x y hi hj hxy => ?_, fun k x hx => ?_⟩
  · rcases last i x hi with a1 | ⟨a1, a2⟩ <;> rcases last j y hj with b1 | ⟨b1, b2⟩
    · exact hD.1 i j x y a1 b1 hxy
    · rw [b2] at hxy; exact absurd hxy (hq i x a1)
    · rw [a2] at hxy; exact absurd hxy.symm (hq j y b1)
    · omega
  · rcases last k x hx with a1 | ⟨a1, a2⟩
    · exact hD.2 k x a1
    · rw [a2]; exact hA
/-- a cell more, somewhere in the heap -/
theorem ab_at.pushG {D : va_G} {cA : Nat → ClassId} {s : State} {loc0 : Nat → Nat → Nat} {m0 : ab_M} {loc : Nat → Nat → Nat} {m m2 : ab_M} {F : Heap} {locs : List Loc} (h : ab_at D cA s loc0 m0 loc m F locs) {t q : Nat} (ht : 2 ≤ t) (hdm : mdm m2 = mdm m ++ [(t, mc m t)]) (hmc : mc m2 = u1 (mc m) t (mc m t + 1)) (hw : wfM m2)
    (ho : ∀ u j, j < mc m u → ab_ent cA (lo1 loc t (mc m t) q) m2 u j = ab_ent cA loc m u j) (hq : ∀ u i, i < mc m u → loc u i ≠ q) (hq0 : s.heap.size ≤ q) (he : va_at D vwCl (q, ab_ent cA (lo1 loc t (mc m t) q) m2 t (mc m t)) F) : ab_at D cA s loc0 m0 (lo1 loc t (mc m t) q) m2 F locs := by
  obtain ⟨hP, hD, hw0, hS, h5, h6⟩ := h
  have e : aw cA (lo1 loc t (mc m t) q) m2 = aw cA loc m ++ [(q, ab_ent cA (lo1 loc t (mc m t) q) m2 t (mc m t))] := by
    unfold aw
    rw [hdm, List.map_append]
    congr 1
    · apply List.map_congr_left
      rintro ⟨u, j⟩ hx
      have hj : j < mc m u := ((hw0.1 (u, j)).mp hx).2
      show (lo1 loc t (mc m t) q u j, ab_ent cA (lo1 loc t (mc m t) q) m2 u j) = (loc u j, ab_ent cA loc m u j)
      rw [lo1_old hj, ho u j hj]
    · show [(lo1 loc t (mc m t) q t (mc m t), ab_ent cA (lo1 loc t (mc m t) q) m2 t (mc m t))] = [(q, ab_ent cA (lo1 loc t (mc m t) q) m2 t (mc m t))]
      rw [lo1_self]
  have hmcu : ∀ u, u ≠ t → mc m2 u = mc m u := fun u hu => by rw [hmc]; exact if_neg hu
  refine ⟨?_, ⟨?_, ?_⟩, hw, hS, fun u j hj => ?_, fun u j hj hn => ?_⟩
  · rw [e]
    refine hP.app (fun k x hx => ?_)
    have hz : k < 1 := (List.getElem?_eq_some_iff.mp hx).1
    rw [show k = 0 by omega] at hx
    cases hx
    exact he
  · rw [e]
    refine va_D_snoc hD.1 (fun k x hx => ?_) trivial
    unfold aw at hx
    rw [List.getElem?_map] at hx
    cases hy : (mdm m)[k]? with
    | none => rw [hy] at hx; cases hx
    | some y =>
      rw [hy] at hx
      cases hx
      exact hq y.1 y.2 ((hw0.1 y).mp (List.mem_of_getElem? hy)).2
  · refine lo_of hD.2 (hmcu 0 (by omega)) (hmcu 1 (by omega)) (fun u j _ hj => lo1_old hj) (fun u j _ hj => ho u j hj) (fun _ _ _ _ => rfl) (fun u j v k hu hj hk w => ?_)
    rw [lo1_old hj] at w
    by_cases c : v = t ∧ k = mc m t
    · obtain ⟨rfl, rfl⟩ := c
      rw [lo1_self] at w
      exact absurd w (hq u j hj)
    · have hk2 : k < mc m v := by
        rw [hmc] at hk
        unfold u1 at hk
        by_cases c2 : v = t
        · rw [if_pos c2] at hk
          have : k ≠ mc m t := fun q => c ⟨c2, q⟩
          rw [c2]; omega
        · rw [if_neg c2] at hk; exact hk
      rw [lo1_old hk2] at w
      exact hD.2.2.2 u j v k hu hj hk2 w
  · have h7 := h5 u j hj
    refine ⟨?_, by rw [lo1_old h7.1]; exact h7.2⟩
    rw [hmc]; unfold u1
    by_cases c : u = t
    · rw [if_pos c]; rw [← c]; have := h7.1; omega
    · rw [if_neg c]; exact h7.1
  · rw [hmc] at hj
    unfold u1 at hj
    by_cases c : u = t ∧ j = mc m t
    · obtain ⟨rfl, rfl⟩ := c
      rw [lo1_self]
      exact ⟨hq0, ht⟩
    · have hj2 : j < mc m u := by
        by_cases c2 : u = t
        · rw [if_pos c2] at hj
          have : j ≠ mc m t := fun q => c ⟨c2, q⟩
          rw [c2]; omega
        · rw [if_neg c2] at hj; exact hj
      rw [lo1_old hj2]
      exact h6 u j hj2 hn
/-- a cell more: of the site t, at the end of the heap -/
theorem ab_at.push {D : va_G} {cA : Nat → ClassId} {s : State} {loc0 : Nat → Nat → Nat} {m0 : ab_M} {loc : Nat → Nat → Nat} {m : ab_M} {H H1 : Heap} {locs : List Loc} (h : ab_at D cA s loc0 m0 loc m H locs)
    {t L w : Nat} (ht : 2 ≤ t) (he : va_at D vwCl (H.size, ab_ent cA (lo1 loc t (mc m t) H.size) (al m t L w) t (mc m t)) H1) (z : H.size ≤ H1.size) (oq : ∀ q : Nat, q < H.size → H1[q]? = H[q]?) :
    ab_at D cA s loc0 m0 (lo1 loc t (mc m t) H.size) (al m t L w) H1 locs := by
  have hw := h.2.2.1
  have hg : ab_at D cA s loc0 m0 loc m H1 locs := h.grow z oq 0 0
  refine hg.pushG ht rfl rfl (wfM_al hw t L w ht) (fun u j hj => ?_) (fun u i hi => by have := h.lt hi; omega) h.2.2.2.1.1 he
  have hne : ¬ (u = t ∧ j = mc m t) := by rintro ⟨rfl, rfl⟩; omega
  exact ab_ent_cong (fun k => by rw [mi_al]; simp [u2, hne]) (fun k => by rw [mr_al]; simp only [u2, hne, if_false]; exact map_lo1 (fun x h => hw.2 u j k x hj h)) (fun k => by rw [ml_al]; simp [u2, hne]) (fun k => by rw [md_al]; simp [u2, hne]) (by rw [mn_al]; simp [u2, hne])
/-- the locals -/
def ab_lv (nL : Nat) (loc : Nat → Nat → Nat) (m : ab_M) (lsv : Array Slot) (ls : ab_L) : Prop :=
  lsv.size = nL ∧ lv_wf lsv ∧ ls.length = nL ∧ ∀ (i : Nat) (v : ab_V), ls[i]? = some (some v) → lsv[i]? = some (.val (cv loc v)) ∧ wfV m v
def ab_as (loc : Nat → Nat → Nat) (ls : ab_L) : List (Nat × Value) := (List.range ls.length).filterMap (fun i => match ls[i]? with
  | some (some v) => some (i, cv loc v)
  | _ => none)
theorem ab_as_mem {loc : Nat → Nat → Nat} {ls : ab_L} {i : Nat} {v : Value} : (i, v) ∈ ab_as loc ls ↔ ∃ w, ls[i]? = some (some w) ∧ v = cv loc w := by
  unfold ab_as
  rw [List.mem_filterMap]
  constructor
  · rintro ⟨j, -, hj⟩
    cases h : ls[j]? with
    | none => rw [h] at hj; cases hj
    | some o =>
      cases o with
      | none => rw [h] at hj; cases hj
      | some w =>
        rw [h] at hj
        cases hj
        exact ⟨w, h, rfl⟩
  · rintro ⟨w, h, rfl⟩
    exact ⟨i, List.mem_range.mpr (List.getElem?_eq_some_iff.mp h).1, by rw [h]⟩
theorem ab_lv.has {nL : Nat} {loc : Nat → Nat → Nat} {m : ab_M} {lsv : Array Slot} {ls : ab_L} (h : ab_lv nL loc m lsv ls) : lv_has lsv nL (ab_as loc ls) := by
  refine ⟨h.1, h.2.1, fun q hq => ?_⟩
  obtain ⟨w, h1, h2⟩ := ab_as_mem.mp (show (q.1, q.2) ∈ ab_as loc ls from hq)
  rw [h2]
  exact (h.2.2.2 q.1 w h1).1
theorem cv_cat (loc : Nat → Nat → Nat) (v : ab_V) : (cv loc v).category = if wide v then 2 else 1 := by
  rcases v with x | x | x | r | a
  · rfl
  · rfl
  · rfl
  · cases r <;> rfl
  · rfl
theorem st1_len (ls : ab_L) (i : Nat) (v : ab_V) : (st1 ls i v).length = ls.length := by simp [st1]
theorem st1_self {ls : ab_L} {i : Nat} {v : ab_V} (h : i < ls.length) : (st1 ls i v)[i]? = some (some v) := by simp [st1, h]
theorem st1_ne {ls : ab_L} {i j : Nat} {v w : ab_V} (hj : j ≠ i) (h : (st1 ls i v)[j]? = some (some w)) : ls[j]? = some (some w) ∧ ¬ (j + 1 = i ∧ wide w = true) := by
  unfold st1 at h
  rw [List.getElem?_set_ne (Ne.symm hj), List.getElem?_modify] at h
  cases hx : ls[j]? with
  | none => rw [hx] at h; cases h
  | some o =>
    rw [hx] at h
    cases o with
    | none =>
      have h2 := Option.some.inj h
      split at h2 <;> cases h2
    | some u =>
      have h2 : (if i - 1 = j then (if 0 < i ∧ wide u = true then none else some u) else some u) = some w := Option.some.inj h
      by_cases e : i - 1 = j
      · rw [if_pos e] at h2
        by_cases c : 0 < i ∧ wide u = true
        · rw [if_pos c] at h2; cases h2
        · rw [if_neg c] at h2
          cases h2
          exact ⟨rfl, fun q => c ⟨by omega, q.2⟩⟩
      · rw [if_neg e] at h2
        cases h2
        exact ⟨rfl, fun q => e (by omega)⟩
theorem ab_lv_st1 {nL : Nat} {loc : Nat → Nat → Nat} {m : ab_M} {lsv lsv' : Array Slot} {ls : ab_L} (h : ab_lv nL loc m lsv ls) {i : Nat} {v : ab_V} (hi : i < ls.length) (hv : wfV m v)
    (h' : lv_has lsv' nL ((i, cv loc v) :: (ab_as loc ls).filter (fun q => !(q.1 == i) && !(q.1 + 1 == i && q.2.category == 2)))) : ab_lv nL loc m lsv' (st1 ls i v) := by
  refine ⟨h'.1, h'.2.1, (st1_len ls i v).trans h.2.2.1, fun j w hw => ?_⟩
  by_cases e : j = i
  · subst e
    rw [st1_self hi] at hw
    cases hw
    exact ⟨h'.2.2 (j, cv loc v) List.mem_cons_self, hv⟩
  · obtain ⟨h1, h2⟩ := st1_ne e hw
    refine ⟨h'.2.2 (j, cv loc w) (List.mem_cons_of_mem _ (List.mem_filter.mpr ⟨ab_as_mem.mpr ⟨w, h1, rfl⟩, ?_⟩)), (h.2.2.2 j w h1).2⟩
    rw [cv_cat]
    by_cases c : j + 1 = i
    · have : wide w = false := by
        cases hww : wide w
        · rfl
        · exact absurd ⟨c, hww⟩ h2
      simp [e, this]
    · simp [e, c]
theorem ab_lv_st2 {nL : Nat} {loc : Nat → Nat → Nat} {m : ab_M} {lsv lsv' : Array Slot} {ls : ab_L} (h : ab_lv nL loc m lsv ls) {i : Nat} {v : ab_V} (hi : i + 1 < ls.length) (hv : wfV m v)
    (h' : lv_has lsv' nL ((i, cv loc v) :: (ab_as loc ls).filter (fun q => !(q.1 == i) && (!(q.1 == i + 1) && !(q.1 + 1 == i && q.2.category == 2))))) : ab_lv nL loc m lsv' (st2 ls i v) := by
  refine ⟨h'.1, h'.2.1, by unfold st2; rw [List.length_set, st1_len]; exact h.2.2.1, fun j w hw => ?_⟩
  unfold st2 at hw
  by_cases e2 : j = i + 1
  · subst e2
    rw [List.getElem?_set_self (by rw [st1_len]; exact hi)] at hw
    cases hw
  · rw [List.getElem?_set_ne (Ne.symm e2)] at hw
    by_cases e : j = i
    · subst e
      rw [st1_self (by omega)] at hw
      cases hw
      exact ⟨h'.2.2 (j, cv loc v) List.mem_cons_self, hv⟩
    · obtain ⟨h1, h2⟩ := st1_ne e hw
      refine ⟨h'.2.2 (j, cv loc w) (List.mem_cons_of_mem _ (List.mem_filter.mpr ⟨ab_as_mem.mpr ⟨w, h1, rfl⟩, ?_⟩)), (h.2.2.2 j w h1).2⟩
      rw [cv_cat]
      by_cases c : j + 1 = i
      · have : wide w = false := by
          cases hww : wide w
          · rfl
          · exact absurd ⟨c, hww⟩ h2
        simp [e, e2, this]
      · simp [e, e2, c]
theorem ab_lv.mem {nL : Nat} {loc loc' : Nat → Nat → Nat} {m m' : ab_M} {lsv : Array Slot} {ls : ab_L} (h : ab_lv nL loc m lsv ls) (hg : ∀ t i, i < mc m t → i < mc m' t ∧ loc' t i = loc t i) : ab_lv nL loc' m' lsv ls := by
  refine ⟨h.1, h.2.1, h.2.2.1, fun i v hv => ?_⟩
  obtain ⟨h1, h2⟩ := h.2.2.2 i v hv
  rcases v with x | x | x | r | a
  · exact ⟨h1, h2⟩
  · exact ⟨h1, h2⟩
  · exact ⟨h1, h2⟩
  · cases r with
    | none => exact ⟨h1, h2⟩
    | some x =>
      obtain ⟨g1, g2⟩ := hg x.1 x.2 h2
      refine ⟨?_, g1⟩
      rw [h1]
      show some (Slot.val (va_rf ((some x).map (fun x => loc x.1 x.2)))) = some (Slot.val (va_rf ((some x).map (fun x => loc' x.1 x.2))))
      simp only [Option.map_some, g2]
  · exact ⟨h1, h2⟩
theorem cv_mem {loc loc' : Nat → Nat → Nat} {m m' : ab_M} (hg : ∀ t i, i < mc m t → i < mc m' t ∧ loc' t i = loc t i) {v : ab_V} (h : wfV m v) : cv loc' v = cv loc v ∧ wfV m' v := by
  rcases v with x | x | x | r | a
  · exact ⟨rfl, trivial⟩
  · exact ⟨rfl, trivial⟩
  · exact ⟨rfl, trivial⟩
  · cases r with
    | none => exact ⟨rfl, trivial⟩
    | some x =>
      obtain ⟨g1, g2⟩ := hg x.1 x.2 h
      refine ⟨?_, g1⟩
      show va_rf ((some x).map (fun x => loc' x.1 x.2)) = va_rf ((some x).map (fun x => loc x.1 x.2))
      simp only [Option.map_some, g2]
  · exact ⟨rfl, trivial⟩
theorem cvs_mem {loc loc' : Nat → Nat → Nat} {m m' : ab_M} (hg : ∀ t i, i < mc m t → i < mc m' t ∧ loc' t i = loc t i) {vs : List ab_V} (h : ∀ v ∈ vs, wfV m v) : vs.map (cv loc') = vs.map (cv loc) ∧ ∀ v ∈ vs, wfV m' v :=
  ⟨List.map_congr_left (fun v hv => (cv_mem hg (h v hv)).1), fun v hv => (cv_mem hg (h v hv)).2⟩
theorem ab_lv.le {nL : Nat} {loc : Nat → Nat → Nat} {m : ab_M} {lsv : Array Slot} {a b : ab_L} (h : ab_lv nL loc m lsv b) (hl : ab_le a b) : ab_lv nL loc m lsv a :=
  ⟨h.1, h.2.1, hl.1.trans h.2.2.1, fun i v hv => h.2.2.2 i v (hl.2 i v hv)⟩

