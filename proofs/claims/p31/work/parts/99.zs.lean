/-! p31: the start's world, out of the Statement's words -/
theorem lwt1 {w : Cond} (h : w ∈ tables_1_1) : w ∈ lw_tbl := List.mem_append_right _ (List.mem_append_left _ h)
theorem lwt2 {w : Cond} (h : w ∈ tables_1_2) : w ∈ lw_tbl := List.mem_append_right _ (List.mem_append_right _ (List.mem_append_left _ h))
theorem lwt3 {w : Cond} (h : w ∈ tables_1_3) : w ∈ lw_tbl := List.mem_append_right _ (List.mem_append_right _ (List.mem_append_right _ (h)))
section WW
variable {s : State} {args : Array Value}
theorem ww_arr {ty : FieldType} (h : (Cond.arrayClass ty).before args s = true) : ∃ c : ClassId, ArrOfT s c ty ∧ s.vm.findClass ("[" ++ ty.toString) = some c := by
  obtain ⟨c, k, comp, h1, h2, h3⟩ := Cond.arrayClass_spec h
  exact ⟨c, fun N z => ⟨(fun k h => by cases h), k, h2, comp, h3⟩, h1⟩
theorem ww_arrA {ty : FieldType} (h : (Cond.arrayOver (.array ty)).before args s = true) : ∃ c : ClassId, ArrOfT s c (.array ty) ∧ s.vm.findClass ("[" ++ (FieldType.array ty).toString) = some c := by
  obtain ⟨comp, c, k, h1, h2, h3, h4⟩ := Cond.arrayOver_specA h
  exact ⟨c, fun N z => ⟨(fun k h => by cases h), k, h2, comp, h3⟩, h4⟩
theorem ww_kn (hts : ∀ w ∈ lw_tbl, w.before args s = true) : ∃ D : va_G, ∀ (c : Nat) (q : vw_C), vwCl[c]? = some q → u_Kn s q.1 q.2.1 q.2.2 (D.1 c) (D.2 c) := by
  have htb : ∀ w ∈ TB, w.before args s = true := fun w h => hts w (tb_lw h)
  have H : ∀ c : Nat, ∃ z : ClassId × (Nat → Nat), ∀ q : vw_C, vwCl[c]? = some q → u_Kn s q.1 q.2.1 q.2.2 z.1 z.2 := by
    intro c
    match c with
    | 0 =>
      obtain ⟨a, b, h⟩ := u_known (C := RX0) (T := TX0) (N := 2) (n := 2) htb tu_X0 (hts _ (lwt1 (List.mem_of_getElem? (i := 182) (by decide +kernel))))
      refine ⟨(a, b), fun q hq => ?_⟩
      have e : (RX0, TX0, 2) = q := Option.some.inj hq
      subst e
      exact h
    | 1 =>
      obtain ⟨a, b, h⟩ := u_known (C := RX0) (T := TX0) (N := 2) (n := 2) htb tu_X0 (hts _ (lwt1 (List.mem_of_getElem? (i := 182) (by decide +kernel))))
      refine ⟨(a, b), fun q hq => ?_⟩
      have e : (RX0, TX0, 2) = q := Option.some.inj hq
      subst e
      exact h
    | 2 =>
      obtain ⟨a, b, h⟩ := u_known (C := RX0) (T := TX0) (N := 2) (n := 2) htb tu_X0 (hts _ (lwt1 (List.mem_of_getElem? (i := 182) (by decide +kernel))))
      refine ⟨(a, b), fun q hq => ?_⟩
      have e : (RX0, TX0, 2) = q := Option.some.inj hq
      subst e
      exact h
    | 3 =>
      obtain ⟨a, b, h⟩ := u_known (C := RX1) (T := TX1) (N := 3) (n := 3) htb tu_X1 (hts _ (lwt1 (List.mem_of_getElem? (i := 86) (by decide +kernel))))
      refine ⟨(a, b), fun q hq => ?_⟩
      have e : (RX1, TX1, 3) = q := Option.some.inj hq
      subst e
      exact h
    | 4 =>
      obtain ⟨a, b, h⟩ := u_known (C := RX2) (T := TX2) (N := 12) (n := 12) htb tu_X2 (hts _ (lwt1 (List.mem_of_getElem? (i := 25) (by decide +kernel))))
      refine ⟨(a, b), fun q hq => ?_⟩
      have e : (RX2, TX2, 12) = q := Option.some.inj hq
      subst e
      exact h
    | 5 =>
      obtain ⟨a, b, h⟩ := u_known (C := RX3) (T := TX3) (N := 7) (n := 7) htb tu_X3 (hts _ (lwt1 (List.mem_of_getElem? (i := 195) (by decide +kernel))))
      refine ⟨(a, b), fun q hq => ?_⟩
      have e : (RX3, TX3, 7) = q := Option.some.inj hq
      subst e
      exact h
    | 6 =>
      obtain ⟨a, b, h⟩ := u_known (C := RX4) (T := TX4) (N := 5) (n := 5) htb tu_X4 (hts _ (lwt1 (List.mem_of_getElem? (i := 105) (by decide +kernel))))
      refine ⟨(a, b), fun q hq => ?_⟩
      have e : (RX4, TX4, 5) = q := Option.some.inj hq
      subst e
      exact h
    | 7 =>
      obtain ⟨a, b, h⟩ := u_known (C := RX5) (T := TX5) (N := 9) (n := 9) htb tu_X5 (hts _ (lwt1 (List.mem_of_getElem? (i := 132) (by decide +kernel))))
      refine ⟨(a, b), fun q hq => ?_⟩
      have e : (RX5, TX5, 9) = q := Option.some.inj hq
      subst e
      exact h
    | 8 =>
      obtain ⟨a, b, h⟩ := u_known (C := RX6) (T := TX6) (N := 11) (n := 11) htb tu_X6 (hts _ (lwt1 (List.mem_of_getElem? (i := 17) (by decide +kernel))))
      refine ⟨(a, b), fun q hq => ?_⟩
      have e : (RX6, TX6, 11) = q := Option.some.inj hq
      subst e
      exact h
    | n + 9 => exact ⟨(0, fun _ => 0), fun q hq => absurd (List.getElem?_eq_some_iff.mp hq).1 (by show ¬ n + 9 < 9; omega)⟩
  exact ⟨(fun c => (H c).choose.1, fun c => (H c).choose.2), fun c q hq => (H c).choose_spec q hq⟩
theorem ww_NST (hts : ∀ w ∈ lw_tbl, w.before args s = true) : ∀ x ∈ NST, va_Nw (.methodLinkNest x.1 x.2.1 x.2.2.1 x.2.2.2) s :=
  List.forall_mem_cons.mpr ⟨va_Nw.of rfl (hts _ (lwt1 (List.mem_of_getElem? (i := 87) (by decide +kernel)))), List.forall_mem_cons.mpr ⟨va_Nw.of rfl (hts _ (lwt1 (List.mem_of_getElem? (i := 106) (by decide +kernel)))), List.forall_mem_cons.mpr ⟨va_Nw.of rfl (hts _ (lwt1 (List.mem_of_getElem? (i := 133) (by decide +kernel)))), List.forall_mem_cons.mpr ⟨va_Nw.of rfl (hts _ (lwt1 (List.mem_of_getElem? (i := 26) (by decide +kernel)))), List.forall_mem_cons.mpr ⟨va_Nw.of rfl (hts _ (lwt2 (List.mem_of_getElem? (i := 182) (by decide +kernel)))), List.forall_mem_cons.mpr ⟨va_Nw.of rfl (hts _ (lwt2 (List.mem_of_getElem? (i := 193) (by decide +kernel)))), List.forall_mem_cons.mpr ⟨va_Nw.of rfl (hts _ (lwt3 (List.mem_of_getElem? (i := 60) (by decide +kernel)))), fun _ h => absurd h List.not_mem_nil⟩⟩⟩⟩⟩⟩⟩
theorem ww_str {own tx : String} {k : Nat} (h1 : (Cond.stringRef own k tx).before args s = true) (h2 : (Cond.exactly (.string own k) "java/lang/String").before args s = true) : ∃ a, vk_R own k tx a s := by
  obtain ⟨a, c, cell, kk, h3, -⟩ := Cond.exactly_spec h2
  exact ⟨a, vk_R.of h1 h3⟩
theorem ww_STR (hts : ∀ w ∈ lw_tbl, w.before args s = true) (hs : ∀ w ∈ flatC (Cond.and given_1 narrow_1), w.before args s = true) : ∀ x ∈ STR, ∃ a, vk_R x.1 x.2.1 x.2.2 a s :=
  List.forall_mem_cons.mpr ⟨ww_str (hts _ (lwt2 (List.mem_of_getElem? (i := 70) (by decide +kernel)))) (hs _ (by decide +kernel)), List.forall_mem_cons.mpr ⟨ww_str (hts _ (lwt2 (List.mem_of_getElem? (i := 106) (by decide +kernel)))) (hs _ (by decide +kernel)), List.forall_mem_cons.mpr ⟨ww_str (hts _ (lwt2 (List.mem_of_getElem? (i := 149) (by decide +kernel)))) (hs _ (by decide +kernel)), List.forall_mem_cons.mpr ⟨ww_str (hts _ (lwt2 (List.mem_of_getElem? (i := 156) (by decide +kernel)))) (hs _ (by decide +kernel)), List.forall_mem_cons.mpr ⟨ww_str (hts _ (lwt2 (List.mem_of_getElem? (i := 173) (by decide +kernel)))) (hs _ (by decide +kernel)), List.forall_mem_cons.mpr ⟨ww_str (hts _ (lwt2 (List.mem_of_getElem? (i := 231) (by decide +kernel)))) (hs _ (by decide +kernel)), List.forall_mem_cons.mpr ⟨ww_str (hts _ (lwt3 (List.mem_of_getElem? (i := 15) (by decide +kernel)))) (hs _ (by decide +kernel)), List.forall_mem_cons.mpr ⟨ww_str (hts _ (lwt3 (List.mem_of_getElem? (i := 20) (by decide +kernel)))) (hs _ (by decide +kernel)), List.forall_mem_cons.mpr ⟨ww_str (hts _ (lwt3 (List.mem_of_getElem? (i := 103) (by decide +kernel)))) (hs _ (by decide +kernel)), List.forall_mem_cons.mpr ⟨ww_str (hts _ (lwt3 (List.mem_of_getElem? (i := 154) (by decide +kernel)))) (hs _ (by decide +kernel)), List.forall_mem_cons.mpr ⟨ww_str (hts _ (lwt3 (List.mem_of_getElem? (i := 164) (by decide +kernel)))) (hs _ (by decide +kernel)), List.forall_mem_cons.mpr ⟨ww_str (hts _ (lwt3 (List.mem_of_getElem? (i := 181) (by decide +kernel)))) (hs _ (by decide +kernel)), List.forall_mem_cons.mpr ⟨ww_str (hts _ (lwt3 (List.mem_of_getElem? (i := 214) (by decide +kernel)))) (hs _ (by decide +kernel)), fun _ h => absurd h List.not_mem_nil⟩⟩⟩⟩⟩⟩⟩⟩⟩⟩⟩⟩⟩
theorem ww_CST (hts : ∀ w ∈ lw_tbl, w.before args s = true) : ∀ x ∈ CST, va_Nw (.castable x.1 x.2) s :=
  List.forall_mem_cons.mpr ⟨va_Nw.of rfl (hts _ (lwt2 (List.mem_of_getElem? (i := 31) (by decide +kernel)))), List.forall_mem_cons.mpr ⟨va_Nw.of rfl (hts _ (lwt2 (List.mem_of_getElem? (i := 142) (by decide +kernel)))), List.forall_mem_cons.mpr ⟨va_Nw.of rfl (hts _ (lwt2 (List.mem_of_getElem? (i := 99) (by decide +kernel)))), fun _ h => absurd h List.not_mem_nil⟩⟩⟩
theorem ww_DCL (hts : ∀ w ∈ lw_tbl, w.before args s = true) : ∀ x ∈ DCL, va_Nw (.declares x) s :=
  List.forall_mem_cons.mpr ⟨va_Nw.of rfl (hts _ (lwt2 (List.mem_of_getElem? (i := 33) (by decide +kernel)))), List.forall_mem_cons.mpr ⟨va_Nw.of rfl (hts _ (lwt2 (List.mem_of_getElem? (i := 35) (by decide +kernel)))), List.forall_mem_cons.mpr ⟨va_Nw.of rfl (hts _ (lwt2 (List.mem_of_getElem? (i := 37) (by decide +kernel)))), fun _ h => absurd h List.not_mem_nil⟩⟩⟩
theorem ww_CA (hts : ∀ w ∈ lw_tbl, w.before args s = true) {b L : Nat} {xs : Nat → Int32} (hX : va_X b L xs s s.heap) : ∃ cA : Nat → ClassId, (∀ (k : Nat) (q : ClassId × FieldType), (kTy cA)[k]? = some q → ArrOfT s q.1 q.2 ∧ va_RA s q.1 q.2) ∧ ArrOfT s (cA 201) .int ∧ ∃ scr : Cell, s.heap[b]? = some scr ∧ scr.cls = cA 201 := by
  obtain ⟨c0, a0, b0⟩ := ww_arr (s := s) (args := args) (ty := .int) (hts _ (lwt1 (List.mem_of_getElem? (i := 83) (by decide +kernel))))
  obtain ⟨c1, a1, b1⟩ := ww_arr (s := s) (args := args) (ty := .boolean) (hts _ (lwt1 (List.mem_of_getElem? (i := 84) (by decide +kernel))))
  obtain ⟨c5, a5, b5⟩ := ww_arrA (s := s) (args := args) (ty := .int) (hts _ (lwt1 (List.mem_of_getElem? (i := 31) (by decide +kernel))))
  obtain ⟨scr, x1, ⟨x2, kA, x3, comp, x4⟩, x5⟩ := hX
  refine ⟨fun k => if k = 100 then c0 else if k = 101 then c1 else if k = 105 then c5 else scr.cls, ?_, fun N z => ⟨(fun k h => by cases h), kA, x3, comp, x4⟩, scr, x1, rfl⟩
  intro k q hq
  match k with
  | 0 => have e : (c0, FieldType.int) = q := Option.some.inj hq; subst e; exact ⟨a0, b0⟩
  | 1 => have e : (c1, FieldType.boolean) = q := Option.some.inj hq; subst e; exact ⟨a1, b1⟩
  | 2 => have e : (c0, FieldType.int) = q := Option.some.inj hq; subst e; exact ⟨a0, b0⟩
  | 3 => have e : (c0, FieldType.int) = q := Option.some.inj hq; subst e; exact ⟨a0, b0⟩
  | 4 => have e : (c0, FieldType.int) = q := Option.some.inj hq; subst e; exact ⟨a0, b0⟩
  | 5 => have e : (c5, FieldType.array .int) = q := Option.some.inj hq; subst e; exact ⟨a5, b5⟩
  | n + 6 => exact absurd (List.getElem?_eq_some_iff.mp hq).1 (by show ¬ n + 6 < 6; omega)
/-- where the script lies at the start -/
def loc00 (b : Nat) : Nat → Nat → Nat := fun _ _ => b
theorem m00_PA {b L : Nat} {xs : Nat → Int32} {a : Nat} : ¬ PA (loc00 b) (m00 L xs) a := by
  rintro ⟨t, i, h2, h3, -⟩
  have : mc (m00 L xs) t = 0 := if_neg (by omega)
  omega
theorem ww_start (hts : ∀ w ∈ lw_tbl, w.before args s = true) (hs : ∀ w ∈ flatC (Cond.and given_1 narrow_1), w.before args s = true) {b L : Nat} {xs : Nat → Int32} (hX : va_X b L xs s s.heap) : ∃ (D : va_G) (cA : Nat → ClassId), VF D cA s ∧ HF (loc00 b) (m00 L xs) s s.heap ∧ va_P D vwCl (aw cA (loc00 b) (m00 L xs)) s.heap ∧ ab_D cA (loc00 b) (m00 L xs) s.heap ∧ wfM (m00 L xs) := by
  obtain ⟨D, hD⟩ := ww_kn hts
  obtain ⟨cA, hA, h201, scr', s1, s2⟩ := ww_CA hts hX
  refine ⟨D, cA, ⟨⟨hD, hA⟩, trivial, ⟨(show va_AOA .int s from (show (Cond.arrayOver (.array .int)).before args s = true from hts _ (lwt1 (List.mem_of_getElem? (i := 31) (by decide +kernel))))), trivial, h201⟩, ww_NST hts, ww_STR hts hs, trivial, trivial, ww_CST hts, fun _ h => absurd h List.not_mem_nil, trivial, ww_DCL hts⟩, ⟨trivial, vx_Zqof (hts _ (lwt2 (List.mem_of_getElem? (i := 56) (by decide +kernel)))) (hts _ (lwt1 (List.mem_of_getElem? (i := 8) (by decide +kernel)))) (hs _ (by decide +kernel)) (fun a _ => m00_PA), vx_Zqof (hts _ (lwt2 (List.mem_of_getElem? (i := 58) (by decide +kernel)))) (hts _ (lwt1 (List.mem_of_getElem? (i := 8) (by decide +kernel)))) (hs _ (by decide +kernel)) (fun a _ => m00_PA)⟩, ?_, ⟨⟨?_, ?_⟩, ?_, ?_, ?_⟩, ?_, ?_⟩
  · intro k x hx
    cases hx
  · intro i j x y hi
    cases hi
  · intro k x hx
    cases hx
  · intro i _
    obtain ⟨scr, x1, x2, x3, x4, x5⟩ := hX
    have e : scr' = scr := Option.some.inj (s1.symm.trans x1)
    subst e
    refine ⟨scr', x1, s2, ⟨x3, ?_⟩, x4, fun j hj => x5 j hj⟩
    cases hv : scr'.vm <;> first | rfl | exact absurd hv (x2.1 _)
  · intro i hi
    have : mc (m00 L xs) 1 = 0 := rfl
    omega
  · have z : ∀ t i, i < mc (m00 L xs) t → t = 0 ∧ i = 0 := by
      intro t i hi
      by_cases w : t = 0
      · have : mc (m00 L xs) t = 1 := if_pos w
        exact ⟨w, by omega⟩
      · have : mc (m00 L xs) t = 0 := if_neg w
        omega
    intro t i u j _ hi hj _
    obtain ⟨a1, a2⟩ := z t i hi
    obtain ⟨b1, b2⟩ := z u j hj
    exact ⟨a1.trans b1.symm, a2.trans b2.symm⟩
  · intro x
    constructor
    · intro h
      cases h
    · rintro ⟨h1, h2⟩
      have : mc (m00 L xs) x.1 = 0 := if_neg (by omega)
      omega
  · intro t i k x hi hx
    cases hx
end WW
