/-! the start's world, out of the Statement's words -/
theorem lwt1 {w : Cond} (h : w ∈ tables_1_1) : w ∈ lw_tbl := List.mem_append_right _ (List.mem_append_left _ h)
theorem lwt2 {w : Cond} (h : w ∈ tables_1_2) : w ∈ lw_tbl := List.mem_append_right _ (List.mem_append_right _ (List.mem_append_left _ h))
theorem lwt3 {w : Cond} (h : w ∈ tables_1_3) : w ∈ lw_tbl := List.mem_append_right _ (List.mem_append_right _ (List.mem_append_right _ (List.mem_append_left _ h)))
theorem lwt4 {w : Cond} (h : w ∈ tables_1_4) : w ∈ lw_tbl := List.mem_append_right _ (List.mem_append_right _ (List.mem_append_right _ (List.mem_append_right _ (List.mem_append_left _ h))))
theorem lwt5 {w : Cond} (h : w ∈ tables_1_5) : w ∈ lw_tbl := List.mem_append_right _ (List.mem_append_right _ (List.mem_append_right _ (List.mem_append_right _ (List.mem_append_right _ (List.mem_append_left _ h)))))
theorem lwt6 {w : Cond} (h : w ∈ tables_1_6) : w ∈ lw_tbl := List.mem_append_right _ (List.mem_append_right _ (List.mem_append_right _ (List.mem_append_right _ (List.mem_append_right _ (List.mem_append_right _ (List.mem_append_left _ h))))))
theorem lwt7 {w : Cond} (h : w ∈ tables_1_7) : w ∈ lw_tbl := List.mem_append_right _ (List.mem_append_right _ (List.mem_append_right _ (List.mem_append_right _ (List.mem_append_right _ (List.mem_append_right _ (List.mem_append_right _ (h)))))))
section WW
variable {s : State} {args : Array Value}
theorem ww_arr {ty : FieldType} (h : (Cond.arrayClass ty).before args s = true) : ∃ c : ClassId, ArrOfT s c ty ∧ s.vm.findClass ("[" ++ ty.toString) = some c := by
  obtain ⟨c, k, comp, h1, h2, h3⟩ := Cond.arrayClass_spec h
  exact ⟨c, fun N z => ⟨(fun k h => by cases h), k, h2, comp, h3⟩, h1⟩
theorem ww_arrO {n : String} (h : (Cond.arrayOver (.object n)).before args s = true) : ∃ c : ClassId, ArrOfT s c (.object n) ∧ va_RA s c (.object n) := by
  obtain ⟨comp, c, k, h1, -, h2, h3, h4⟩ := Cond.arrayOver_spec h
  exact ⟨c, fun N z => ⟨(fun k h => by cases h), k, h2, comp, h3⟩, k, comp, h2, h3, h1, h4⟩
theorem ww_arrA {ty : FieldType} (h : (Cond.arrayOver (.array ty)).before args s = true) : ∃ c : ClassId, ArrOfT s c (.array ty) ∧ s.vm.findClass ("[" ++ (FieldType.array ty).toString) = some c := by
  obtain ⟨comp, c, k, h1, h2, h3, h4⟩ := Cond.arrayOver_specA h
  exact ⟨c, fun N z => ⟨(fun k h => by cases h), k, h2, comp, h3⟩, h4⟩
theorem ww_kn (hts : ∀ w ∈ lw_tbl, w.before args s = true) : ∃ D : va_G, ∀ (c : Nat) (q : vw_C), vwCl[c]? = some q → u_Kn s q.1 q.2.1 q.2.2 (D.1 c) (D.2 c) := by
  have htb : ∀ w ∈ TB, w.before args s = true := fun w h => hts w (tb_lw h)
  have H : ∀ c : Nat, ∃ z : ClassId × (Nat → Nat), ∀ q : vw_C, vwCl[c]? = some q → u_Kn s q.1 q.2.1 q.2.2 z.1 z.2 := by
    intro c
    match c with
    | 0 =>
      obtain ⟨a, b, h⟩ := u_known (C := RJx35411) (T := TJx35411) (N := 4) (n := 4) htb tu_Jx35411 (hts _ (lwt5 (List.mem_of_getElem? (i := 224) (by decide +kernel))))
      refine ⟨(a, b), fun q hq => ?_⟩
      have e : (RJx35411, TJx35411, 4) = q := Option.some.inj hq
      subst e
      exact h
    | 1 =>
      obtain ⟨a, b, h⟩ := u_known (C := RJx4a65c) (T := TJx4a65c) (N := 3) (n := 3) htb tu_Jx4a65c (hts _ (lwt4 (List.mem_of_getElem? (i := 163) (by decide +kernel))))
      refine ⟨(a, b), fun q hq => ?_⟩
      have e : (RJx4a65c, TJx4a65c, 3) = q := Option.some.inj hq
      subst e
      exact h
    | 2 =>
      obtain ⟨a, b, h⟩ := u_known (C := RX0) (T := TX0) (N := 2) (n := 2) htb tu_X0 (hts _ (lwt1 (List.mem_of_getElem? (i := 195) (by decide +kernel))))
      refine ⟨(a, b), fun q hq => ?_⟩
      have e : (RX0, TX0, 2) = q := Option.some.inj hq
      subst e
      exact h
    | 3 =>
      obtain ⟨a, b, h⟩ := u_known (C := RX1) (T := TX1) (N := 3) (n := 3) htb tu_X1 (hts _ (lwt1 (List.mem_of_getElem? (i := 99) (by decide +kernel))))
      refine ⟨(a, b), fun q hq => ?_⟩
      have e : (RX1, TX1, 3) = q := Option.some.inj hq
      subst e
      exact h
    | 4 =>
      obtain ⟨a, b, h⟩ := u_known (C := RX2) (T := TX2) (N := 12) (n := 12) htb tu_X2 (hts _ (lwt1 (List.mem_of_getElem? (i := 37) (by decide +kernel))))
      refine ⟨(a, b), fun q hq => ?_⟩
      have e : (RX2, TX2, 12) = q := Option.some.inj hq
      subst e
      exact h
    | 5 =>
      obtain ⟨a, b, h⟩ := u_known (C := RX3) (T := TX3) (N := 7) (n := 7) htb tu_X3 (hts _ (lwt1 (List.mem_of_getElem? (i := 208) (by decide +kernel))))
      refine ⟨(a, b), fun q hq => ?_⟩
      have e : (RX3, TX3, 7) = q := Option.some.inj hq
      subst e
      exact h
    | 6 =>
      obtain ⟨a, b, h⟩ := u_known (C := RX4) (T := TX4) (N := 5) (n := 5) htb tu_X4 (hts _ (lwt1 (List.mem_of_getElem? (i := 118) (by decide +kernel))))
      refine ⟨(a, b), fun q hq => ?_⟩
      have e : (RX4, TX4, 5) = q := Option.some.inj hq
      subst e
      exact h
    | 7 =>
      obtain ⟨a, b, h⟩ := u_known (C := RX5) (T := TX5) (N := 9) (n := 9) htb tu_X5 (hts _ (lwt1 (List.mem_of_getElem? (i := 145) (by decide +kernel))))
      refine ⟨(a, b), fun q hq => ?_⟩
      have e : (RX5, TX5, 9) = q := Option.some.inj hq
      subst e
      exact h
    | 8 =>
      obtain ⟨a, b, h⟩ := u_known (C := RX6) (T := TX6) (N := 11) (n := 11) htb tu_X6 (hts _ (lwt1 (List.mem_of_getElem? (i := 29) (by decide +kernel))))
      refine ⟨(a, b), fun q hq => ?_⟩
      have e : (RX6, TX6, 11) = q := Option.some.inj hq
      subst e
      exact h
    | 9 =>
      obtain ⟨a, b, h⟩ := u_known (C := RX7) (T := TX7) (N := 11) (n := 11) htb tu_X7 (hts _ (lwt5 (List.mem_of_getElem? (i := 28) (by decide +kernel))))
      refine ⟨(a, b), fun q hq => ?_⟩
      have e : (RX7, TX7, 11) = q := Option.some.inj hq
      subst e
      exact h
    | 10 =>
      obtain ⟨a, b, h⟩ := u_known (C := RX8) (T := TX8) (N := 8) (n := 8) htb tu_X8 (hts _ (lwt6 (List.mem_of_getElem? (i := 58) (by decide +kernel))))
      refine ⟨(a, b), fun q hq => ?_⟩
      have e : (RX8, TX8, 8) = q := Option.some.inj hq
      subst e
      exact h
    | 11 =>
      obtain ⟨a, b, h⟩ := u_known (C := RX9) (T := TX9) (N := 10) (n := 10) htb tu_X9 (hts _ (lwt4 (List.mem_of_getElem? (i := 157) (by decide +kernel))))
      refine ⟨(a, b), fun q hq => ?_⟩
      have e : (RX9, TX9, 10) = q := Option.some.inj hq
      subst e
      exact h
    | n + 12 => exact ⟨(0, fun _ => 0), fun q hq => absurd (List.getElem?_eq_some_iff.mp hq).1 (by show ¬ n + 12 < 12; omega)⟩
  exact ⟨(fun c => (H c).choose.1, fun c => (H c).choose.2), fun c q hq => (H c).choose_spec q hq⟩
theorem ww_NST (hts : ∀ w ∈ lw_tbl, w.before args s = true) : ∀ x ∈ NST, va_Nw (.methodLinkNest x.1 x.2.1 x.2.2.1 x.2.2.2) s :=
  List.forall_mem_cons.mpr ⟨va_Nw.of rfl (hts _ (lwt1 (List.mem_of_getElem? (i := 100) (by decide +kernel)))), List.forall_mem_cons.mpr ⟨va_Nw.of rfl (hts _ (lwt1 (List.mem_of_getElem? (i := 119) (by decide +kernel)))), List.forall_mem_cons.mpr ⟨va_Nw.of rfl (hts _ (lwt1 (List.mem_of_getElem? (i := 146) (by decide +kernel)))), List.forall_mem_cons.mpr ⟨va_Nw.of rfl (hts _ (lwt1 (List.mem_of_getElem? (i := 38) (by decide +kernel)))), List.forall_mem_cons.mpr ⟨va_Nw.of rfl (hts _ (lwt2 (List.mem_of_getElem? (i := 134) (by decide +kernel)))), List.forall_mem_cons.mpr ⟨va_Nw.of rfl (hts _ (lwt3 (List.mem_of_getElem? (i := 155) (by decide +kernel)))), List.forall_mem_cons.mpr ⟨va_Nw.of rfl (hts _ (lwt4 (List.mem_of_getElem? (i := 101) (by decide +kernel)))), fun _ h => absurd h List.not_mem_nil⟩⟩⟩⟩⟩⟩⟩
theorem ww_str {own tx : String} {k : Nat} (h1 : (Cond.stringRef own k tx).before args s = true) (h2 : (Cond.exactly (.string own k) "java/lang/String").before args s = true) : ∃ a, vk_R own k tx a s := by
  obtain ⟨a, c, cell, kk, h3, -⟩ := Cond.exactly_spec h2
  exact ⟨a, vk_R.of h1 h3⟩
theorem ww_STR (hts : ∀ w ∈ lw_tbl, w.before args s = true) (hs : ∀ w ∈ flatC (Cond.and given_1 narrow_1), w.before args s = true) : ∀ x ∈ STR, ∃ a, vk_R x.1 x.2.1 x.2.2 a s :=
  List.forall_mem_cons.mpr ⟨ww_str (hts _ (lwt3 (List.mem_of_getElem? (i := 113) (by decide +kernel)))) (hs _ (by decide +kernel)), List.forall_mem_cons.mpr ⟨ww_str (hts _ (lwt3 (List.mem_of_getElem? (i := 121) (by decide +kernel)))) (hs _ (by decide +kernel)), List.forall_mem_cons.mpr ⟨ww_str (hts _ (lwt3 (List.mem_of_getElem? (i := 138) (by decide +kernel)))) (hs _ (by decide +kernel)), List.forall_mem_cons.mpr ⟨ww_str (hts _ (lwt3 (List.mem_of_getElem? (i := 150) (by decide +kernel)))) (hs _ (by decide +kernel)), List.forall_mem_cons.mpr ⟨ww_str (hts _ (lwt3 (List.mem_of_getElem? (i := 175) (by decide +kernel)))) (hs _ (by decide +kernel)), List.forall_mem_cons.mpr ⟨ww_str (hts _ (lwt3 (List.mem_of_getElem? (i := 183) (by decide +kernel)))) (hs _ (by decide +kernel)), List.forall_mem_cons.mpr ⟨ww_str (hts _ (lwt3 (List.mem_of_getElem? (i := 191) (by decide +kernel)))) (hs _ (by decide +kernel)), List.forall_mem_cons.mpr ⟨ww_str (hts _ (lwt3 (List.mem_of_getElem? (i := 206) (by decide +kernel)))) (hs _ (by decide +kernel)), List.forall_mem_cons.mpr ⟨ww_str (hts _ (lwt3 (List.mem_of_getElem? (i := 222) (by decide +kernel)))) (hs _ (by decide +kernel)), List.forall_mem_cons.mpr ⟨ww_str (hts _ (lwt3 (List.mem_of_getElem? (i := 230) (by decide +kernel)))) (hs _ (by decide +kernel)), List.forall_mem_cons.mpr ⟨ww_str (hts _ (lwt4 (List.mem_of_getElem? (i := 2) (by decide +kernel)))) (hs _ (by decide +kernel)), List.forall_mem_cons.mpr ⟨ww_str (hts _ (lwt4 (List.mem_of_getElem? (i := 10) (by decide +kernel)))) (hs _ (by decide +kernel)), List.forall_mem_cons.mpr ⟨ww_str (hts _ (lwt4 (List.mem_of_getElem? (i := 22) (by decide +kernel)))) (hs _ (by decide +kernel)), List.forall_mem_cons.mpr ⟨ww_str (hts _ (lwt4 (List.mem_of_getElem? (i := 50) (by decide +kernel)))) (hs _ (by decide +kernel)), List.forall_mem_cons.mpr ⟨ww_str (hts _ (lwt4 (List.mem_of_getElem? (i := 72) (by decide +kernel)))) (hs _ (by decide +kernel)), List.forall_mem_cons.mpr ⟨ww_str (hts _ (lwt4 (List.mem_of_getElem? (i := 147) (by decide +kernel)))) (hs _ (by decide +kernel)), List.forall_mem_cons.mpr ⟨ww_str (hts _ (lwt3 (List.mem_of_getElem? (i := 4) (by decide +kernel)))) (hs _ (by decide +kernel)), List.forall_mem_cons.mpr ⟨ww_str (hts _ (lwt2 (List.mem_of_getElem? (i := 172) (by decide +kernel)))) (hs _ (by decide +kernel)), List.forall_mem_cons.mpr ⟨ww_str (hts _ (lwt3 (List.mem_of_getElem? (i := 27) (by decide +kernel)))) (hs _ (by decide +kernel)), List.forall_mem_cons.mpr ⟨ww_str (hts _ (lwt3 (List.mem_of_getElem? (i := 66) (by decide +kernel)))) (hs _ (by decide +kernel)), List.forall_mem_cons.mpr ⟨ww_str (hts _ (lwt3 (List.mem_of_getElem? (i := 83) (by decide +kernel)))) (hs _ (by decide +kernel)), List.forall_mem_cons.mpr ⟨ww_str (hts _ (lwt2 (List.mem_of_getElem? (i := 83) (by decide +kernel)))) (hs _ (by decide +kernel)), List.forall_mem_cons.mpr ⟨ww_str (hts _ (lwt4 (List.mem_of_getElem? (i := 67) (by decide +kernel)))) (hs _ (by decide +kernel)), List.forall_mem_cons.mpr ⟨ww_str (hts _ (lwt4 (List.mem_of_getElem? (i := 42) (by decide +kernel)))) (hs _ (by decide +kernel)), List.forall_mem_cons.mpr ⟨ww_str (hts _ (lwt4 (List.mem_of_getElem? (i := 34) (by decide +kernel)))) (hs _ (by decide +kernel)), fun _ h => absurd h List.not_mem_nil⟩⟩⟩⟩⟩⟩⟩⟩⟩⟩⟩⟩⟩⟩⟩⟩⟩⟩⟩⟩⟩⟩⟩⟩⟩
theorem ww_CST (hts : ∀ w ∈ lw_tbl, w.before args s = true) : ∀ x ∈ CST, va_Nw (.castable x.1 x.2) s :=
  List.forall_mem_cons.mpr ⟨va_Nw.of rfl (hts _ (lwt2 (List.mem_of_getElem? (i := 165) (by decide +kernel)))), List.forall_mem_cons.mpr ⟨va_Nw.of rfl (hts _ (lwt2 (List.mem_of_getElem? (i := 44) (by decide +kernel)))), List.forall_mem_cons.mpr ⟨va_Nw.of rfl (hts _ (lwt2 (List.mem_of_getElem? (i := 237) (by decide +kernel)))), List.forall_mem_cons.mpr ⟨va_Nw.of rfl (hts _ (lwt7 (List.mem_of_getElem? (i := 12) (by decide +kernel)))), List.forall_mem_cons.mpr ⟨va_Nw.of rfl (hts _ (lwt7 (List.mem_of_getElem? (i := 15) (by decide +kernel)))), List.forall_mem_cons.mpr ⟨va_Nw.of rfl (hts _ (lwt7 (List.mem_of_getElem? (i := 22) (by decide +kernel)))), fun _ h => absurd h List.not_mem_nil⟩⟩⟩⟩⟩⟩
theorem ww_NCS (hs : ∀ w ∈ flatC (Cond.and given_1 narrow_1), w.before args s = true) : ∀ x ∈ NCS, va_Nc x.1 x.2 s :=
  List.forall_mem_cons.mpr ⟨va_Nc.of (hs _ (by decide +kernel)), List.forall_mem_cons.mpr ⟨va_Nc.of (hs _ (by decide +kernel)), List.forall_mem_cons.mpr ⟨va_Nc.of (hs _ (by decide +kernel)), List.forall_mem_cons.mpr ⟨va_Nc.of (hs _ (by decide +kernel)), List.forall_mem_cons.mpr ⟨va_Nc.of (hs _ (by decide +kernel)), List.forall_mem_cons.mpr ⟨va_Nc.of (hs _ (by decide +kernel)), fun _ h => absurd h List.not_mem_nil⟩⟩⟩⟩⟩⟩
theorem ww_DCL (hts : ∀ w ∈ lw_tbl, w.before args s = true) : ∀ x ∈ DCL, va_Nw (.declares x) s :=
  List.forall_mem_cons.mpr ⟨va_Nw.of rfl (hts _ (lwt2 (List.mem_of_getElem? (i := 46) (by decide +kernel)))), List.forall_mem_cons.mpr ⟨va_Nw.of rfl (hts _ (lwt2 (List.mem_of_getElem? (i := 48) (by decide +kernel)))), List.forall_mem_cons.mpr ⟨va_Nw.of rfl (hts _ (lwt2 (List.mem_of_getElem? (i := 50) (by decide +kernel)))), List.forall_mem_cons.mpr ⟨va_Nw.of rfl (hts _ (lwt7 (List.mem_of_getElem? (i := 20) (by decide +kernel)))), fun _ h => absurd h List.not_mem_nil⟩⟩⟩⟩
theorem ww_Fw (hts : ∀ w ∈ lw_tbl, w.before args s = true) : va_Fw RJx35411 yI_hasNext yJx35411_hasNext_aae02 s ∧ va_Fw RJx35411 yI_next yJx35411_next_0502b s ∧ va_Nw (.fieldLinkNest "java/util/ArrayList$Itr" 28 "java/util/ArrayList" "size" "I" "java/util/ArrayList") s :=
  ⟨va_Fw.of (hts _ (lwt6 (List.mem_of_getElem? (i := 5) (by decide +kernel)))) (hts _ (lwt6 (List.mem_of_getElem? (i := 4) (by decide +kernel)))) (hts _ (lwt6 (List.mem_of_getElem? (i := 10) (by decide +kernel)))) (hts _ (lwt6 (List.mem_of_getElem? (i := 8) (by decide +kernel)))) (hts _ (lwt6 (List.mem_of_getElem? (i := 6) (by decide +kernel)))), va_Fw.of (hts _ (lwt6 (List.mem_of_getElem? (i := 15) (by decide +kernel)))) (hts _ (lwt6 (List.mem_of_getElem? (i := 14) (by decide +kernel)))) (hts _ (lwt6 (List.mem_of_getElem? (i := 19) (by decide +kernel)))) (hts _ (lwt6 (List.mem_of_getElem? (i := 17) (by decide +kernel)))) (hts _ (lwt6 (List.mem_of_getElem? (i := 6) (by decide +kernel)))), va_Nw.of rfl (hts _ (lwt4 (List.mem_of_getElem? (i := 178) (by decide +kernel))))⟩
theorem ww_len {t : Term} {a : Addr} {cell : Cell} {v : Value} (ht : t.eval args s none [] s = some (.ref a)) (hc : s.arrayAt? a = some cell) (h : (Term.length t).eval args s none [] s = some v) : cell.slots.size < 2147483648 := by
  simp only [Term.eval, Option.bind_eq_bind, ht, Option.bind_some, hc] at h
  by_cases hn : cell.slots.size < 2147483648
  · exact hn
  · simp [hn] at h
/-- the empty array -/
theorem ww_empty {cO : ClassId} (hs : ∀ w ∈ flatC (Cond.and given_1 narrow_1), w.before args s = true) (hO : va_RA s cO (.object "java/lang/Object")) : ∃ (q : Nat) (cell : Cell), (Term.static "java/util/ArrayList" "DEFAULTCAPACITY_EMPTY_ELEMENTDATA" "[Ljava/lang/Object;").eval args s none [] s = some (.ref q) ∧ s.heap[q]? = some cell ∧ cell.cls = cO ∧ (cell.vm ≠ .unknown ∧ cell.vm.isStatics = false) ∧ cell.slots.size = 0 ∧ s.isArrayOf cell (.object "java/lang/Object") := by
  have h1 : (Cond.exactly (.static "java/util/ArrayList" "DEFAULTCAPACITY_EMPTY_ELEMENTDATA" "[Ljava/lang/Object;") "[Ljava/lang/Object;").before args s = true := hs _ (by decide +kernel)
  have h2 : (Cond.arrayOf (.static "java/util/ArrayList" "DEFAULTCAPACITY_EMPTY_ELEMENTDATA" "[Ljava/lang/Object;") (.object "java/lang/Object")).before args s = true := hs _ (by decide +kernel)
  have h3 : (Cond.eq (.length (.static "java/util/ArrayList" "DEFAULTCAPACITY_EMPTY_ELEMENTDATA" "[Ljava/lang/Object;")) (.int 0)).before args s = true := hs _ (by decide +kernel)
  obtain ⟨q, c, cell, k, e1, e2, e3, e4, e5, e6, -⟩ := Cond.exactly_spec h1
  obtain ⟨f1, f2⟩ := Cond.arrayOf_spec h2 e1 e3
  have e7 : s.vm.findClass "[Ljava/lang/Object;" = some cO := va_nmO hO rfl
  have e8 : c = cO := Option.some.inj (e2.symm.trans e7)
  have e9 : (Term.length (.static "java/util/ArrayList" "DEFAULTCAPACITY_EMPTY_ELEMENTDATA" "[Ljava/lang/Object;")).eval args s none [] s = some (.int 0) := by
    cases hv : (Term.length (.static "java/util/ArrayList" "DEFAULTCAPACITY_EMPTY_ELEMENTDATA" "[Ljava/lang/Object;")).eval args s none [] s with
    | none =>
      have h4 : (Cond.eq (.length (.static "java/util/ArrayList" "DEFAULTCAPACITY_EMPTY_ELEMENTDATA" "[Ljava/lang/Object;")) (.int 0)).holds args s none s [] = true := h3
      simp [Cond.holds, Cond.value, hv] at h4
    | some v =>
      obtain ⟨a, cell', -, -, rfl⟩ := Term.length_spec hv
      have h4 : (Cond.eq (.length (.static "java/util/ArrayList" "DEFAULTCAPACITY_EMPTY_ELEMENTDATA" "[Ljava/lang/Object;")) (.int 0)).holds args s none s [] = true := h3
      unfold Cond.holds at h4
      rw [Cond.eq_ints hv (show (Term.int 0).eval args s none [] s = some (.int 0) from rfl)] at h4
      have h5 : cell'.slots.size.toInt32 = 0 := by simpa using h4
      rw [h5]
  obtain ⟨a, cell', g1, g2, g3⟩ := Term.length_spec e9
  have e10 : a = q := by
    have := g1.symm.trans e1
    injection this with this
    injection this
  subst e10
  have e11 : cell' = cell := Option.some.inj ((State.arrayAt?_spec g2).1.symm.trans e3)
  subst e11
  have g4 : cell'.slots.size < 2147483648 := ww_len e1 g2 e9
  refine ⟨a, cell', e1, e3, e6.trans e8, ⟨f2, e5⟩, ?_, f1⟩
  injection g3 with g5
  have g6 : (0 : Int32).toNatClampNeg = (Int32.ofNat cell'.slots.size).toNatClampNeg := congrArg Int32.toNatClampNeg g5
  rw [show (Int32.ofNat cell'.slots.size).toNatClampNeg = cell'.slots.size from nN_nat g4] at g6
  exact g6.symm
theorem ww_CA (hts : ∀ w ∈ lw_tbl, w.before args s = true) (hs : ∀ w ∈ flatC (Cond.and given_1 narrow_1), w.before args s = true) {b L : Nat} {xs : Nat → Int32} (hX : va_X b L xs s s.heap) : ∃ cA : Nat → ClassId, (∀ (k : Nat) (q : ClassId × FieldType), (kTy cA)[k]? = some q → ArrOfT s q.1 q.2 ∧ va_RA s q.1 q.2) ∧ va_Mi "[Ljava/lang/Object;" (cA 200) s ∧ ArrOfT s (cA 201) .int ∧ ∃ cell : Cell, s.heap[b]? = some cell ∧ cell.cls = cA 201 := by
  obtain ⟨c0, a0, b0⟩ := ww_arr (s := s) (args := args) (ty := .int) (hts _ (lwt1 (List.mem_of_getElem? (i := 96) (by decide +kernel))))
  obtain ⟨c1, a1, b1⟩ := ww_arr (s := s) (args := args) (ty := .boolean) (hts _ (lwt1 (List.mem_of_getElem? (i := 97) (by decide +kernel))))
  obtain ⟨c2, a2, b2⟩ := ww_arr (s := s) (args := args) (ty := .long) (hts _ (lwt6 (List.mem_of_getElem? (i := 238) (by decide +kernel))))
  obtain ⟨c3, a3, b3⟩ := ww_arr (s := s) (args := args) (ty := .double) (hts _ (lwt6 (List.mem_of_getElem? (i := 239) (by decide +kernel))))
  obtain ⟨c4, a4, b4⟩ := ww_arrO (s := s) (args := args) (n := "java/lang/Object") (hts _ (lwt5 (List.mem_of_getElem? (i := 124) (by decide +kernel))))
  obtain ⟨c5, a5, b5⟩ := ww_arrA (s := s) (args := args) (ty := .int) (hts _ (lwt1 (List.mem_of_getElem? (i := 43) (by decide +kernel))))
  obtain ⟨mi0, hmi⟩ := va_Mi.of (args := args) (s := s) (C := "[Ljava/lang/Object;") (hs _ (by decide +kernel))
  obtain ⟨scr, x1, ⟨x2, kA, x3, comp, x4⟩, x5⟩ := hX
  refine ⟨fun k => if k = 100 then c0 else if k = 101 then c1 else if k = 102 then c2 else if k = 103 then c3 else if k = 104 then c4 else if k = 105 then c5 else if k = 200 then mi0 else scr.cls, ?_, hmi, fun N z => ⟨(fun k h => by cases h), kA, x3, comp, x4⟩, scr, x1, rfl⟩
  intro k q hq
  match k with
  | 0 => have e : (c0, FieldType.int) = q := Option.some.inj hq; subst e; exact ⟨a0, b0⟩
  | 1 => have e : (c1, FieldType.boolean) = q := Option.some.inj hq; subst e; exact ⟨a1, b1⟩
  | 2 => have e : (c2, FieldType.long) = q := Option.some.inj hq; subst e; exact ⟨a2, b2⟩
  | 3 => have e : (c3, FieldType.double) = q := Option.some.inj hq; subst e; exact ⟨a3, b3⟩
  | 4 => have e : (c4, FieldType.object "java/lang/Object") = q := Option.some.inj hq; subst e; exact ⟨a4, b4⟩
  | 5 => have e : (c5, FieldType.array .int) = q := Option.some.inj hq; subst e; exact ⟨a5, b5⟩
  | n + 6 => exact absurd (List.getElem?_eq_some_iff.mp hq).1 (by show ¬ n + 6 < 6; omega)
/-- where the script and the empty array lie at the start -/
def loc00 (b q : Nat) : Nat → Nat → Nat := fun t _ => if t = 0 then b else q
theorem m00_PA {b q L : Nat} {xs : Nat → Int32} {a : Nat} : ¬ PA (loc00 b q) (m00 L xs) a := by
  rintro ⟨t, i, h2, h3, -⟩
  have : mc (m00 L xs) t = 0 := if_neg (by omega)
  omega
theorem ww_start (hts : ∀ w ∈ lw_tbl, w.before args s = true) (hs : ∀ w ∈ flatC (Cond.and given_1 narrow_1), w.before args s = true) {b L : Nat} {xs : Nat → Int32} (hX : va_X b L xs s s.heap) : ∃ (D : va_G) (cA : Nat → ClassId) (q : Nat), VF D cA s ∧ HF (loc00 b q) (m00 L xs) s s.heap ∧ va_P D vwCl (aw cA (loc00 b q) (m00 L xs)) s.heap ∧ ab_D cA (loc00 b q) (m00 L xs) s.heap ∧ wfM (m00 L xs) := by
  obtain ⟨D, hD⟩ := ww_kn hts
  obtain ⟨cA, hA, hM, h201, scr', s1, s2⟩ := ww_CA hts hs hX
  have hO : va_RA s (cA 104) (.object "java/lang/Object") := (hA 4 (cA 104, .object "java/lang/Object") rfl).2
  obtain ⟨q, cell, q1, q2, q3, q4, q5, q6⟩ := ww_empty hs hO
  obtain ⟨f1, f2, f3⟩ := ww_Fw hts
  refine ⟨D, cA, q, ⟨⟨hD, hA⟩, va_AO.of (hts _ (lwt5 (List.mem_of_getElem? (i := 124) (by decide +kernel)))), ⟨(show va_AOA .int s from (show (Cond.arrayOver (.array .int)).before args s = true from hts _ (lwt1 (List.mem_of_getElem? (i := 43) (by decide +kernel))))), hM, h201⟩, ww_NST hts, ww_STR hts hs, f1, f2, ww_CST hts, ww_NCS hs, f3, ww_DCL hts⟩, ⟨va_Zref (hts _ (lwt4 (List.mem_of_getElem? (i := 175) (by decide +kernel)))) (hts _ (lwt1 (List.mem_of_getElem? (i := 11) (by decide +kernel)))) q1 (fun a _ => m00_PA), vx_Zqof (hts _ (lwt2 (List.mem_of_getElem? (i := 69) (by decide +kernel)))) (hts _ (lwt1 (List.mem_of_getElem? (i := 12) (by decide +kernel)))) (hs _ (by decide +kernel)) (fun a _ => m00_PA), vx_Zqof (hts _ (lwt2 (List.mem_of_getElem? (i := 71) (by decide +kernel)))) (hts _ (lwt1 (List.mem_of_getElem? (i := 12) (by decide +kernel)))) (hs _ (by decide +kernel)) (fun a _ => m00_PA)⟩, ?_, ⟨⟨?_, ?_⟩, ?_, ?_, ?_⟩, ?_, ?_⟩
  · intro k x hx
    cases hx
  · intro i j x y hi
    cases hi
  · intro k x hx
    cases hx
  · intro i _
    obtain ⟨scr, x1, x2, x3, x4, x5⟩ := hX
    have e : scr' = scr := Option.some.inj (s1.symm.trans x1)
    subst e
    refine ⟨scr', x1, s2, ⟨x3, ?_⟩, x4, fun j hj => x5 j hj⟩
    cases hv : scr'.vm <;> first | rfl | exact absurd hv (x2.1 _)
  · intro i _
    exact ⟨rfl, cell, q2, q3, q4, q5⟩
  · have hne : b ≠ q := by
      intro e
      obtain ⟨scr, x1, ⟨-, k1, x2, comp, x3⟩, -⟩ := hX
      obtain ⟨-, k2, y2, comp2, y3⟩ := q6
      rw [e, q2] at x1
      cases x1
      rw [x2] at y2
      cases y2
      rw [x3] at y3
      cases y3
    have z : ∀ t i, i < mc (m00 L xs) t → (t = 0 ∨ t = 1) ∧ i = 0 := by
      intro t i hi
      by_cases w : t = 0 ∨ t = 1
      · have : mc (m00 L xs) t = 1 := if_pos w
        exact ⟨w, by omega⟩
      · have : mc (m00 L xs) t = 0 := if_neg w
        omega
    intro t i u j _ hi hj e
    obtain ⟨a1, a2⟩ := z t i hi
    obtain ⟨b1, b2⟩ := z u j hj
    subst a2
    subst b2
    refine ⟨?_, rfl⟩
    rcases a1 with rfl | rfl <;> rcases b1 with rfl | rfl
    · rfl
    · exact absurd e hne
    · exact absurd e.symm hne
    · rfl
  · intro x
    constructor
    · intro h
      cases h
    · rintro ⟨h1, h2⟩
      have : mc (m00 L xs) x.1 = 0 := if_neg (by omega)
      omega
  · intro t i k x hi hx
    have w : t = 0 ∨ t = 1 := by
      by_cases w : t = 0 ∨ t = 1
      · exact w
      · have : mc (m00 L xs) t = 0 := if_neg w
        omega
    have hx2 : r00 t i k = some x := hx
    unfold r00 at hx2
    rw [if_neg (by omega), if_neg (by omega), if_neg (by omega)] at hx2
    cases hx2
end WW
