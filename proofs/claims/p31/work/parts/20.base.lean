/-! running the abstract machine by simp: rows for it; the class's cells -/
theorem run_hit {K : ab_K} {R : ab_R → Prop} {p : Nat} {f : ab_F} {T : ab_T} {ls : ab_L} {st : List ab_V} {m : ab_M} : run K R ((p, some f) :: T) p ls st m = f (run K R T) R ls st m := if_pos rfl
theorem run_miss {K : ab_K} {R : ab_R → Prop} {p : Nat} {f : ab_F} {T : ab_T} {pc : Nat} {ls : ab_L} {st : List ab_V} {m : ab_M} (h : ¬ pc = p) : run K R ((p, some f) :: T) pc ls st m = run K R T pc ls st m := if_neg h
theorem run_none {K : ab_K} {R : ab_R → Prop} {p : Nat} {T : ab_T} {pc : Nat} {ls : ab_L} {st : List ab_V} {m : ab_M} : run K R ((p, none) :: T) pc ls st m = if pc = p then K pc ls st m else run K R T pc ls st m := rfl
theorem run_nil {K : ab_K} {R : ab_R → Prop} {pc : Nat} {ls : ab_L} {st : List ab_V} {m : ab_M} : run K R [] pc ls st m = K pc ls st m := rfl
theorem ab_get0 {a : Option ab_V} {l : ab_L} : (a :: l)[0]? = some a := rfl
theorem ab_getS {a : Option ab_V} {l : ab_L} {n : Nat} : (a :: l)[n + 1]? = l[n]? := rfl
def clr (o : Option ab_V) : Option ab_V := match o with
  | some w => if wide w = true then none else some w
  | none => none
theorem clr_I {x : Int32} : clr (some (.inl x)) = some (.inl x) := rfl
theorem clr_R {x : Option (Nat × Nat)} : clr (some (.inr (.inr (.inr (.inl x))))) = some (.inr (.inr (.inr (.inl x)))) := rfl
theorem clr_X {x : Nat} : clr (some (.inr (.inr (.inr (.inr x))))) = some (.inr (.inr (.inr (.inr x)))) := rfl
theorem clr_L {x : Int64} : clr (some (.inr (.inl x))) = none := rfl
theorem clr_D {x : UInt64} : clr (some (.inr (.inr (.inl x)))) = none := rfl
theorem clr_N : clr none = none := rfl
theorem st1_0 {v : ab_V} {a : Option ab_V} {l : ab_L} : st1 (a :: l) 0 v = some v :: l := by simp [st1]
theorem st1_1 {v : ab_V} {a0 a1 : Option ab_V} {l : ab_L} : st1 (a0 :: a1 :: l) 1 v = clr a0 :: some v :: l := by
  cases a0 <;> simp [st1, clr]
theorem st1_2 {v : ab_V} {a0 a1 a2 : Option ab_V} {l : ab_L} : st1 (a0 :: a1 :: a2 :: l) 2 v = a0 :: clr a1 :: some v :: l := by
  cases a1 <;> simp [st1, clr]
theorem st1_3 {v : ab_V} {a0 a1 a2 a3 : Option ab_V} {l : ab_L} : st1 (a0 :: a1 :: a2 :: a3 :: l) 3 v = a0 :: a1 :: clr a2 :: some v :: l := by
  cases a2 <;> simp [st1, clr]
theorem st1_4 {v : ab_V} {a0 a1 a2 a3 a4 : Option ab_V} {l : ab_L} : st1 (a0 :: a1 :: a2 :: a3 :: a4 :: l) 4 v = a0 :: a1 :: a2 :: clr a3 :: some v :: l := by
  cases a3 <;> simp [st1, clr]
theorem st1_5 {v : ab_V} {a0 a1 a2 a3 a4 a5 : Option ab_V} {l : ab_L} : st1 (a0 :: a1 :: a2 :: a3 :: a4 :: a5 :: l) 5 v = a0 :: a1 :: a2 :: a3 :: clr a4 :: some v :: l := by
  cases a4 <;> simp [st1, clr]
theorem st1_6 {v : ab_V} {a0 a1 a2 a3 a4 a5 a6 : Option ab_V} {l : ab_L} : st1 (a0 :: a1 :: a2 :: a3 :: a4 :: a5 :: a6 :: l) 6 v = a0 :: a1 :: a2 :: a3 :: a4 :: clr a5 :: some v :: l := by
  cases a5 <;> simp [st1, clr]
theorem st1_7 {v : ab_V} {a0 a1 a2 a3 a4 a5 a6 a7 : Option ab_V} {l : ab_L} : st1 (a0 :: a1 :: a2 :: a3 :: a4 :: a5 :: a6 :: a7 :: l) 7 v = a0 :: a1 :: a2 :: a3 :: a4 :: a5 :: clr a6 :: some v :: l := by
  cases a6 <;> simp [st1, clr]
theorem st1_8 {v : ab_V} {a0 a1 a2 a3 a4 a5 a6 a7 a8 : Option ab_V} {l : ab_L} : st1 (a0 :: a1 :: a2 :: a3 :: a4 :: a5 :: a6 :: a7 :: a8 :: l) 8 v = a0 :: a1 :: a2 :: a3 :: a4 :: a5 :: a6 :: clr a7 :: some v :: l := by
  cases a7 <;> simp [st1, clr]
theorem st2_0 {v : ab_V} {a0 a1 : Option ab_V} {l : ab_L} : st2 (a0 :: a1 :: l) 0 v = some v :: none :: l := by
  unfold st2; rw [st1_0]; rfl
theorem st2_1 {v : ab_V} {a0 a1 a2 : Option ab_V} {l : ab_L} : st2 (a0 :: a1 :: a2 :: l) 1 v = clr a0 :: some v :: none :: l := by
  unfold st2; rw [st1_1]; rfl
theorem st2_2 {v : ab_V} {a0 a1 a2 a3 : Option ab_V} {l : ab_L} : st2 (a0 :: a1 :: a2 :: a3 :: l) 2 v = a0 :: clr a1 :: some v :: none :: l := by
  unfold st2; rw [st1_2]; rfl
theorem st2_3 {v : ab_V} {a0 a1 a2 a3 a4 : Option ab_V} {l : ab_L} : st2 (a0 :: a1 :: a2 :: a3 :: a4 :: l) 3 v = a0 :: a1 :: clr a2 :: some v :: none :: l := by
  unfold st2; rw [st1_3]; rfl
theorem st2_4 {v : ab_V} {a0 a1 a2 a3 a4 a5 : Option ab_V} {l : ab_L} : st2 (a0 :: a1 :: a2 :: a3 :: a4 :: a5 :: l) 4 v = a0 :: a1 :: a2 :: clr a3 :: some v :: none :: l := by
  unfold st2; rw [st1_4]; rfl
theorem st2_5 {v : ab_V} {a0 a1 a2 a3 a4 a5 a6 : Option ab_V} {l : ab_L} : st2 (a0 :: a1 :: a2 :: a3 :: a4 :: a5 :: a6 :: l) 5 v = a0 :: a1 :: a2 :: a3 :: clr a4 :: some v :: none :: l := by
  unfold st2; rw [st1_5]; rfl
theorem st2_6 {v : ab_V} {a0 a1 a2 a3 a4 a5 a6 a7 : Option ab_V} {l : ab_L} : st2 (a0 :: a1 :: a2 :: a3 :: a4 :: a5 :: a6 :: a7 :: l) 6 v = a0 :: a1 :: a2 :: a3 :: a4 :: clr a5 :: some v :: none :: l := by
  unfold st2; rw [st1_6]; rfl
theorem st2_7 {v : ab_V} {a0 a1 a2 a3 a4 a5 a6 a7 a8 : Option ab_V} {l : ab_L} : st2 (a0 :: a1 :: a2 :: a3 :: a4 :: a5 :: a6 :: a7 :: a8 :: l) 7 v = a0 :: a1 :: a2 :: a3 :: a4 :: a5 :: clr a6 :: some v :: none :: l := by
  unfold st2; rw [st1_7]; rfl
theorem wide_I {x : Int32} : wide (.inl x) = false := rfl
theorem wide_L {x : Int64} : wide (.inr (.inl x)) = true := rfl
theorem wide_D {x : UInt64} : wide (.inr (.inr (.inl x))) = true := rfl
theorem wide_R {x : Option (Nat × Nat)} : wide (.inr (.inr (.inr (.inl x)))) = false := rfl
theorem wide_X {x : Nat} : wide (.inr (.inr (.inr (.inr x)))) = false := rfl
theorem i10 : ((1 : Int32) = 0) = False := eq_false (by decide)
theorem rcv_999 {as : List ab_V} : rcv 999 as = True := propext ⟨fun _ => trivial, fun _ => Or.inl rfl⟩
theorem u3_ap {α : Type} {f : Nat → Nat → Nat → α} {s i k a b c : Nat} {v : α} : u3 f s i k v a b c = if a = s ∧ b = i ∧ c = k then v else f a b c := rfl
theorem u2_ap {α : Type} {f : Nat → Nat → α} {s i a b : Nat} {v : α} : u2 f s i v a b = if a = s ∧ b = i then v else f a b := rfl
theorem rcv_some {k : Nat} {x : Nat × Nat} {r : List ab_V} : rcv k (.inr (.inr (.inr (.inl (some x)))) :: r) = (k = 999 ∨ SK x.1 = k) := rfl
theorem ctr_of2 {l : Launch} {D : va_G} {cA : Nat → ClassId} {d nL : Nat} {y : MethodName} {cc : ByteArray} {ret : Option FieldType} {T : ab_T} {as : List ab_V} {m : ab_M} {o : ab_O} (hpl : plainName y.cls = true)
    (hst : l.stackTraces = false) (hd : 1 ≤ d) (hS : Sound l D cA d nL y cc ret [] T) (hm : MonoT T) (h : ∀ r, o = some r → (eL as).length ≤ nL ∧ (mnc m ≤ mnc (resM r) ∧ mns m ≤ mns (resM r)) ∧ ∀ K : ab_K, Closed T (fun r' => r' = r) K → run K (fun r' => r' = r) T 0 (entry nL as) [] m) : Ctr l D cA d y (Cond.code y cc nL ret :: TB) as m o :=
  ctr_of hpl hst hd hS (fun r hr => (h r hr).1) (fun r hr => (h r hr).2.1) (fun r hr => Comes_to.of hm (h r hr).2.2)
def CRr : List ((Nat × Nat × Nat) × (Nat × Nat)) := [((61, 0, 0), (35, 0)), ((61, 0, 1), (36, 0)), ((61, 0, 2), (37, 0)), ((61, 0, 3), (38, 0)), ((61, 0, 4), (39, 0)), ((61, 0, 5), (40, 0)), ((35, 0, 1), (5, 0)), ((35, 0, 2), (6, 0)), ((35, 0, 3), (7, 0)), ((35, 0, 4), (8, 0)), ((35, 0, 5), (9, 0)), ((35, 0, 6), (10, 0)), ((35, 0, 7), (11, 0)), ((35, 0, 8), (12, 0)), ((35, 0, 9), (13, 0)), ((35, 0, 10), (14, 0)), ((35, 0, 11), (16, 0)), ((36, 0, 1), (3, 0)), ((36, 0, 2), (4, 0)), ((37, 0, 1), (22, 0)), ((37, 0, 2), (23, 0)), ((37, 0, 3), (24, 0)), ((37, 0, 4), (25, 0)), ((38, 0, 1), (26, 0)), ((38, 0, 2), (27, 0)), ((38, 0, 3), (28, 0)), ((38, 0, 4), (29, 0)), ((38, 0, 5), (30, 0)), ((38, 0, 6), (31, 0)), ((38, 0, 7), (32, 0)), ((38, 0, 8), (33, 0)), ((39, 0, 0), (35, 0)), ((39, 0, 1), (2, 0)), ((40, 0, 0), (18, 0)), ((40, 0, 1), (35, 0)), ((40, 0, 2), (38, 0)), ((40, 0, 3), (19, 0)), ((40, 0, 4), (20, 0)), ((40, 0, 5), (21, 0))]
def CRn : List (Nat × Nat) := [(2, 12), (3, 4), (4, 4), (14, 12), (16, 12), (18, 4), (19, 4), (20, 12), (21, 12), (33, 12), (5, 12), (6, 12), (7, 12), (8, 12), (9, 12), (10, 12), (11, 12), (12, 12), (13, 12), (22, 8), (23, 8), (24, 8), (25, 8), (26, 12), (27, 12), (28, 12), (29, 12), (30, 12), (31, 12), (32, 12)]
/-- the class's cells lie as its constructors laid them -/
def CR (m : ab_M) : Prop := (∀ x ∈ CRr, mr m x.1.1 x.1.2.1 x.1.2.2 = some x.2) ∧ (∀ x ∈ CRn, mn m x.1 0 = x.2) ∧ ∀ i, i < 12 → mr m 14 0 i = some (15, i) ∧ mr m 16 0 i = some (17, i) ∧ mr m 33 0 i = some (34, i) ∧ mn m 15 i = 10 ∧ mn m 17 i = 10 ∧ mn m 34 i = 12
theorem cr_61_0 {m : ab_M} (h : CR m) : mr m 61 0 0 = some (35, 0) := h.1 ((61, 0, 0), (35, 0)) (by decide +kernel)
theorem cr_61_1 {m : ab_M} (h : CR m) : mr m 61 0 1 = some (36, 0) := h.1 ((61, 0, 1), (36, 0)) (by decide +kernel)
theorem cr_61_2 {m : ab_M} (h : CR m) : mr m 61 0 2 = some (37, 0) := h.1 ((61, 0, 2), (37, 0)) (by decide +kernel)
theorem cr_61_3 {m : ab_M} (h : CR m) : mr m 61 0 3 = some (38, 0) := h.1 ((61, 0, 3), (38, 0)) (by decide +kernel)
theorem cr_61_4 {m : ab_M} (h : CR m) : mr m 61 0 4 = some (39, 0) := h.1 ((61, 0, 4), (39, 0)) (by decide +kernel)
theorem cr_61_5 {m : ab_M} (h : CR m) : mr m 61 0 5 = some (40, 0) := h.1 ((61, 0, 5), (40, 0)) (by decide +kernel)
theorem cr_35_1 {m : ab_M} (h : CR m) : mr m 35 0 1 = some (5, 0) := h.1 ((35, 0, 1), (5, 0)) (by decide +kernel)
theorem cr_35_2 {m : ab_M} (h : CR m) : mr m 35 0 2 = some (6, 0) := h.1 ((35, 0, 2), (6, 0)) (by decide +kernel)
theorem cr_35_3 {m : ab_M} (h : CR m) : mr m 35 0 3 = some (7, 0) := h.1 ((35, 0, 3), (7, 0)) (by decide +kernel)
theorem cr_35_4 {m : ab_M} (h : CR m) : mr m 35 0 4 = some (8, 0) := h.1 ((35, 0, 4), (8, 0)) (by decide +kernel)
theorem cr_35_5 {m : ab_M} (h : CR m) : mr m 35 0 5 = some (9, 0) := h.1 ((35, 0, 5), (9, 0)) (by decide +kernel)
theorem cr_35_6 {m : ab_M} (h : CR m) : mr m 35 0 6 = some (10, 0) := h.1 ((35, 0, 6), (10, 0)) (by decide +kernel)
theorem cr_35_7 {m : ab_M} (h : CR m) : mr m 35 0 7 = some (11, 0) := h.1 ((35, 0, 7), (11, 0)) (by decide +kernel)
theorem cr_35_8 {m : ab_M} (h : CR m) : mr m 35 0 8 = some (12, 0) := h.1 ((35, 0, 8), (12, 0)) (by decide +kernel)
theorem cr_35_9 {m : ab_M} (h : CR m) : mr m 35 0 9 = some (13, 0) := h.1 ((35, 0, 9), (13, 0)) (by decide +kernel)
theorem cr_35_10 {m : ab_M} (h : CR m) : mr m 35 0 10 = some (14, 0) := h.1 ((35, 0, 10), (14, 0)) (by decide +kernel)
theorem cr_35_11 {m : ab_M} (h : CR m) : mr m 35 0 11 = some (16, 0) := h.1 ((35, 0, 11), (16, 0)) (by decide +kernel)
theorem cr_36_1 {m : ab_M} (h : CR m) : mr m 36 0 1 = some (3, 0) := h.1 ((36, 0, 1), (3, 0)) (by decide +kernel)
theorem cr_36_2 {m : ab_M} (h : CR m) : mr m 36 0 2 = some (4, 0) := h.1 ((36, 0, 2), (4, 0)) (by decide +kernel)
theorem cr_37_1 {m : ab_M} (h : CR m) : mr m 37 0 1 = some (22, 0) := h.1 ((37, 0, 1), (22, 0)) (by decide +kernel)
theorem cr_37_2 {m : ab_M} (h : CR m) : mr m 37 0 2 = some (23, 0) := h.1 ((37, 0, 2), (23, 0)) (by decide +kernel)
theorem cr_37_3 {m : ab_M} (h : CR m) : mr m 37 0 3 = some (24, 0) := h.1 ((37, 0, 3), (24, 0)) (by decide +kernel)
theorem cr_37_4 {m : ab_M} (h : CR m) : mr m 37 0 4 = some (25, 0) := h.1 ((37, 0, 4), (25, 0)) (by decide +kernel)
theorem cr_38_1 {m : ab_M} (h : CR m) : mr m 38 0 1 = some (26, 0) := h.1 ((38, 0, 1), (26, 0)) (by decide +kernel)
theorem cr_38_2 {m : ab_M} (h : CR m) : mr m 38 0 2 = some (27, 0) := h.1 ((38, 0, 2), (27, 0)) (by decide +kernel)
theorem cr_38_3 {m : ab_M} (h : CR m) : mr m 38 0 3 = some (28, 0) := h.1 ((38, 0, 3), (28, 0)) (by decide +kernel)
theorem cr_38_4 {m : ab_M} (h : CR m) : mr m 38 0 4 = some (29, 0) := h.1 ((38, 0, 4), (29, 0)) (by decide +kernel)
theorem cr_38_5 {m : ab_M} (h : CR m) : mr m 38 0 5 = some (30, 0) := h.1 ((38, 0, 5), (30, 0)) (by decide +kernel)
theorem cr_38_6 {m : ab_M} (h : CR m) : mr m 38 0 6 = some (31, 0) := h.1 ((38, 0, 6), (31, 0)) (by decide +kernel)
theorem cr_38_7 {m : ab_M} (h : CR m) : mr m 38 0 7 = some (32, 0) := h.1 ((38, 0, 7), (32, 0)) (by decide +kernel)
theorem cr_38_8 {m : ab_M} (h : CR m) : mr m 38 0 8 = some (33, 0) := h.1 ((38, 0, 8), (33, 0)) (by decide +kernel)
theorem cr_39_0 {m : ab_M} (h : CR m) : mr m 39 0 0 = some (35, 0) := h.1 ((39, 0, 0), (35, 0)) (by decide +kernel)
theorem cr_39_1 {m : ab_M} (h : CR m) : mr m 39 0 1 = some (2, 0) := h.1 ((39, 0, 1), (2, 0)) (by decide +kernel)
theorem cr_40_0 {m : ab_M} (h : CR m) : mr m 40 0 0 = some (18, 0) := h.1 ((40, 0, 0), (18, 0)) (by decide +kernel)
theorem cr_40_1 {m : ab_M} (h : CR m) : mr m 40 0 1 = some (35, 0) := h.1 ((40, 0, 1), (35, 0)) (by decide +kernel)
theorem cr_40_2 {m : ab_M} (h : CR m) : mr m 40 0 2 = some (38, 0) := h.1 ((40, 0, 2), (38, 0)) (by decide +kernel)
theorem cr_40_3 {m : ab_M} (h : CR m) : mr m 40 0 3 = some (19, 0) := h.1 ((40, 0, 3), (19, 0)) (by decide +kernel)
theorem cr_40_4 {m : ab_M} (h : CR m) : mr m 40 0 4 = some (20, 0) := h.1 ((40, 0, 4), (20, 0)) (by decide +kernel)
theorem cr_40_5 {m : ab_M} (h : CR m) : mr m 40 0 5 = some (21, 0) := h.1 ((40, 0, 5), (21, 0)) (by decide +kernel)
theorem cn_2 {m : ab_M} (h : CR m) : mn m 2 0 = 12 := h.2.1 (2, 12) (by decide +kernel)
theorem cn_3 {m : ab_M} (h : CR m) : mn m 3 0 = 4 := h.2.1 (3, 4) (by decide +kernel)
theorem cn_4 {m : ab_M} (h : CR m) : mn m 4 0 = 4 := h.2.1 (4, 4) (by decide +kernel)
theorem cn_14 {m : ab_M} (h : CR m) : mn m 14 0 = 12 := h.2.1 (14, 12) (by decide +kernel)
theorem cn_16 {m : ab_M} (h : CR m) : mn m 16 0 = 12 := h.2.1 (16, 12) (by decide +kernel)
theorem cn_18 {m : ab_M} (h : CR m) : mn m 18 0 = 4 := h.2.1 (18, 4) (by decide +kernel)
theorem cn_19 {m : ab_M} (h : CR m) : mn m 19 0 = 4 := h.2.1 (19, 4) (by decide +kernel)
theorem cn_20 {m : ab_M} (h : CR m) : mn m 20 0 = 12 := h.2.1 (20, 12) (by decide +kernel)
theorem cn_21 {m : ab_M} (h : CR m) : mn m 21 0 = 12 := h.2.1 (21, 12) (by decide +kernel)
theorem cn_33 {m : ab_M} (h : CR m) : mn m 33 0 = 12 := h.2.1 (33, 12) (by decide +kernel)
theorem cn_5 {m : ab_M} (h : CR m) : mn m 5 0 = 12 := h.2.1 (5, 12) (by decide +kernel)
theorem cn_6 {m : ab_M} (h : CR m) : mn m 6 0 = 12 := h.2.1 (6, 12) (by decide +kernel)
theorem cn_7 {m : ab_M} (h : CR m) : mn m 7 0 = 12 := h.2.1 (7, 12) (by decide +kernel)
theorem cn_8 {m : ab_M} (h : CR m) : mn m 8 0 = 12 := h.2.1 (8, 12) (by decide +kernel)
theorem cn_9 {m : ab_M} (h : CR m) : mn m 9 0 = 12 := h.2.1 (9, 12) (by decide +kernel)
theorem cn_10 {m : ab_M} (h : CR m) : mn m 10 0 = 12 := h.2.1 (10, 12) (by decide +kernel)
theorem cn_11 {m : ab_M} (h : CR m) : mn m 11 0 = 12 := h.2.1 (11, 12) (by decide +kernel)
theorem cn_12 {m : ab_M} (h : CR m) : mn m 12 0 = 12 := h.2.1 (12, 12) (by decide +kernel)
theorem cn_13 {m : ab_M} (h : CR m) : mn m 13 0 = 12 := h.2.1 (13, 12) (by decide +kernel)
theorem cn_22 {m : ab_M} (h : CR m) : mn m 22 0 = 8 := h.2.1 (22, 8) (by decide +kernel)
theorem cn_23 {m : ab_M} (h : CR m) : mn m 23 0 = 8 := h.2.1 (23, 8) (by decide +kernel)
theorem cn_24 {m : ab_M} (h : CR m) : mn m 24 0 = 8 := h.2.1 (24, 8) (by decide +kernel)
theorem cn_25 {m : ab_M} (h : CR m) : mn m 25 0 = 8 := h.2.1 (25, 8) (by decide +kernel)
theorem cn_26 {m : ab_M} (h : CR m) : mn m 26 0 = 12 := h.2.1 (26, 12) (by decide +kernel)
theorem cn_27 {m : ab_M} (h : CR m) : mn m 27 0 = 12 := h.2.1 (27, 12) (by decide +kernel)
theorem cn_28 {m : ab_M} (h : CR m) : mn m 28 0 = 12 := h.2.1 (28, 12) (by decide +kernel)
theorem cn_29 {m : ab_M} (h : CR m) : mn m 29 0 = 12 := h.2.1 (29, 12) (by decide +kernel)
theorem cn_30 {m : ab_M} (h : CR m) : mn m 30 0 = 12 := h.2.1 (30, 12) (by decide +kernel)
theorem cn_31 {m : ab_M} (h : CR m) : mn m 31 0 = 12 := h.2.1 (31, 12) (by decide +kernel)
theorem cn_32 {m : ab_M} (h : CR m) : mn m 32 0 = 12 := h.2.1 (32, 12) (by decide +kernel)

theorem cr_14 {m : ab_M} (h : CR m) {i : Nat} (hi : i < 12) : mr m 14 0 i = some (15, i) := (h.2.2 i hi).1
theorem cr_16 {m : ab_M} (h : CR m) {i : Nat} (hi : i < 12) : mr m 16 0 i = some (17, i) := (h.2.2 i hi).2.1
theorem cr_33 {m : ab_M} (h : CR m) {i : Nat} (hi : i < 12) : mr m 33 0 i = some (34, i) := (h.2.2 i hi).2.2.1
theorem cn_15 {m : ab_M} (h : CR m) {i : Nat} (hi : i < 12) : mn m 15 i = 10 := (h.2.2 i hi).2.2.2.1
theorem cn_17 {m : ab_M} (h : CR m) {i : Nat} (hi : i < 12) : mn m 17 i = 10 := (h.2.2 i hi).2.2.2.2.1
theorem cn_34 {m : ab_M} (h : CR m) {i : Nat} (hi : i < 12) : mn m 34 i = 12 := (h.2.2 i hi).2.2.2.2.2

