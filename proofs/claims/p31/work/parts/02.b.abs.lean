/-! The abstract machine: values, memory by allocation site, semantic functions of the instructions. Nothing of the JVM here. -/
abbrev ab_V : Type := Int32 ⊕ Int64 ⊕ UInt64 ⊕ Option (Nat × Nat) ⊕ Nat
abbrev vI (x : Int32) : ab_V := .inl x
abbrev vL (x : Int64) : ab_V := .inr (.inl x)
abbrev vD (x : UInt64) : ab_V := .inr (.inr (.inl x))
abbrev vR (r : Option (Nat × Nat)) : ab_V := .inr (.inr (.inr (.inl r)))
abbrev vX (a : Nat) : ab_V := .inr (.inr (.inr (.inr a)))
/-- a reference to the cell i of the site s -/
abbrev vA (s i : Nat) : ab_V := vR (some (s, i))
/-- ints, references, longs, doubles by site, number, slot; lengths; what is allocated, in order; how many of a site; cells and slots made -/
abbrev ab_M : Type := (Nat → Nat → Nat → Int32) × (Nat → Nat → Nat → Option (Nat × Nat)) × (Nat → Nat → Nat → Int64) × (Nat → Nat → Nat → UInt64) × (Nat → Nat → Nat) × List (Nat × Nat) × (Nat → Nat) × Nat × Nat
def mi (m : ab_M) : Nat → Nat → Nat → Int32 := m.1
def mr (m : ab_M) : Nat → Nat → Nat → Option (Nat × Nat) := m.2.1
def ml (m : ab_M) : Nat → Nat → Nat → Int64 := m.2.2.1
def md (m : ab_M) : Nat → Nat → Nat → UInt64 := m.2.2.2.1
def mn (m : ab_M) : Nat → Nat → Nat := m.2.2.2.2.1
def mdm (m : ab_M) : List (Nat × Nat) := m.2.2.2.2.2.1
def mc (m : ab_M) : Nat → Nat := m.2.2.2.2.2.2.1
def mnc (m : ab_M) : Nat := m.2.2.2.2.2.2.2.1
def mns (m : ab_M) : Nat := m.2.2.2.2.2.2.2.2
def u3 {α : Type} (f : Nat → Nat → Nat → α) (s i k : Nat) (v : α) : Nat → Nat → Nat → α := fun a b c => if a = s ∧ b = i ∧ c = k then v else f a b c
def u2 {α : Type} (f : Nat → Nat → α) (s i : Nat) (v : α) : Nat → Nat → α := fun a b => if a = s ∧ b = i then v else f a b
def u1 {α : Type} (f : Nat → α) (s : Nat) (v : α) : Nat → α := fun a => if a = s then v else f a
def sI (m : ab_M) (s i k : Nat) (v : Int32) : ab_M := (u3 (mi m) s i k v, m.2)
def sR (m : ab_M) (s i k : Nat) (v : Option (Nat × Nat)) : ab_M := (m.1, u3 (mr m) s i k v, m.2.2)
def sL (m : ab_M) (s i k : Nat) (v : Int64) : ab_M := (m.1, m.2.1, u3 (ml m) s i k v, m.2.2.2)
def sD (m : ab_M) (s i k : Nat) (v : UInt64) : ab_M := (m.1, m.2.1, m.2.2.1, u3 (md m) s i k v, m.2.2.2.2)
/-- a new cell of the site s, of the length L, that costs w slots -/
def al (m : ab_M) (s L w : Nat) : ab_M := (u2 (mi m) s (mc m s) (fun _ => 0), u2 (mr m) s (mc m s) (fun _ => none), u2 (ml m) s (mc m s) (fun _ => 0), u2 (md m) s (mc m s) (fun _ => 0), u2 (mn m) s (mc m s) L, mdm m ++ [(s, mc m s)], u1 (mc m) s (mc m s + 1), mnc m + 1, mns m + w)
/-- cells and slots that nobody sees again (an exception) -/
def bp (m : ab_M) (c w : Nat) : ab_M := (m.1, m.2.1, m.2.2.1, m.2.2.2.1, m.2.2.2.2.1, m.2.2.2.2.2.1, m.2.2.2.2.2.2.1, mnc m + c, mns m + w)
theorem mi_sI (m : ab_M) (s i k : Nat) (v : Int32) : mi (sI m s i k v) = u3 (mi m) s i k v := rfl
theorem mi_sR (m : ab_M) (s i k : Nat) (v) : mi (sR m s i k v) = mi m := rfl
theorem mi_sL (m : ab_M) (s i k : Nat) (v) : mi (sL m s i k v) = mi m := rfl
theorem mi_sD (m : ab_M) (s i k : Nat) (v) : mi (sD m s i k v) = mi m := rfl
theorem mi_al (m : ab_M) (s L w : Nat) : mi (al m s L w) = u2 (mi m) s (mc m s) (fun _ => 0) := rfl
theorem mi_bp (m : ab_M) (c w : Nat) : mi (bp m c w) = mi m := rfl
theorem mr_sI (m : ab_M) (s i k : Nat) (v) : mr (sI m s i k v) = mr m := rfl
theorem mr_sR (m : ab_M) (s i k : Nat) (v) : mr (sR m s i k v) = u3 (mr m) s i k v := rfl
theorem mr_sL (m : ab_M) (s i k : Nat) (v) : mr (sL m s i k v) = mr m := rfl
theorem mr_sD (m : ab_M) (s i k : Nat) (v) : mr (sD m s i k v) = mr m := rfl
theorem mr_al (m : ab_M) (s L w : Nat) : mr (al m s L w) = u2 (mr m) s (mc m s) (fun _ => none) := rfl
theorem mr_bp (m : ab_M) (c w : Nat) : mr (bp m c w) = mr m := rfl
theorem ml_sI (m : ab_M) (s i k : Nat) (v) : ml (sI m s i k v) = ml m := rfl
theorem ml_sR (m : ab_M) (s i k : Nat) (v) : ml (sR m s i k v) = ml m := rfl
theorem ml_sL (m : ab_M) (s i k : Nat) (v) : ml (sL m s i k v) = u3 (ml m) s i k v := rfl
theorem ml_sD (m : ab_M) (s i k : Nat) (v) : ml (sD m s i k v) = ml m := rfl
theorem ml_al (m : ab_M) (s L w : Nat) : ml (al m s L w) = u2 (ml m) s (mc m s) (fun _ => 0) := rfl
theorem ml_bp (m : ab_M) (c w : Nat) : ml (bp m c w) = ml m := rfl
theorem md_sI (m : ab_M) (s i k : Nat) (v) : md (sI m s i k v) = md m := rfl
theorem md_sR (m : ab_M) (s i k : Nat) (v) : md (sR m s i k v) = md m := rfl
theorem md_sL (m : ab_M) (s i k : Nat) (v) : md (sL m s i k v) = md m := rfl
theorem md_sD (m : ab_M) (s i k : Nat) (v) : md (sD m s i k v) = u3 (md m) s i k v := rfl
theorem md_al (m : ab_M) (s L w : Nat) : md (al m s L w) = u2 (md m) s (mc m s) (fun _ => 0) := rfl
theorem md_bp (m : ab_M) (c w : Nat) : md (bp m c w) = md m := rfl
theorem mn_sI (m : ab_M) (s i k : Nat) (v) : mn (sI m s i k v) = mn m := rfl
theorem mn_sR (m : ab_M) (s i k : Nat) (v) : mn (sR m s i k v) = mn m := rfl
theorem mn_sL (m : ab_M) (s i k : Nat) (v) : mn (sL m s i k v) = mn m := rfl
theorem mn_sD (m : ab_M) (s i k : Nat) (v) : mn (sD m s i k v) = mn m := rfl
theorem mn_al (m : ab_M) (s L w : Nat) : mn (al m s L w) = u2 (mn m) s (mc m s) L := rfl
theorem mn_bp (m : ab_M) (c w : Nat) : mn (bp m c w) = mn m := rfl
theorem mdm_al (m : ab_M) (s L w : Nat) : mdm (al m s L w) = mdm m ++ [(s, mc m s)] := rfl
theorem mc_sI (m : ab_M) (s i k : Nat) (v) : mc (sI m s i k v) = mc m := rfl
theorem mc_sR (m : ab_M) (s i k : Nat) (v) : mc (sR m s i k v) = mc m := rfl
theorem mc_sL (m : ab_M) (s i k : Nat) (v) : mc (sL m s i k v) = mc m := rfl
theorem mc_sD (m : ab_M) (s i k : Nat) (v) : mc (sD m s i k v) = mc m := rfl
theorem mc_al (m : ab_M) (s L w : Nat) : mc (al m s L w) = u1 (mc m) s (mc m s + 1) := rfl
theorem mc_bp (m : ab_M) (c w : Nat) : mc (bp m c w) = mc m := rfl
theorem mnc_sI (m : ab_M) (s i k : Nat) (v) : mnc (sI m s i k v) = mnc m := rfl
theorem mnc_sR (m : ab_M) (s i k : Nat) (v) : mnc (sR m s i k v) = mnc m := rfl
theorem mnc_sL (m : ab_M) (s i k : Nat) (v) : mnc (sL m s i k v) = mnc m := rfl
theorem mnc_sD (m : ab_M) (s i k : Nat) (v) : mnc (sD m s i k v) = mnc m := rfl
theorem mnc_al (m : ab_M) (s L w : Nat) : mnc (al m s L w) = mnc m + 1 := rfl
theorem mnc_bp (m : ab_M) (c w : Nat) : mnc (bp m c w) = mnc m + c := rfl
theorem mns_sI (m : ab_M) (s i k : Nat) (v) : mns (sI m s i k v) = mns m := rfl
theorem mns_sR (m : ab_M) (s i k : Nat) (v) : mns (sR m s i k v) = mns m := rfl
theorem mns_sL (m : ab_M) (s i k : Nat) (v) : mns (sL m s i k v) = mns m := rfl
theorem mns_sD (m : ab_M) (s i k : Nat) (v) : mns (sD m s i k v) = mns m := rfl
theorem mns_al (m : ab_M) (s L w : Nat) : mns (al m s L w) = mns m + w := rfl
theorem mns_bp (m : ab_M) (c w : Nat) : mns (bp m c w) = mns m + w := rfl
/-- what a method comes to: it returns (with no value or one), or throws -/
abbrev ab_R : Type := (List ab_V × ab_M) ⊕ (String × ab_M)
abbrev ab_O : Type := Option ab_R
abbrev ok0 (m : ab_M) : ab_O := some (.inl ([], m))
abbrev okV (v : ab_V) (m : ab_M) : ab_O := some (.inl ([v], m))
abbrev exE (E : String) (m : ab_M) : ab_O := some (.inr (E, bp m 1 6))
noncomputable def gd (P : Prop) (r : ab_O) : ab_O := @ite _ P (Classical.propDecidable P) r none
theorem gd_pos {P : Prop} {r : ab_O} (h : P) : gd P r = r := by unfold gd; exact if_pos h
theorem gd_some {P : Prop} {r : ab_O} {x : ab_R} (h : gd P r = some x) : P ∧ r = some x := by
  unfold gd at h
  by_cases hp : P
  · rw [if_pos hp] at h; exact ⟨hp, h⟩
  · rw [if_neg hp] at h; cases h
abbrev ab_L : Type := List (Option ab_V)
abbrev ab_K : Type := Nat → ab_L → List ab_V → ab_M → Prop
abbrev ab_F : Type := ab_K → (ab_R → Prop) → ab_L → List ab_V → ab_M → Prop
/-- an index within -/
def inb (j : Int32) (n : Nat) : Prop := ¬ (j < 0 ∨ n ≤ j.toNatClampNeg)
def wide (v : ab_V) : Bool := match v with
  | .inr (.inl _) => true
  | .inr (.inr (.inl _)) => true
  | _ => false
/-- the locals behind a store of one word, of two words -/
def st1 (ls : ab_L) (i : Nat) (v : ab_V) : ab_L := (ls.modify (i - 1) (fun o => match o with
  | some w => if 0 < i ∧ wide w = true then none else some w
  | none => none)).set i (some v)
def st2 (ls : ab_L) (i : Nat) (v : ab_V) : ab_L := (st1 ls i v).set (i + 1) none
/-! the semantic functions; n: the next place -/
def s_const (v : ab_V) (n : Nat) : ab_F := fun K _ ls st m => K n ls (v :: st) m
def s_iload (i n : Nat) : ab_F := fun K _ ls st m => match ls[i]? with
  | some (some (.inl x)) => K n ls (vI x :: st) m
  | _ => False
def s_lload (i n : Nat) : ab_F := fun K _ ls st m => match ls[i]? with
  | some (some (.inr (.inl x))) => K n ls (vL x :: st) m
  | _ => False
def s_dload (i n : Nat) : ab_F := fun K _ ls st m => match ls[i]? with
  | some (some (.inr (.inr (.inl x)))) => K n ls (vD x :: st) m
  | _ => False
def s_aload (i n : Nat) : ab_F := fun K _ ls st m => match ls[i]? with
  | some (some (.inr (.inr (.inr (.inl x))))) => K n ls (vR x :: st) m
  | _ => False
def s_istore (i n : Nat) : ab_F := fun K _ ls st m => match st with
  | .inl x :: r => if i < ls.length then K n (st1 ls i (vI x)) r m else False
  | _ => False
def s_lstore (i n : Nat) : ab_F := fun K _ ls st m => match st with
  | .inr (.inl x) :: r => if i + 1 < ls.length then K n (st2 ls i (vL x)) r m else False
  | _ => False
def s_dstore (i n : Nat) : ab_F := fun K _ ls st m => match st with
  | .inr (.inr (.inl x)) :: r => if i + 1 < ls.length then K n (st2 ls i (vD x)) r m else False
  | _ => False
def s_astore (i n : Nat) : ab_F := fun K _ ls st m => match st with
  | .inr (.inr (.inr (.inl x))) :: r => if i < ls.length then K n (st1 ls i (vR x)) r m else False
  | .inr (.inr (.inr (.inr x))) :: r => if i < ls.length then K n (st1 ls i (vX x)) r m else False
  | _ => False
def s_iinc (i : Nat) (c : Int32) (n : Nat) : ab_F := fun K _ ls st m => match ls[i]? with
  | some (some (.inl x)) => K n (st1 ls i (vI (x + c))) st m
  | _ => False
def s_bin (f : Int32 → Int32 → Int32) (n : Nat) : ab_F := fun K _ ls st m => match st with
  | .inl y :: .inl x :: r => K n ls (vI (f x y) :: r) m
  | _ => False
def s_div (f : Int32 → Int32 → Int32) (n : Nat) : ab_F := fun K _ ls st m => match st with
  | .inl y :: .inl x :: r => if y = 0 then False else K n ls (vI (f x y) :: r) m
  | _ => False
def s_binL (f : Int64 → Int64 → Int64) (n : Nat) : ab_F := fun K _ ls st m => match st with
  | .inr (.inl y) :: .inr (.inl x) :: r => K n ls (vL (f x y) :: r) m
  | _ => False
def s_lcmp (n : Nat) : ab_F := fun K _ ls st m => match st with
  | .inr (.inl y) :: .inr (.inl x) :: r => K n ls (vI (lg_cmp x y) :: r) m
  | _ => False
def s_i2l (n : Nat) : ab_F := fun K _ ls st m => match st with
  | .inl x :: r => K n ls (vL x.toInt64 :: r) m
  | _ => False
def s_i2d (n : Nat) : ab_F := fun K _ ls st m => match st with
  | .inl x :: r => K n ls (vD (FP.i2d x) :: r) m
  | _ => False
def s_ddiv (n : Nat) : ab_F := fun K _ ls st m => match st with
  | .inr (.inr (.inl y)) :: .inr (.inr (.inl x)) :: r => vf_n64 (FP.ddiv x y) ∧ K n ls (vD (FP.ddiv x y) :: r) m
  | _ => False
def s_dcmpl (n : Nat) : ab_F := fun K _ ls st m => match st with
  | .inr (.inr (.inl y)) :: .inr (.inr (.inl x)) :: r => K n ls (vI (Op.cmpValue (FP.dcmp x y) CmpOp.l) :: r) m
  | _ => False
def s_goto (t : Nat) : ab_F := fun K _ ls st m => K t ls st m
def s_ifeq (t n : Nat) : ab_F := fun K _ ls st m => match st with
  | .inl x :: r => if x = 0 then K t ls r m else K n ls r m
  | _ => False
def s_iflt (t n : Nat) : ab_F := fun K _ ls st m => match st with
  | .inl x :: r => if x < 0 then K t ls r m else K n ls r m
  | _ => False
def s_ifgt (t n : Nat) : ab_F := fun K _ ls st m => match st with
  | .inl x :: r => if 0 < x then K t ls r m else K n ls r m
  | _ => False
def s_cmpeq (t n : Nat) : ab_F := fun K _ ls st m => match st with
  | .inl y :: .inl x :: r => if x = y then K t ls r m else K n ls r m
  | _ => False
def s_cmplt (t n : Nat) : ab_F := fun K _ ls st m => match st with
  | .inl y :: .inl x :: r => if x < y then K t ls r m else K n ls r m
  | _ => False
def s_cmpgt (t n : Nat) : ab_F := fun K _ ls st m => match st with
  | .inl y :: .inl x :: r => if y < x then K t ls r m else K n ls r m
  | _ => False
def s_ifnull (t n : Nat) : ab_F := fun K _ ls st m => match st with
  | .inr (.inr (.inr (.inl none))) :: r => K t ls r m
  | .inr (.inr (.inr (.inl (some _)))) :: r => K n ls r m
  | _ => False
def s_aeq (t n : Nat) : ab_F := fun K _ ls st m => match st with
  | .inr (.inr (.inr (.inl y))) :: .inr (.inr (.inr (.inl x))) :: r => if x = y then K t ls r m else K n ls r m
  | _ => False
def s_pop (n : Nat) : ab_F := fun K _ ls st m => match st with
  | v :: r => if wide v = false then K n ls r m else False
  | _ => False
def s_dup (n : Nat) : ab_F := fun K _ ls st m => match st with
  | v :: r => if wide v = false then K n ls (v :: v :: r) m else False
  | _ => False
def s_dup2 (n : Nat) : ab_F := fun K _ ls st m => match st with
  | v :: w :: r => if wide v = false ∧ wide w = false then K n ls (v :: w :: v :: w :: r) m else False
  | _ => False
def s_dupx1 (n : Nat) : ab_F := fun K _ ls st m => match st with
  | v :: w :: r => if wide v = false ∧ wide w = false then K n ls (v :: w :: v :: r) m else False
  | _ => False
def s_tab (lo hi : Int) (tg : List Nat) (df : Nat) : ab_F := fun K _ ls st m => match st with
  | .inl x :: r => if x.toInt < lo ∨ hi < x.toInt then K df ls r m else match tg[(x.toInt - lo).toNat]? with
    | some t => K t ls r m
    | none => False
  | _ => False
/-! memory. SK s: the kind of the cells of the site s: below 100 an object of that place among the classes; 100 int[], 101 boolean[], 102 long[], 103 double[], 104 Object[], 105 int[][]. NF c: how many fields the class c has. FT c k: 0 where the field k of the class c is an int, 1 a boolean, 2 a reference -/
def s_getI (c k n : Nat) : ab_F := fun K _ ls st m => match st with
  | .inr (.inr (.inr (.inl (some x)))) :: r => if SK x.1 = c then K n ls (vI (mi m x.1 x.2 k) :: r) m else False
  | _ => False
def s_getR (c k n : Nat) : ab_F := fun K _ ls st m => match st with
  | .inr (.inr (.inr (.inl (some x)))) :: r => if SK x.1 = c then K n ls (vR (mr m x.1 x.2 k) :: r) m else False
  | _ => False
def s_putI (c k n : Nat) : ab_F := fun K _ ls st m => match st with
  | .inl v :: .inr (.inr (.inr (.inl (some x)))) :: r => if SK x.1 = c then K n ls r (sI m x.1 x.2 k v) else False
  | _ => False
def s_putZ (c k n : Nat) : ab_F := fun K _ ls st m => match st with
  | .inl v :: .inr (.inr (.inr (.inl (some x)))) :: r => if SK x.1 = c ∧ (v = 0 ∨ v = 1) then K n ls r (sI m x.1 x.2 k v) else False
  | _ => False
def s_putR (c k n : Nat) : ab_F := fun K _ ls st m => match st with
  | .inr (.inr (.inr (.inl v))) :: .inr (.inr (.inr (.inl (some x)))) :: r => if SK x.1 = c then K n ls r (sR m x.1 x.2 k v) else False
  | _ => False
/-- int[] (100), boolean[] (101) -/
def s_ald (c n : Nat) : ab_F := fun K _ ls st m => match st with
  | .inl j :: .inr (.inr (.inr (.inl (some x)))) :: r => SK x.1 = c ∧ inb j (mn m x.1 x.2) ∧ K n ls (vI (mi m x.1 x.2 j.toNatClampNeg) :: r) m
  | _ => False
def s_ast (c n : Nat) : ab_F := fun K _ ls st m => match st with
  | .inl v :: .inl j :: .inr (.inr (.inr (.inl (some x)))) :: r => (SK x.1 = c ∧ 2 ≤ x.1) ∧ inb j (mn m x.1 x.2) ∧ K n ls r (sI m x.1 x.2 j.toNatClampNeg v)
  | _ => False
def s_zast (n : Nat) : ab_F := fun K _ ls st m => match st with
  | .inl v :: .inl j :: .inr (.inr (.inr (.inl (some x)))) :: r => (SK x.1 = 101 ∧ 2 ≤ x.1 ∧ (v = 0 ∨ v = 1)) ∧ inb j (mn m x.1 x.2) ∧ K n ls r (sI m x.1 x.2 j.toNatClampNeg v)
  | _ => False
def s_lald (n : Nat) : ab_F := fun K _ ls st m => match st with
  | .inl j :: .inr (.inr (.inr (.inl (some x)))) :: r => SK x.1 = 102 ∧ inb j (mn m x.1 x.2) ∧ K n ls (vL (ml m x.1 x.2 j.toNatClampNeg) :: r) m
  | _ => False
def s_last (n : Nat) : ab_F := fun K _ ls st m => match st with
  | .inr (.inl v) :: .inl j :: .inr (.inr (.inr (.inl (some x)))) :: r => (SK x.1 = 102 ∧ 2 ≤ x.1) ∧ inb j (mn m x.1 x.2) ∧ K n ls r (sL m x.1 x.2 j.toNatClampNeg v)
  | _ => False
def s_dald (n : Nat) : ab_F := fun K _ ls st m => match st with
  | .inl j :: .inr (.inr (.inr (.inl (some x)))) :: r => SK x.1 = 103 ∧ inb j (mn m x.1 x.2) ∧ K n ls (vD (md m x.1 x.2 j.toNatClampNeg) :: r) m
  | _ => False
def s_dast (n : Nat) : ab_F := fun K _ ls st m => match st with
  | .inr (.inr (.inl v)) :: .inl j :: .inr (.inr (.inr (.inl (some x)))) :: r => (SK x.1 = 103 ∧ 2 ≤ x.1) ∧ inb j (mn m x.1 x.2) ∧ K n ls r (sD m x.1 x.2 j.toNatClampNeg v)
  | _ => False
/-- Object[] (104), int[][] (105) -/
def s_aald (c n : Nat) : ab_F := fun K _ ls st m => match st with
  | .inl j :: .inr (.inr (.inr (.inl (some x)))) :: r => SK x.1 = c ∧ inb j (mn m x.1 x.2) ∧ K n ls (vR (mr m x.1 x.2 j.toNatClampNeg) :: r) m
  | _ => False
def s_aast (n : Nat) : ab_F := fun K _ ls st m => match st with
  | .inr (.inr (.inr (.inl (some v)))) :: .inl j :: .inr (.inr (.inr (.inl (some x)))) :: r => (SK x.1 = 104 ∧ 2 ≤ x.1 ∧ ((SK v.1 = 9 ∨ SK v.1 = 10 ∨ SK v.1 = 100) ∧ 2 ≤ v.1)) ∧ inb j (mn m x.1 x.2) ∧ K n ls r (sR m x.1 x.2 j.toNatClampNeg (some v))
  | _ => False
def s_alen (n : Nat) : ab_F := fun K _ ls st m => match st with
  | .inr (.inr (.inr (.inl (some x)))) :: r => if x.1 = 0 then K n ls (vI (Int32.ofNat (mn m x.1 x.2)) :: r) m else False
  | _ => False
def s_new (s n : Nat) : ab_F := fun K _ ls st m => if SK s < 100 ∧ 2 ≤ s then K n ls (vA s (mc m s) :: st) (al m s 0 (NF (SK s))) else False
/-- a new array of numbers or of references -/
def s_newa (s n : Nat) : ab_F := fun K _ ls st m => match st with
  | .inl j :: r => if 100 ≤ SK s ∧ 2 ≤ s ∧ ¬ j < 0 ∧ j.toNatClampNeg ≤ 100000 then K n ls (vA s (mc m s) :: r) (al m s j.toNatClampNeg j.toNatClampNeg) else False
  | _ => False
/-- the rows of a new int[a][b], one of the site s each, and their outer array, of the site t -/
def mk2 (m : ab_M) (s b : Nat) : Nat → ab_M | 0 => m | a + 1 => al (mk2 m s b a) s b b
def mkO (m : ab_M) (t s c : Nat) : Nat → ab_M | 0 => m | a + 1 => sR (mkO m t s c a) t (mc m t - 1) a (some (s, c + a))
def s_multi (t s n : Nat) : ab_F := fun K _ ls st m => match st with
  | .inl b :: .inl a :: r => if SK t = 105 ∧ SK s = 100 ∧ 2 ≤ t ∧ 2 ≤ s ∧ t ≠ s ∧ ¬ a < 0 ∧ ¬ b < 0 ∧ a.toNatClampNeg ≤ 100 ∧ b.toNatClampNeg ≤ 100
      then K n ls (vA t (mc m t) :: r) (mkO (al (mk2 m s b.toNatClampNeg a.toNatClampNeg) t a.toNatClampNeg a.toNatClampNeg) t s (mc m s) a.toNatClampNeg) else False
  | _ => False
/-- a cast to the class c, or to int[] (100) -/
def s_cast (c n : Nat) : ab_F := fun K _ ls st m => match st with
  | .inr (.inr (.inr (.inl (some x)))) :: r => if SK x.1 = c ∧ 2 ≤ x.1 then K n ls (vR (some x) :: r) m else False
  | _ => False
def s_getE (n : Nat) : ab_F := fun K _ ls st m => K n ls (vA 1 0 :: st) m
def s_obj (n : Nat) : ab_F := fun K _ ls st m => match st with
  | .inr (.inr (.inr (.inl (some _)))) :: r => if (r.map (fun v => if wide v then 2 else 1)).sum ≤ 8 then K n ls r m else False
  | _ => False
def s_mmin (n : Nat) : ab_F := fun K _ ls st m => match st with
  | .inl y :: .inl x :: r => if (r.map (fun v => if wide v then 2 else 1)).sum ≤ 8 then K n ls (vI (if y < x then y else x) :: r) m else False
  | _ => False
def s_mmax (n : Nat) : ab_F := fun K _ ls st m => match st with
  | .inl y :: .inl x :: r => if (r.map (fun v => if wide v then 2 else 1)).sum ≤ 8 then K n ls (vI (if x < y then y else x) :: r) m else False
  | _ => False
/-- where an exception goes: the first handler for it, with nothing on the stack but itself -/
def s_hd (K : ab_K) (R : ab_R → Prop) (ls : ab_L) (E : String) (m : ab_M) : List (String × Nat) → Prop
  | [] => R (.inr (E, m))
  | h :: t => if h.1 = E then ∀ a : Nat, K h.2 ls [vX a] m else s_hd K R ls E m t
/-- the receiver is of the class k (999: a static method) -/
def rcv (k : Nat) (as : List ab_V) : Prop := k = 999 ∨ match as with
  | .inr (.inr (.inr (.inl (some x)))) :: _ => SK x.1 = k
  | _ => False
/-- a call of a method of a arguments (with its receiver, of the class k) whose answer is that of sp; behind it the place n; handlers h -/
def s_call (k : Nat) (sp : List ab_V → ab_M → ab_O) (a : Nat) (h : List (String × Nat)) (n : Nat) : ab_F := fun K R ls st m =>
  (a ≤ st.length ∧ ((st.drop a).map (fun v => if wide v then 2 else 1)).sum ≤ 8 ∧ rcv k (st.take a).reverse) ∧ match sp (st.take a).reverse m with
    | some (.inl (vs, m')) => K n ls (vs ++ st.drop a) m'
    | some (.inr (E, m')) => (E = "java/lang/IndexOutOfBoundsException" ∨ E = "java/lang/IllegalArgumentException" ∨ E = "java/lang/IllegalStateException") ∧ s_hd K R ls E m' h
    | none => False
def s_throw (E : String) : ab_F := fun _ R _ st m => if (st.map (fun v => if wide v then 2 else 1)).sum ≤ 8 then R (.inr (E, bp m 1 6)) else False
def s_ret (t : Nat) : ab_F := fun _ R _ st m => match st with
  | [.inl v] => if t = 0 ∨ v = 0 ∨ v = 1 then R (.inl ([vI v], m)) else False
  | _ => False
def s_retL : ab_F := fun _ R _ st m => match st with
  | [.inr (.inl v)] => R (.inl ([vL v], m))
  | _ => False
def s_retD : ab_F := fun _ R _ st m => match st with
  | [.inr (.inr (.inl v))] => R (.inl ([vD v], m))
  | _ => False
def s_retA : ab_F := fun _ R _ st m => match st with
  | [.inr (.inr (.inr (.inl v)))] => R (.inl ([vR v], m))
  | _ => False
def s_retV : ab_F := fun _ R _ st m => match st with
  | [] => R (.inl ([], m))
  | _ => False
/-! running a method: from place to place along its rows; at a mark (none) and backwards it stops, and asks K -/
abbrev ab_T : Type := List (Nat × Option ab_F)
def run (K : ab_K) (R : ab_R → Prop) : ab_T → ab_K
  | [], pc, ls, st, m => K pc ls st m
  | (p, f) :: T, pc, ls, st, m => if pc = p then (match f with
      | some f => f (run K R T) R ls st m
      | none => K pc ls st m) else run K R T pc ls st m
/-- what is known less of the locals -/
def ab_le (a b : ab_L) : Prop := a.length = b.length ∧ ∀ (i : Nat) (v : ab_V), a[i]? = some (some v) → b[i]? = some (some v)
/-- K follows the rows of T backwards, and bears that more is known of the locals -/
def Closed (T : ab_T) (R : ab_R → Prop) (K : ab_K) : Prop :=
  (∀ (p : Nat) (f : ab_F), (p, some f) ∈ T → ∀ (ls : ab_L) (st : List ab_V) (m : ab_M), f K R ls st m → K p ls st m) ∧
  ∀ (p : Nat) (a b : ab_L) (st : List ab_V) (m : ab_M), ab_le a b → K p a st m → K p b st m
def Mono (f : ab_F) : Prop := ∀ (K K' : ab_K) (R : ab_R → Prop), (∀ p ls st m, K p ls st m → K' p ls st m) → ∀ ls st m, f K R ls st m → f K' R ls st m
def MonoT (T : ab_T) : Prop := ∀ (p : Nat) (f : ab_F), (p, some f) ∈ T → Mono f
theorem run_sound {T0 : ab_T} {R : ab_R → Prop} {K : ab_K} (hC : Closed T0 R K) (hm : MonoT T0) : ∀ (T : ab_T), (∀ x ∈ T, x ∈ T0) → ∀ pc ls st m, run K R T pc ls st m → K pc ls st m
  | [], _, _, _, _, _, h => h
  | (p, some f) :: T, hs, pc, ls, st, m, h => by
    unfold run at h
    by_cases e : pc = p
    · rw [if_pos e] at h
      subst e
      have ih := run_sound hC hm T (fun x hx => hs x (List.mem_cons_of_mem _ hx))
      exact hC.1 pc f (hs _ List.mem_cons_self) ls st m (hm pc f (hs _ List.mem_cons_self) _ K R ih ls st m h)
    · rw [if_neg e] at h
      exact run_sound hC hm T (fun x hx => hs x (List.mem_cons_of_mem _ hx)) pc ls st m h
  | (p, none) :: T, hs, pc, ls, st, m, h => by
    unfold run at h
    by_cases e : pc = p
    · rw [if_pos e] at h
      exact h
    · rw [if_neg e] at h
      exact run_sound hC hm T (fun x hx => hs x (List.mem_cons_of_mem _ hx)) pc ls st m h
/-- from the arguments ls and the memory m the method comes to r -/
def Comes_to (T : ab_T) (ls : ab_L) (m : ab_M) (r : ab_R) : Prop := ∀ K : ab_K, Closed T (fun r' => r' = r) K → K 0 ls [] m
theorem Comes_to.of {T : ab_T} (hm : MonoT T) {ls : ab_L} {m : ab_M} {r : ab_R} (h : ∀ K : ab_K, Closed T (fun r' => r' = r) K → run K (fun r' => r' = r) T 0 ls [] m) : Comes_to T ls m r :=
  fun K hC => run_sound hC hm T (fun _ h => h) 0 ls [] m (h K hC)

