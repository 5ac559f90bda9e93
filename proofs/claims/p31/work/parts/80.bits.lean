/-! sets of people, houses, secrets as bits -/
def bt (x : Int32) (i : Nat) : Bool := x.toBitVec.getLsbD i
theorem b_ext {x y : Int32} (h : ∀ i, i < 32 → bt x i = bt y i) : x = y := Int32.toBitVec_inj.mp (BitVec.eq_of_getLsbD_eq (fun i hi => h i hi))
theorem b_or (x y : Int32) (i : Nat) : bt (x ||| y) i = (bt x i || bt y i) := by unfold bt; rw [Int32.toBitVec_or, BitVec.getLsbD_or]
theorem b_and (x y : Int32) (i : Nat) : bt (x &&& y) i = (bt x i && bt y i) := by unfold bt; rw [Int32.toBitVec_and, BitVec.getLsbD_and]
theorem b_xor (x y : Int32) (i : Nat) : bt (x ^^^ y) i = (bt x i ^^ bt y i) := by unfold bt; rw [Int32.toBitVec_xor, BitVec.getLsbD_xor]
theorem b_big {x : Int32} {i : Nat} (h : 32 ≤ i) : bt x i = false := BitVec.getLsbD_of_ge _ _ h
theorem b_m1 : ∀ i, i < 32 → bt (-1) i = true := by decide +kernel
theorem b_0 (i : Nat) : bt 0 i = false := BitVec.getLsbD_zero
theorem b_1 : ∀ i, i < 32 → bt 1 i = decide (i = 0) := by decide +kernel
theorem s_l : ∀ n, n < 32 → ((nN n &&& 31).toBitVec.smod 32).toNat = n := by decide +kernel
theorem b_shl (n : Nat) (hn : n < 32) (x : Int32) {i : Nat} (hi : i < 32) : bt (x <<< (nN n &&& 31)) i = (decide (n ≤ i) && bt x (i - n)) := by
  unfold bt
  rw [Int32.toBitVec_shiftLeft]
  show (x.toBitVec <<< ((nN n &&& 31).toBitVec.smod 32).toNat).getLsbD i = _
  rw [s_l n hn, BitVec.getLsbD_shiftLeft]
  rcases Nat.lt_or_ge i n with h | h
  · simp [h, Nat.not_le.mpr h]
  · simp [hi, h, Nat.not_lt.mpr h]
theorem b_sshr (n : Nat) (hn : n < 32) (x : Int32) {i : Nat} (hi : i < 32) : bt (x >>> (nN n &&& 31)) i = if n + i < 32 then bt x (n + i) else bt x 31 := by
  unfold bt
  rw [Int32.toBitVec_shiftRight]
  show (x.toBitVec.sshiftRight ((nN n &&& 31).toBitVec.smod 32).toNat).getLsbD i = _
  rw [s_l n hn, BitVec.getLsbD_sshiftRight, BitVec.msb_eq_getLsbD_last]
  simp [hi]
theorem sB_bt {n i : Nat} (hn : n < 32) (hi : i < 32) : bt (sB (nN n)) i = decide (i = n) := by
  unfold sB
  rw [b_shl n hn 1 hi, b_1 _ (by omega)]
  by_cases h : i = n
  · subst h; simp
  · rw [decide_eq_false h]
    by_cases h2 : n ≤ i
    · rw [decide_eq_true h2, decide_eq_false (by omega)]; rfl
    · rw [decide_eq_false h2]; rfl
theorem inS_bt {x : Int32} {n : Nat} (hn : n < 32) : inS x (nN n) = bt x n := by
  unfold inS
  have hb : ∀ i, i < 32 → bt ((x >>> (nN n &&& 31)) &&& 1) i = (decide (i = 0) && bt x n) := by
    intro i hi
    rw [b_and, b_1 i hi]
    by_cases e : i = 0
    · subst e
      rw [b_sshr n hn x hi, if_pos (by omega)]
      simp
    · rw [decide_eq_false e, Bool.and_false, Bool.false_and]
  cases h9 : bt x n with
  | true =>
    refine decide_eq_true (b_ext (fun i hi => ?_))
    rw [hb i hi, b_1 i hi, h9, Bool.and_true]
  | false =>
    refine decide_eq_false (fun e => ?_)
    have := hb 0 (by decide)
    rw [e, h9, b_1 0 (by decide)] at this
    cases this
theorem z0_shl {n : Nat} (hn : n < 32) : z01 0 <<< (nN n &&& 31) = 0 := b_ext (fun i hi => by
  show bt (0 <<< (nN n &&& 31)) i = _
  rw [b_shl n hn 0 hi, b_0, b_0, Bool.and_false])
theorem z1_shl {n : Nat} : z01 1 <<< (nN n &&& 31) = sB (nN n) := rfl
theorem or_0 (x : Int32) : x ||| 0 = x := b_ext (fun i _ => by rw [b_or, b_0, Bool.or_false])
theorem orz {n : Nat} (hn : n < 32) (x : Int32) (b : Bool) : x ||| (z01 (bI b) <<< (nN n &&& 31)) = if b = true then x ||| sB (nN n) else x := by
  cases b
  · show x ||| (z01 0 <<< (nN n &&& 31)) = x
    rw [z0_shl hn, or_0]
  · rfl
/-- the set of those below n that f names -/
def bset (f : Nat → Bool) (n : Nat) : Int32 := fo (fun i a => if f i = true then a ||| sB (nN i) else a) 0 n
theorem bset_bt {f : Nat → Bool} {i : Nat} (hi : i < 32) : ∀ n, n ≤ 32 → bt (bset f n) i = (decide (i < n) && f i) := by
  intro n
  induction n with
  | zero => intro _; show bt 0 i = _; rw [b_0, decide_eq_false (by omega)]; rfl
  | succ n ih =>
    intro hn
    show bt (if f n = true then bset f n ||| sB (nN n) else bset f n) i = _
    by_cases e : i = n
    · subst e
      rw [decide_eq_true (by omega), Bool.true_and]
      have h0 := ih (by omega)
      rw [decide_eq_false (by omega), Bool.false_and] at h0
      cases h9 : f i with
      | true => rw [if_pos rfl, b_or, sB_bt hi hi, h0, decide_eq_true rfl]; rfl
      | false => rw [if_neg (by decide), h0]
    · have hd : decide (i < n + 1) = decide (i < n) := decide_eq_decide.mpr (by omega)
      rw [hd, ← ih (by omega)]
      split
      · rw [b_or, sB_bt (by omega) hi, decide_eq_false e, Bool.or_false]
      · rfl
/-- how many of them -/
def bcnt (f : Nat → Bool) (n : Nat) : Nat := fo (fun i a => if f i = true then a + 1 else a) 0 n
theorem bcnt_s (f : Nat → Bool) (n : Nat) : bcnt f (n + 1) = if f n = true then bcnt f n + 1 else bcnt f n := rfl
theorem bcnt_le (f : Nat → Bool) : ∀ n, bcnt f n ≤ n := by
  intro n
  induction n with
  | zero => exact Nat.le_refl 0
  | succ n ih => rw [bcnt_s]; split <;> omega
theorem bcnt_congr {f g : Nat → Bool} : ∀ n, (∀ i, i < n → f i = g i) → bcnt f n = bcnt g n := by
  intro n
  induction n with
  | zero => intro _; rfl
  | succ n ih =>
    intro h
    rw [bcnt_s, bcnt_s, ih (fun i hi => h i (by omega)), h n (by omega)]
theorem bt_nN {x i : Nat} (hi : i < 32) : bt (nN x) i = x.testBit i := by
  show (BitVec.ofNat 32 x).getLsbD i = _
  rw [BitVec.getLsbD_ofNat, decide_eq_true hi, Bool.true_and]
theorem bc_all0 : ∀ a, a < 64 → ∀ b, b < 64 → bc (nN (64 * a + b)) = nN (bcnt (fun i => (64 * a + b).testBit i) 12) := by decide +kernel
theorem bc_all (x : Nat) (hx : x < 4096) : bc (nN x) = nN (bcnt (fun i => x.testBit i) 12) := by
  have := bc_all0 (x / 64) (by omega) (x % 64) (by omega)
  rwa [Nat.div_add_mod] at this
theorem small_of {x : Int32} (h : ∀ i, 12 ≤ i → i < 32 → bt x i = false) : ∃ n, n < 4096 ∧ x = nN n := by
  have e : x = nN x.toBitVec.toNat := by
    apply Int32.toBitVec_inj.1
    show x.toBitVec = BitVec.ofNat 32 x.toBitVec.toNat
    simp
  refine ⟨x.toBitVec.toNat, ?_, e⟩
  show x.toBitVec.toNat < 2 ^ 12
  refine Nat.lt_pow_two_of_testBit _ (fun i hi => ?_)
  by_cases h2 : i < 32
  · exact h i hi h2
  · exact BitVec.getLsbD_of_ge _ _ (by omega)
theorem bc_of {x : Int32} (h : ∀ i, 12 ≤ i → i < 32 → bt x i = false) : bc x = nN (bcnt (bt x) 12) := by
  obtain ⟨n, hn, rfl⟩ := small_of h
  rw [bc_all n hn]
  exact congrArg nN (bcnt_congr 12 (fun i hi => (bt_nN (by omega)).symm))
theorem bcnt_cut {f g : Nat → Bool} {n : Nat} : ∀ k, (∀ i, i < n → f i = g i) → (∀ i, n ≤ i → i < n + k → g i = false) → bcnt g (n + k) = bcnt f n := by
  intro k
  induction k with
  | zero => intro h _; exact (bcnt_congr n h).symm
  | succ k ih =>
    intro h h2
    show bcnt g ((n + k) + 1) = _
    rw [bcnt_s, h2 (n + k) (by omega) (by omega), if_neg (by decide)]
    exact ih h (fun i hi hj => h2 i hi (by omega))
theorem bc_bset {f : Nat → Bool} {n : Nat} (hn : n ≤ 12) : bc (bset f n) = nN (bcnt f n) := by
  rw [bc_of (fun i h1 h2 => by rw [bset_bt h2 n (by omega), decide_eq_false (by omega), Bool.false_and])]
  refine congrArg nN ?_
  have e : 12 = n + (12 - n) := by omega
  rw [e]
  refine bcnt_cut (12 - n) (fun i hi => ?_) (fun i h1 h2 => ?_)
  · rw [bset_bt (by omega) n (by omega), decide_eq_true hi, Bool.true_and]
  · rw [bset_bt (by omega) n (by omega), decide_eq_false (by omega), Bool.false_and]
/-- the same count, kept as an int -/
theorem fo_cnt {f : Nat → Bool} : ∀ n, fo (fun i (a : Int32) => if f i = true then a + 1 else a) 0 n = nN (bcnt f n) := by
  intro n
  induction n with
  | zero => rfl
  | succ n ih =>
    show (if f n = true then fo _ 0 n + 1 else fo _ 0 n) = _
    rw [ih, bcnt_s]
    split
    · exact nN_succ
    · rfl
theorem fb_bmod {z : Int} (h1 : -2147483648 ≤ z) (h2 : z < 2147483648) : z.bmod (2 ^ 32) = z := by
  rw [Int.bmod_eq_of_le (by omega) (by omega)]
theorem fb_addI {x y : Int32} (h1 : -2147483648 ≤ x.toInt + y.toInt) (h2 : x.toInt + y.toInt < 2147483648) : (x + y).toInt = x.toInt + y.toInt := by
  rw [Int32.toInt_add, fb_bmod h1 h2]
theorem fb_subI {x y : Int32} (h1 : -2147483648 ≤ x.toInt - y.toInt) (h2 : x.toInt - y.toInt < 2147483648) : (x - y).toInt = x.toInt - y.toInt := by
  rw [Int32.toInt_sub, fb_bmod h1 h2]
