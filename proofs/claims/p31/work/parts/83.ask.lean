/-! readers, knowers, losses, seen; the tables of answers -/
def rdr (r : ab_C) (s : Int32) (i : Nat) : Bool := ! decide (r 13 0 i = 0) && inS (r 11 0 i) s
theorem rLiving_eq {r : ab_C} {n : Nat} (hi : INV n r) (s : Int32) : rLiving r s = bset (rdr r s) (np r) := by
  unfold rLiving bset
  refine fo_congr _ (fun i a hn => ?_)
  have h12 : i < 32 := by have := hi.cn.1.2; omega
  simp only [fRv, rdr, z0_shl h12, z1_shl, or_0]
  by_cases e : r 13 0 i = 0
  · simp [e]
  · simp [e]
theorem cReaders_eq {c r : ab_C} (h : EQ c r) (s : Int32) : cReaders c s = nN (bcnt (rdr r s) (np r)) := by
  rw [← fo_cnt]
  unfold cReaders
  rw [h.gnp]
  refine fo_congr _ (fun i a hn => ?_)
  simp only [fReaders, rdr, h.st 13 rfl, h.st 11 rfl]
  by_cases e : r 13 0 i = 0
  · simp [e]
  · simp [e]
theorem readers_eq {c r : ab_C} {n : Nat} (h : EQ c r) (hi : INV n r) (s : Int32) : cReaders c s = bc (rLiving r s) := by rw [cReaders_eq h, rLiving_eq hi, bc_bset hi.cn.1.2]
theorem bcnt_0 {f : Nat → Bool} : ∀ n, bcnt f n = 0 → ∀ i, i < n → f i = false := by
  intro n
  induction n with
  | zero => intro _ i hi; omega
  | succ n ih =>
    rw [bcnt_s]
    intro h i hi
    cases h9 : f n with
    | true => rw [h9, if_pos rfl] at h; omega
    | false =>
      rw [h9, if_neg (by decide)] at h
      by_cases e : i = n
      · exact e ▸ h9
      · exact ih h i (by omega)
theorem bcnt_one {f : Nat → Bool} {p : Nat} : ∀ n, p < n → f p = true → bcnt f n = 1 → ∀ i, i < n → f i = decide (i = p) := by
  intro n
  induction n with
  | zero => intro h; omega
  | succ n ih =>
    intro hp hf h i hi
    rw [bcnt_s] at h
    by_cases e : p = n
    · subst e
      rw [hf, if_pos rfl] at h
      by_cases e2 : i = p
      · rw [e2, hf, decide_eq_true rfl]
      · rw [bcnt_0 (f := f) p (by omega) i (by omega), decide_eq_false e2]
    · cases h9 : f n with
      | true =>
        rw [h9, if_pos rfl] at h
        have := bcnt_0 (f := f) n (by omega) p (by omega)
        rw [hf] at this; cases this
      | false =>
        rw [h9, if_neg (by decide)] at h
        by_cases e2 : i = n
        · rw [e2, h9, decide_eq_false (by omega)]
        · exact ih (by omega) hf h i (by omega)
theorem bcnt_sgl {f : Nat → Bool} {p : Nat} : ∀ n, (∀ i, i < n → f i = decide (i = p)) → bcnt f n = if p < n then 1 else 0 := by
  intro n
  induction n with
  | zero => intro _; rfl
  | succ n ih =>
    intro h
    rw [bcnt_s, ih (fun i hi => h i (by omega)), h n (by omega)]
    by_cases e : n = p
    · rw [decide_eq_true e, if_pos rfl, if_neg (by omega), if_pos (by omega)]
    · rw [decide_eq_false e, if_neg (by decide)]
      by_cases e2 : p < n
      · rw [if_pos e2, if_pos (by omega)]
      · rw [if_neg e2, if_neg (by omega)]
theorem only_one {r : ab_C} {n p : Nat} (hi : INV n r) {s : Int32} (hp : p < np r) (hl : ¬ r 13 0 p = 0) : (rLiving r s = sB (nN p)) ↔ (inS (r 11 0 p) s = true ∧ nN (bcnt (rdr r s) (np r)) = 1) := by
  have hn := hi.cn.1.2
  rw [rLiving_eq hi]
  constructor
  · intro e
    have hf : ∀ i, i < np r → rdr r s i = decide (i = p) := fun i hin => by
      have : bt (bset (rdr r s) (np r)) i = bt (sB (nN p)) i := congrArg (fun x => bt x i) e
      rw [bset_bt (by omega) _ (by omega), sB_bt (by omega) (by omega), decide_eq_true hin, Bool.true_and] at this
      exact this
    refine ⟨?_, ?_⟩
    · have := hf p hp
      rw [decide_eq_true rfl] at this
      unfold rdr at this
      rw [decide_eq_false hl] at this
      exact this
    · rw [bcnt_sgl _ hf, if_pos hp]; rfl
  · rintro ⟨e1, e2⟩
    have hb := bcnt_le (rdr r s) (np r)
    have e3 : bcnt (rdr r s) (np r) = 1 := (nN_inj (b := 1) (by omega) (by decide)).mp e2
    have hf := bcnt_one (np r) hp (show rdr r s p = true by unfold rdr; rw [decide_eq_false hl, e1]; rfl) e3
    refine b_ext (fun i h32 => ?_)
    rw [bset_bt h32 _ (by omega), sB_bt (by omega) h32]
    by_cases hin : i < np r
    · rw [decide_eq_true hin, hf i hin, Bool.true_and]
    · rw [decide_eq_false hin, decide_eq_false (by omega)]; rfl
theorem cLostWith_eq {c r : ab_C} {n : Nat} (h : EQ c r) (hi : INV n r) {p : Int32} (hp : inb p (np r)) (hl : ¬ r 13 0 p.toNatClampNeg = 0) : cLostWith c p = rLosing r p := by
  obtain ⟨j, hj, rfl⟩ := nN_ex hp
  have hn := hi.cn.1.2
  rw [nN_nat (by omega)] at hl
  unfold cLostWith rLosing
  rw [h.gnsc]
  refine fo_congr _ (fun i a his => ?_)
  have h8 := hi.cn.2.2.1.2
  simp only [fLostWith, fRl, h.st 24 rfl, h.st 11 rfl, nN_nat (show j < 2147483648 by omega), cReaders_eq h, z0_shl (show i < 32 by omega), z1_shl, or_0, only_one hi hj hl]
  by_cases e : r 24 0 i = 0
  · by_cases e2 : inS (r 11 0 j) (nN i) = true
    · simp only [e, e2, true_and, if_true]
    · simp only [e, e2, Bool.false_eq_true, false_and, if_true, if_false]
  · simp only [e, if_false]
theorem cKnowers_eq {c r : ab_C} (h : EQ c r) (s : Int32) : cKnowers c s = (rTs r s).1 := by
  unfold cKnowers rTs
  rw [h.gnp, fo_fst (g := fun i a => a + z01 (if r 13 0 i = 0 then 0 else if cUnd r i 8 s = false then 0 else 1)) (fun _ _ => rfl)]
  refine fo_congr _ (fun i a hn => ?_)
  simp only [fKnowers, h.st 13 rfl, cUnd_cg (h.st 11 rfl) (h.st 23 rfl)]
  by_cases e : r 13 0 i = 0
  · simp only [e, if_true, z01_0, i_add0]
  · cases h9 : cUnd r i 8 s with
    | true => simp only [e, if_false, if_true, Bool.true_eq_false, z01_1]
    | false => simp only [e, if_false, if_true, Bool.false_eq_true, z01_0, i_add0]
theorem fo_same {σ : Type} {f : Nat → σ → σ} {s : σ} : ∀ n, (∀ i, i < n → f i s = s) → fo f s n = s := by
  intro n
  induction n with
  | zero => intro _; rfl
  | succ n ih =>
    intro h
    show f n (fo f s n) = s
    rw [ih (fun i hi => h i (by omega)), h n (by omega)]
theorem cComing_eq {c r : ab_C} {n : Nat} (h : EQ c r) (hi : INV n r) (s : Int32) : cComing c s = (rTs r s).2 := by
  unfold cComing rTs
  have hn := hi.cn.1.2
  rw [fo_snd (g := fun i a => a + z01 (if r 13 0 i = 0 then 0 else if r 24 0 s.toNatClampNeg = 0 then (if r 7 0 i < r 22 0 s.toNatClampNeg then 0 else if inS (r 11 0 i) s = false then 1 else 0) else 0)) (fun _ _ => rfl)]
  by_cases e0 : r 24 0 s.toNatClampNeg = 0
  · rw [h.st 24 rfl, if_pos e0, h.gnp]
    refine fo_congr _ (fun i a hin => ?_)
    simp only [fComing, cHolds, nN_nat (show i < 2147483648 by omega), h.st 13 rfl, h.st 7 rfl, h.st 22 rfl, h.st 11 rfl, e0, if_true]
    by_cases e : r 13 0 i = 0
    · simp only [e, if_true, z01_0, i_add0]
    · by_cases e2 : r 7 0 i < r 22 0 s.toNatClampNeg
      · simp only [e, e2, if_false, if_true, decide_true, Bool.not_true, Bool.false_eq_true, z01_0, i_add0]
      · cases h9 : inS (r 11 0 i) s with
        | true => simp only [e, e2, if_false, if_true, decide_false, Bool.not_false, Bool.true_eq_false, z01_0, i_add0]
        | false => simp only [e, e2, if_false, if_true, decide_false, Bool.not_false, Bool.false_eq_true, z01_1]
  · rw [h.st 24 rfl, if_neg e0]
    symm
    refine fo_same _ (fun i _ => ?_)
    simp only [e0, if_false, ite_self, z01_0, i_add0]
theorem day_lt {n : Nat} {r : ab_C} (hi : INV n r) (hn : n ≤ 600) : ∃ D, D ≤ 60000 ∧ r 61 0 6 = nN D := by
  obtain ⟨D, hD, e⟩ := hi.dy
  exact ⟨D, by omega, e⟩
theorem far_ago {n : Nat} {r : ab_C} (hi : INV n r) (hn : n ≤ 600) : (-1000 : Int32) < r 61 0 6 - 120 := by
  obtain ⟨D, hD, e⟩ := day_lt hi hn
  have e1 := nN_toInt (n := D) (by omega)
  have e2 : (120 : Int32).toInt = 120 := rfl
  have e3 : (-1000 : Int32).toInt = -1000 := rfl
  rw [e, Int32.lt_iff_toInt_lt, fb_subI (by omega) (by omega), e3]
  omega
theorem seen_eq {c r : ab_C} {n u k : Nat} (h : EQ c r) (hi : INV n r) (hn : n ≤ 600) (hu : u < nu r) (hk : k < 12) : (! decide (c 34 u k < c 61 0 6 - 120)) = rSeen r u k := by
  unfold rSeen
  rw [h.d6]
  rcases (h.seen hu hk).1 with ⟨a, b⟩ | ⟨a, b⟩
  · rw [a, decide_eq_false (show ¬ r 34 u k = -1 from fun z => b (z ▸ by decide))]; rfl
  · rw [a, b, decide_eq_true (far_ago hi hn)]; rfl
theorem seen_np {c r : ab_C} {n u k : Nat} (h : EQ c r) (hu : u < nu r) (hk : k < 12) (hp : np r ≤ k) : rSeen r u k = false := by
  unfold rSeen
  rw [(h.seen hu hk).2 hp]; rfl
theorem cSeenBy_bt {c r : ab_C} {n u : Nat} (h : EQ c r) (hi : INV n r) (hn : n ≤ 600) (hu : u < nu r) : cSeenBy c (nN u) (c 61 0 6) = bset (rSeen r u) (np r) := by
  have h12 := hi.cn.1.2
  have hu2 := hi.cn.2.2.2.2
  have e : cSeenBy c (nN u) (c 61 0 6) = bset (rSeen r u) 12 := by
    unfold cSeenBy bset
    refine fo_congr _ (fun i a hin => ?_)
    simp only [fSeenBy, nN_nat (show u < 2147483648 by omega), ← seen_eq h hi hn hu hin]
    by_cases e : c 34 u i < c 61 0 6 - 120
    · simp [e]
    · simp [e]
  rw [e]
  refine b_ext (fun i h32 => ?_)
  rw [bset_bt h32 _ (by omega), bset_bt h32 _ (by omega)]
  by_cases h1 : i < np r
  · rw [decide_eq_true h1, decide_eq_true (by omega)]
  · rw [decide_eq_false h1]
    by_cases h2 : i < 12
    · rw [seen_np (n := n) h hu h2 (by omega), Bool.and_false, Bool.and_false]
    · rw [decide_eq_false h2]
theorem cSeenBy_eq {c r : ab_C} {n u : Nat} (h : EQ c r) (hi : INV n r) (hn : n ≤ 600) (hu : u < nu r) : cSeenBy c (nN u) (c 61 0 6) = rSeenBy r u := by
  rw [cSeenBy_bt h hi hn hu]
  unfold rSeenBy bset
  refine fo_congr _ (fun i a hin => ?_)
  simp only [fRs]
  rw [orz (by have := hi.cn.1.2; omega)]
theorem z01_b01 {x : Int32} (h : x = 0 ∨ x = 1) : z01 x = x := by rcases h with h | h <;> rw [h] <;> rfl
theorem cLiving_eq {c r : ab_C} {n : Nat} (h : EQ c r) (hi : INV n r) : cLiving c = (rCt r).1 := by
  unfold cLiving rCt
  rw [h.gnp, fo_fst (g := fun i a => a + z01 (r 13 0 i)) (fun _ _ => rfl)]
  refine fo_congr _ (fun i a hn => ?_)
  simp only [fLiving, h.st 13 rfl]
  by_cases e : r 13 0 i = 0
  · simp only [e, if_true, z01_0, i_add0]
  · simp only [z01, e, if_false]
theorem fo_trip {f : Nat → Int32 × Int32 × Int32 → Int32 × Int32 × Int32} {g k : Nat → Int32 → Int32} (h : ∀ i a, (f i a).2 = (g i a.2.1, k i a.2.2)) (s : Int32 × Int32 × Int32) (n : Nat) : (fo f s n).2.1 = fo g s.2.1 n ∧ (fo f s n).2.2 = fo k s.2.2 n := by
  have e := fo_snd (g := fun i (a : Int32 × Int32) => (g i a.1, k i a.2)) h s n
  rw [e]
  exact ⟨fo_fst (fun _ _ => rfl) _ _, fo_snd (fun _ _ => rfl) _ _⟩
theorem cSumCoins_eq {c r : ab_C} (h : EQ c r) : cSumCoins c = (rCt r).2.1 := by
  unfold cSumCoins rCt
  rw [h.gnp, (fo_trip (f := fRct r) (g := fun i a => a + r 8 0 i) (k := fun i a => a + bc (r 12 0 i)) (fun _ _ => rfl) _ _).1]
  refine fo_congr _ (fun i a hn => ?_)
  simp only [fSumCoins, h.st 8 rfl]
theorem cLost_eq {c r : ab_C} {n : Nat} (h : EQ c r) (hi : INV n r) : cLost c = rLost r := by
  unfold cLost rLost
  rw [h.gnsc]
  refine fo_congr _ (fun i a hn => ?_)
  simp only [fLost, fRlo, h.st 24 rfl]
  rcases hi.b01 24 (Or.inr (Or.inl rfl)) i with e | e
  · rw [if_pos e, e, i_add0]
  · rw [e, if_neg (by decide)]
theorem all_bt : ∀ n, n ≤ 12 → ∀ i, i < 32 → bt (((1 : Int32) <<< (nN n &&& 31)) - 1) i = decide (i < n) := by decide +kernel
theorem cAll_bt {c r : ab_C} {n : Nat} (h : EQ c r) (hi : INV n r) {i : Nat} (h32 : i < 32) : bt (cAll c) i = decide (i < np r) := by
  unfold cAll
  rw [h.c35, hi.cn.1.1]
  exact all_bt _ hi.cn.1.2 i h32
theorem cQuarrels_all {c r : ab_C} {n : Nat} (h : EQ c r) (hi : INV n r) : cQuarrels c (cAll c) = (rCt r).2.2 / 2 := by
  unfold cQuarrels rCt
  rw [h.gnp, (fo_trip (f := fRct r) (g := fun i a => a + r 8 0 i) (k := fun i a => a + bc (r 12 0 i)) (fun _ _ => rfl) _ _).2]
  refine congrArg (fun x => x / 2) (fo_congr _ (fun i a hn => ?_))
  have h12 := hi.cn.1.2
  simp only [fQuarrels, h.st 12 rfl]
  rw [inS_bt (by omega), cAll_bt h hi (by omega), decide_eq_true hn, if_pos rfl]
  have e : r 12 0 i &&& cAll c = r 12 0 i := b_ext (fun k h32 => by
    rw [b_and, cAll_bt h hi h32]
    by_cases e : k < np r
    · rw [decide_eq_true e, Bool.and_true]
    · rw [decide_eq_false e, hi.fo.2 i k (by omega)]; rfl)
  rw [e]

