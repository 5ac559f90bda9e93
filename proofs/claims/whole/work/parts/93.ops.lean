/-! quarrels and adoptions -/
theorem INV_of {n : Nat} {r r' : ab_C} (h : INV n r) (he : ∀ s i k, eqS s = true ∨ (35 ≤ s ∧ s ≤ 38) ∨ s = 61 → r' s i k = r s i k) : INV n r' := by
  have e : ∀ s i k, 3 ≤ s → s ≤ 13 → r' s i k = r s i k := fun s i k a b => he s i k (Or.inl (by unfold eqS; simp [a, b]))
  have e2 : ∀ s i k, 22 ≤ s → s ≤ 32 → r' s i k = r s i k := fun s i k a b => he s i k (Or.inl (by unfold eqS; simp [a, b]))
  have n1 : np r' = np r := congrArg Int32.toNatClampNeg (he 35 0 0 (by simp))
  have n2 : nh r' = nh r := congrArg Int32.toNatClampNeg (he 36 0 0 (by simp))
  have n3 : nsc r' = nsc r := congrArg Int32.toNatClampNeg (he 37 0 0 (by simp))
  have n4 : nu r' = nu r := congrArg Int32.toNatClampNeg (he 38 0 0 (by simp))
  obtain ⟨z1, z2, z3, z4⟩ := h.z0
  refine ⟨⟨?_, RG_of h.rg (fun s i k hs => ?_), ⟨fun t j a b d => ?_, fun t j a b d => ?_, fun t j a b d => ?_, fun t j a b d => ?_⟩, ?_⟩, fun t ht j => ?_, ?_, ?_, fun j => ?_⟩
  · unfold CN
    rw [n1, n2, n3, n4, he 35 _ _ (by simp), he 36 _ _ (by simp), he 37 _ _ (by simp), he 38 _ _ (by simp)]
    exact h.cn
  · unfold rgS at hs
    simp only [Bool.or_eq_true, beq_iff_eq] at hs
    refine he s i k ?_
    unfold eqS
    rcases hs with rfl | rfl | rfl | rfl | rfl | rfl | rfl | rfl | rfl | rfl | rfl <;> simp
  · rw [n1] at d; rw [e t 0 j (by omega) b]; exact z1 t j a b d
  · rw [n2] at d; rw [e t 0 j a (by omega)]; exact z2 t j a b d
  · rw [n3] at d; rw [e2 t 0 j a (by omega)]; exact z3 t j a b d
  · rw [n4] at d; rw [e2 t 0 j (by omega) b]; exact z4 t j a b d
  · unfold FO
    rw [n1]
    simp only [e 12 0 _ (by decide) (by decide)]
    exact h.fo
  · have : r' t 0 j = r t 0 j := by rcases ht with z | z | z | z <;> subst z <;> first | exact e _ _ _ (by decide) (by decide) | exact e2 _ _ _ (by decide) (by decide)
    rw [this]; exact h.b01 t ht j
  · rw [n1, n2]; exact h.hz
  · unfold DY
    rw [he 61 _ _ (by simp)]
    exact h.dy
  · rw [e2 29 _ _ (by decide) (by decide)]
    exact h.rk j
/-- .. with quarrels changed, too -/
theorem INV_12 {n : Nat} {r r' : ab_C} (h : INV n r) (he : ∀ s i k, s ≠ 12 → r' s i k = r s i k) (hz : ∀ i, np r ≤ i → r' 12 0 i = 0) (hf : FO r') : INV n r' := by
  have n1 : np r' = np r := congrArg Int32.toNatClampNeg (he 35 0 0 (by decide))
  have h0 : INV n (fun s i k => if s = 12 then r s i k else r' s i k) := INV_of h (fun s i k _ => by
    by_cases e : s = 12
    · simp only [e, if_true]
    · simp only [e, if_false]; exact he s i k e)
  obtain ⟨z1, z2, z3, z4⟩ := h0.z0
  refine ⟨⟨h0.cn, ⟨h0.rg.1, h0.rg.2.1, h0.rg.2.2⟩, ⟨fun t j a b d => ?_, ?_, ?_, ?_⟩, hf⟩, ?_, h0.hz, h0.dy, h0.rk⟩
  · by_cases e : t = 12
    · rw [n1] at d
      subst e
      exact hz j d
    · exact (if_neg e).symm.trans (z1 t j a b d)
  · exact fun t j a b d => (if_neg (show ¬ t = 12 by omega)).symm.trans (z2 t j a b d)
  · exact fun t j a b d => (if_neg (show ¬ t = 12 by omega)).symm.trans (z3 t j a b d)
  · exact fun t j a b d => (if_neg (show ¬ t = 12 by omega)).symm.trans (z4 t j a b d)
  · exact fun t ht j => by
      have := h0.b01 t ht j
      rw [if_neg (show ¬ t = 12 by omega)] at this
      exact this
theorem u3_self {c : ab_C} {s i k : Nat} {v : Int32} (h : c s i k = v) : u3 c s i k v = c := by
  funext a b d
  rw [u3_ap]
  split
  · next e => obtain ⟨rfl, rfl, rfl⟩ := e; exact h.symm
  · rfl
def foeF (b : Int32) (x : Int32) (k : Nat) : Int32 := if b = 0 then x &&& (sB (nN k) ^^^ (-1)) else x ||| sB (nN k)
theorem foeF_bt {b x : Int32} {k l : Nat} (hk : k < 32) (hl : l < 32) : bt (foeF b x k) l = if l = k then ! decide (b = 0) else bt x l := by
  unfold foeF
  by_cases e : b = 0
  · rw [if_pos e, b_and, b_xor, b_m1 l hl, sB_bt hk hl, Bool.xor_true]
    by_cases e2 : l = k
    · rw [if_pos e2, decide_eq_true e2, decide_eq_true e, Bool.not_true, Bool.and_false]
    · rw [if_neg e2, decide_eq_false e2, Bool.not_false, Bool.and_true]
  · rw [if_neg e, b_or, sB_bt hk hl]
    by_cases e2 : l = k
    · rw [if_pos e2, decide_eq_true e2, decide_eq_false e, Bool.or_true]; rfl
    · rw [if_neg e2, decide_eq_false e2, Bool.or_false]
theorem foeF_same {b x : Int32} {k : Nat} (hk : k < 32) (h : bt x k = ! decide (b = 0)) : foeF b x k = x := b_ext (fun l hl => by
  rw [foeF_bt hk hl]
  split
  · next e => rw [e, h]
  · rfl)
theorem foeF_flip {b x : Int32} {k : Nat} (hk : k < 32) (h : bt x k = decide (b = 0)) : foeF b x k = x ^^^ sB (nN k) := b_ext (fun l hl => by
  rw [foeF_bt hk hl, b_xor, sB_bt hk hl]
  by_cases e : l = k
  · rw [if_pos e, decide_eq_true e, e, h, Bool.xor_true]
  · rw [if_neg e, decide_eq_false e, Bool.xor_false])
def kQua (c : ab_C) (p q b : Int32) : Int32 × Int32 × ab_C := if cHas c p = true then (if cHas c q = true then (if p = q then (2, 0, c) else (0, bI (inS (c 12 0 p.toNatClampNeg) q), cFoe (cFoe c p q b) q p b)) else (1, 0, c)) else (1, 0, c)
theorem o_quarrel {m : ab_M} {p q b : Int32} (h1 : CI m) : SP_X6_quarrel [vA 61 0, vI p, vI q, vI b] m = kout cdA (kQua (mi m) p q b) m := by
  rw [e_X6_quarrel h1]
  simp only [kQua, kout_i, kout_0, kout_e t10, kout_e t20, cdA_1, cdA_2]
theorem g_quarrel {n : Nat} {c r : ab_C} (h : ST n c r) (p q b : Int32) (hb : b = 0 ∨ b = 1) : AG (n + 1) (kQua c p q b) (rQuarrel r p q b) := by
  refine AG_b (h.1.has h.2.1 p) (fun e => AG_b (h.1.has h.2.1 q) (fun e2 => AG_p Iff.rfl (fun _ => AG_no h t20) (fun hne => ?_)) (AG_no h t10)) (AG_no h t10)
  obtain ⟨i, hi, rfl⟩ := nN_ex (has_in h.2.1 e)
  obtain ⟨j, hj, rfl⟩ := nN_ex (has_in h.2.1 e2)
  have h12 := h.2.1.cn.1.2
  have hij : i ≠ j := fun z => hne (congrArg nN z)
  have hcf : ∀ (a : ab_C) (x y : Nat), x < 32 → cFoe a (nN x) (nN y) b = u3 a 12 0 x (foeF b (a 12 0 x) y) := fun a x y hx => by
    unfold cFoe foeF
    rw [nN_nat (show x < 2147483648 by omega)]
  rw [hcf _ _ _ (by omega), hcf _ _ _ (by omega)]
  have e3 : u3 c 12 0 i (foeF b (c 12 0 i) j) 12 0 j = c 12 0 j := by rw [u3_ap, if_neg (fun z => hij z.2.2.symm)]
  rw [e3, rI_s h 12 _ rfl, rI_s h 12 _ rfl, rI_s h 12 _ rfl, nN_nat (show i < 2147483648 by omega), nN_nat (show j < 2147483648 by omega)]
  have hsym := h.2.1.fo.1 i j (by omega) (by omega)
  have hS : ST n (u3 (u3 c 12 0 i (foeF b (r 12 0 i) j)) 12 0 j (foeF b (r 12 0 j) i)) (u3 (u3 r 12 0 i (foeF b (r 12 0 i) j)) 12 0 j (foeF b (r 12 0 j) i)) := by
    refine ⟨EQ_u (EQ_u h.1 rfl (by decide)) rfl (by decide), INV_12 h.2.1 (fun s a k hs => by rw [u3_ap, if_neg (fun z => hs z.1), u3_ap, if_neg (fun z => hs z.1)]) (fun a ha => ?_) ⟨fun x y hx hy => ?_, fun x y hy => ?_⟩, fun a ha => ?_, fun a ha => ?_⟩
    · rw [u3_ap, if_neg (by omega), u3_ap, if_neg (by omega)]
      exact h.2.1.z0.1 12 a (by decide) (by decide) ha
    · have hv : ∀ a, u3 (u3 r 12 0 i (foeF b (r 12 0 i) j)) 12 0 j (foeF b (r 12 0 j) i) 12 0 a = if a = j then foeF b (r 12 0 j) i else if a = i then foeF b (r 12 0 i) j else r 12 0 a := fun a => by
        rw [u3_ap, u3_ap]
        simp
      rw [hv, hv]
      have hxy := h.2.1.fo.1 x y hx hy
      by_cases x1 : x = j
      · subst x1
        rw [if_pos rfl, foeF_bt (by omega) (by omega)]
        by_cases y1 : y = i
        · subst y1
          rw [if_pos rfl, if_neg hij, if_pos rfl, foeF_bt (by omega) (by omega), if_pos rfl]
        · rw [if_neg y1]
          by_cases y2 : y = x
          · subst y2; rw [if_pos rfl, foeF_bt (by omega) (by omega), if_neg y1]
          · rw [if_neg y2, if_neg y1]; exact hxy
      · by_cases x2 : x = i
        · subst x2
          rw [if_neg x1, if_pos rfl, foeF_bt (by omega) (by omega)]
          by_cases y1 : y = j
          · subst y1
            rw [if_pos rfl, if_pos rfl, foeF_bt (by omega) (by omega), if_pos rfl]
          · rw [if_neg y1, if_neg y1]
            by_cases y2 : y = x
            · subst y2; rw [if_pos rfl, foeF_bt (by omega) (by omega), if_neg y1]
            · rw [if_neg y2]; exact hxy
        · rw [if_neg x1, if_neg x2]
          by_cases y1 : y = j
          · subst y1; rw [if_pos rfl, foeF_bt (by omega) (by omega), if_neg x2]; exact hxy
          · by_cases y2 : y = i
            · subst y2; rw [if_neg y1, if_pos rfl, foeF_bt (by omega) (by omega), if_neg x1]; exact hxy
            · rw [if_neg y1, if_neg y2]; exact hxy
    · have hy' : np r ≤ y := hy
      have hf := h.2.1.fo.2
      by_cases h32 : y < 32
      · rw [u3_ap]
        split
        · rw [foeF_bt (by omega) h32, if_neg (by omega)]; exact hf _ _ hy'
        · rw [u3_ap]
          split
          · rw [foeF_bt (by omega) h32, if_neg (by omega)]; exact hf _ _ hy'
          · exact hf _ _ hy'
      · exact b_big (by omega)
    · rw [u3_ap, if_neg (by omega), u3_ap, if_neg (by omega)]; exact h.2.2.1 a ha
    · rw [u3_ap, if_neg (by omega), u3_ap, if_neg (by omega)]; exact h.2.2.2 a ha
  have hbit : inS (r 12 0 i) (nN j) = bt (r 12 0 i) j := inS_bt (by omega)
  by_cases e4 : bI (inS (r 12 0 i) (nN j)) = b
  · rw [if_pos e4]
    have e5 : bt (r 12 0 i) j = ! decide (b = 0) := by
      rw [← hbit, ← e4]
      cases inS (r 12 0 i) (nN j) <;> decide
    rw [foeF_same (by omega) e5, foeF_same (by omega) (hsym ▸ e5), u3_self (s := 12) (i := 0) (k := i) (v := r 12 0 i) (rI_s h 12 _ rfl), u3_self (rI_s h 12 _ rfl)]
    exact AG_ok h rfl
  · rw [if_neg e4]
    have e5 : bt (r 12 0 i) j = decide (b = 0) := by
      rw [← hbit]
      rcases hb with rfl | rfl
      · cases h9 : inS (r 12 0 i) (nN j) with
        | true => rfl
        | false => rw [h9] at e4; exact absurd rfl e4
      · cases h9 : inS (r 12 0 i) (nN j) with
        | true => rw [h9] at e4; exact absurd rfl e4
        | false => rfl
    have e6 := foeF_flip (b := b) (x := r 12 0 i) (k := j) (by omega) e5
    have e7 := foeF_flip (b := b) (x := r 12 0 j) (k := i) (by omega) (hsym ▸ e5)
    rw [e6, e7] at hS
    rw [e6, e7]
    exact AG_do rfl hS
/-! teachers: ranks -/
theorem bcnt_lt {f g : Nat → Bool} {x : Nat} : ∀ n, x < n → f x = false → g x = true → (∀ j, j < n → f j = true → g j = true) → bcnt f n < bcnt g n := by
  intro n
  induction n with
  | zero => intro h; omega
  | succ n ih =>
    intro hx hf hg h
    have hle : bcnt f n ≤ bcnt g n := by
      have : ∀ m, m ≤ n → bcnt f m ≤ bcnt g m := by
        intro m
        induction m with
        | zero => intro _; exact Nat.le_refl 0
        | succ m ihm =>
          intro hm
          have := ihm (by omega)
          rw [bcnt_s, bcnt_s]
          cases h9 : f m with
          | true => rw [h m (by omega) h9, if_pos rfl, if_pos rfl]; omega
          | false => rw [if_neg (by decide)]; split <;> omega
      exact this n (Nat.le_refl n)
    rw [bcnt_s, bcnt_s]
    by_cases e : x = n
    · subst e
      rw [hf, hg, if_neg (by decide), if_pos rfl]; omega
    · have := ih (by omega) hf hg (fun j hj => h j (by omega))
      cases h9 : f n with
      | true => rw [h n (by omega) h9, if_pos rfl, if_pos rfl]; omega
      | false => rw [if_neg (by decide)]; split <;> omega
theorem bcnt_tt : ∀ n, bcnt (fun _ => true) n = n := by
  intro n
  induction n with
  | zero => rfl
  | succ n ih => rw [bcnt_s, if_pos rfl, ih]
/-- any ranks will do -/
theorem AC_of {c : ab_C} (hn : np c ≤ 12) (hv : ∀ i, i < np c → c 5 0 i = -1 ∨ inb (c 5 0 i) (np c)) (rk : Nat → Nat) (h : ∀ i, i < np c → ¬ c 5 0 i = -1 → rk (c 5 0 i).toNatClampNeg < rk i) : AC c := by
  refine ⟨fun i => bcnt (fun j => decide (rk j < rk i)) (np c), fun i hi => ⟨?_, fun hne => ?_⟩⟩
  · have := bcnt_lt (f := fun j => decide (rk j < rk i)) (g := fun _ => true) (np c) hi (decide_eq_false (Nat.lt_irrefl _)) rfl (fun _ _ _ => rfl)
    rw [bcnt_tt] at this
    show bcnt (fun j => decide (rk j < rk i)) (np c) < 12
    omega
  · have ht := (inb_eq ((hv i hi).resolve_left hne)).2
    have h1 := h i hi hne
    refine bcnt_lt (np c) ht (decide_eq_false (Nat.lt_irrefl _)) (decide_eq_true h1) (fun j hj hl => ?_)
    have := of_decide_eq_true hl
    exact decide_eq_true (by omega)
theorem cDown_fuel {c : ab_C} {g : Int32} {rk : Nat → Nat} (hv : ∀ i, i < np c → c 5 0 i = -1 ∨ inb (c 5 0 i) (np c)) (h : ∀ i, i < np c → ¬ c 5 0 i = -1 → rk (c 5 0 i).toNatClampNeg < rk i) : ∀ k one, (one = -1 ∨ (inb one (np c) ∧ rk one.toNatClampNeg < k)) → cDown c g (k + 1) one = cDown c g k one := by
  intro k
  induction k with
  | zero =>
    rintro one (rfl | ⟨-, z⟩)
    · rfl
    · omega
  | succ k ih =>
    intro one ho
    rcases ho with rfl | ⟨z, hr⟩
    · rfl
    · unfold cDown
      by_cases e1 : one = -1
      · rw [if_pos e1, if_pos e1]
      · rw [if_neg e1, if_neg e1]
        by_cases e2 : one = g
        · rw [if_pos e2, if_pos e2]
        · rw [if_neg e2, if_neg e2]
          have hl := (inb_eq z).2
          refine ih _ ?_
          rcases hv _ hl with q | q
          · exact Or.inl q
          · by_cases q2 : c 5 0 one.toNatClampNeg = -1
            · exact Or.inl q2
            · exact Or.inr ⟨q, by have := h _ hl q2; omega⟩
def adR (c : ab_C) (rk : Nat → Nat) (p : Int32) (i : Nat) : Nat := if nN i = p ∨ cDown c p 12 (c 5 0 i) = true then rk i + 100 else rk i
theorem AC_adopt {c : ab_C} {p t : Int32} (h : RV c) (hA : AC c) (hn : np c ≤ 12) (hp : inb p (np c)) (ht : inb t (np c)) (hne : ¬ t = p) (hd : cDown c p 12 (c 5 0 t.toNatClampNeg) = false) : AC (u3 c 5 0 p.toNatClampNeg t) := by
  obtain ⟨rk, hrk⟩ := hA
  have hv := h.1
  have hp2 := (inb_eq hp).2
  have hfu := cDown_fuel (g := p) hv (fun i hi z => (hrk i hi).2 z)
  have hn2 : np (u3 c 5 0 p.toNatClampNeg t) = np c := rfl
  refine AC_of (by rw [hn2]; exact hn) (fun i hi => ?_) (adR c rk p) (fun i hi hi2 => ?_)
  · rw [hn2] at hi ⊢
    rw [u3_ap]
    split
    · exact Or.inr ht
    · exact hv i hi
  · rw [hn2] at hi
    by_cases e : i = p.toNatClampNeg
    · have ev : u3 c 5 0 p.toNatClampNeg t 5 0 i = t := by rw [u3_ap, if_pos ⟨rfl, rfl, e⟩]
      rw [ev]
      have e1 : nN i = p := by rw [e]; exact (inb_eq hp).1.symm
      have e2 : ¬ (nN t.toNatClampNeg = p ∨ cDown c p 12 (c 5 0 t.toNatClampNeg) = true) := by
        rw [← (inb_eq ht).1, hd]
        rintro (z | z)
        · exact hne z
        · cases z
      unfold adR
      rw [if_neg e2, if_pos (Or.inl e1)]
      have := (hrk _ (inb_eq ht).2).1
      omega
    · have ev : u3 c 5 0 p.toNatClampNeg t 5 0 i = c 5 0 i := by rw [u3_ap, if_neg (fun z => e z.2.2)]
      rw [ev] at hi2 ⊢
      have hin := (hv i hi).resolve_left hi2
      have hlt := (hrk i hi).2 hi2
      unfold adR
      by_cases e2 : nN (c 5 0 i).toNatClampNeg = p ∨ cDown c p 12 (c 5 0 (c 5 0 i).toNatClampNeg) = true
      · have e3 : cDown c p 12 (c 5 0 i) = true := by
          rw [← hfu 12 (c 5 0 i) (Or.inr ⟨hin, (hrk _ (inb_eq hin).2).1⟩)]
          unfold cDown
          rw [if_neg hi2]
          rcases e2 with z | z
          · rw [if_pos ((inb_eq hin).1.trans z)]
          · split
            · rfl
            · exact z
        rw [if_pos e2, if_pos (Or.inr e3 : nN i = p ∨ cDown c p 12 (c 5 0 i) = true)]
        omega
      · rw [if_neg e2]
        split <;> omega
def kAdopt (c : ab_C) (p t b : Int32) : Int32 × Int32 × ab_C := if cHas c p = true then (if cHas c t = true then (if c 13 0 p.toNatClampNeg = 0 then (2, 0, c) else if c 3 0 (c 9 0 p.toNatClampNeg).toNatClampNeg = p then (2, 0, c) else if cTeach c t p = true then (if b = 0 then (0, c 5 0 p.toNatClampNeg, u3 c 5 0 p.toNatClampNeg t) else (0, c 5 0 p.toNatClampNeg, u3 (u3 c 5 0 p.toNatClampNeg t) 6 0 p.toNatClampNeg t)) else (2, 0, c)) else (1, 0, c)) else (1, 0, c)
theorem o_adopt {m : ab_M} {p t b : Int32} (h1 : CI m) (h2 : CV (mi m)) : SP_X6_adopt [vA 61 0, vI p, vI t, vI b] m = kout cd2 (kAdopt (mi m) p t b) m := by
  rw [e_X6_adopt h1 h2]
  simp only [kAdopt, kout_i, kout_0, kout_e t10, kout_e t20, cd2_1, cd2_2]
theorem g_adopt {n : Nat} {c r : ab_C} (h : ST n c r) (p t b : Int32) : AG (n + 1) (kAdopt c p t b) (rAdopt r p t b) := by
  refine AG_b (h.1.has h.2.1 p) (fun e => AG_b (h.1.has h.2.1 t) (fun e2 => AG_p (live_p h) (fun _ => AG_no h t20) (fun _ => AG_p (by rw [rI_s h 9 _ rfl, rI_s h 3 _ rfl]) (fun _ => AG_no h t20) (fun _ => ?_))) (AG_no h t10)) (AG_no h t10)
  have hp := has_in h.2.1 e
  have ht := has_in h.2.1 e2
  have hT : cTeach c t p = (! decide (t = p) && ((! decide (r 13 0 t.toNatClampNeg = 0) && decide (r 9 0 t.toNatClampNeg = r 9 0 p.toNatClampNeg)) && ! cDown r p 12 (r 5 0 t.toNatClampNeg))) := by
    unfold cTeach cLives
    rw [rI_s h 13 _ rfl, rI_s h 9 _ rfl, rI_s h 9 _ rfl, rI_s h 5 _ rfl, cDown_cg (h.1.st 5 rfl)]
  rw [hT]
  by_cases z1 : r 13 0 t.toNatClampNeg = 0
  · rw [if_pos z1, if_neg (by rw [decide_eq_true z1]; simp)]; exact AG_no h t20
  · by_cases z2 : r 9 0 t.toNatClampNeg = r 9 0 p.toNatClampNeg
    · by_cases z3 : t = p
      · rw [if_neg z1, if_neg (show ¬ ¬ r 9 0 t.toNatClampNeg = r 9 0 p.toNatClampNeg from fun z => z z2), if_pos z3.symm, if_neg (by rw [decide_eq_true z3]; simp)]; exact AG_no h t20
      · rw [if_neg z1, if_neg (show ¬ ¬ r 9 0 t.toNatClampNeg = r 9 0 p.toNatClampNeg from fun z => z z2), if_neg (show ¬ p = t from fun z => z3 z.symm), decide_eq_false z1, decide_eq_true z2, decide_eq_false z3]
        cases h9 : cDown r p 12 (r 5 0 t.toNatClampNeg) with
        | true => rw [if_pos rfl, if_neg (by decide)]; exact AG_no h t20
        | false =>
          rw [if_neg (show ¬ false = true by decide), if_pos (by decide)]
          have s1 := ST_u (s := 5) (i := p.toNatClampNeg) (v := t) h rfl (by decide) (by decide) (RG_5 h.2.1.rg (AC_adopt h.2.1.rv h.2.1.rg.2.1 h.2.1.cn.1.2 hp ht z3 h9) (Or.inr ht)) (rg_p (by decide) (by decide) (inb_eq hp).2) (by omega) (by omega)
          refine AG_l (fun eb => ?_) (fun eb => ?_)
          · rw [if_pos eb]
            exact AG_do (rI_s h 5 _ rfl) s1
          · rw [if_neg eb]
            exact AG_do (rI_s h 5 _ rfl) (ST_u s1 rfl (by decide) (by decide) (RG_u3 s1.2.1.rg rfl) (rg_p (by decide) (by decide) (inb_eq hp).2) (by omega) (by omega))
    · rw [if_neg z1, if_pos z2, if_neg (by rw [decide_eq_false z2]; simp)]; exact AG_no h t20
