/-! what falls: the reference's way -/
def updN (w : Nat → Nat) (p x : Nat) : Nat → Nat := fun i => if i = p then x else w i
def fRi (g : Nat → Nat → (Nat → Nat) → (Nat → Nat)) (c : ab_C) (p s : Nat) : Nat → (Nat → Nat) → (Nat → Nat) := fun i w => if w i < s then w else if c 15 i s = nN p then g i s w else w
def fRo (g : Nat → Nat → (Nat → Nat) → (Nat → Nat)) (c : ab_C) (p top n : Nat) : Nat → (Nat → Nat) → (Nat → Nat) := fun j w => fo (fRi g c p (top - j)) (updN w p (top - j - 1)) n
def rFall (c : ab_C) : Nat → Nat → Nat → (Nat → Nat) → (Nat → Nat)
  | 0, _, _, w => w
  | k + 1, p, s, w => fo (fRo (rFall c k) c p (w p) (np c)) w (w p + 1 - s)
/-- what one fall does: no step rises, and who stands below the step stays -/
def FL (s : Nat) (w r : Nat → Nat) : Prop := (∀ i, r i ≤ w i) ∧ ∀ q, w q < s → r q = w q
theorem FL_fRi {g : Nat → Nat → (Nat → Nat) → (Nat → Nat)} {c : ab_C} {p s n : Nat} {w : Nat → Nat} (hg : ∀ i w', s ≤ w' i → FL s w' (g i s w')) : ∀ k, k ≤ n → FL s w (fo (fRi g c p s) w k) := by
  refine fo_inv (I := fun _ r => FL s w r) ⟨fun _ => Nat.le_refl _, fun _ _ => rfl⟩ (fun i r hi hr => ?_)
  unfold fRi
  split
  · exact hr
  · next hlt =>
    split
    · obtain ⟨a1, a2⟩ := hg i r (by omega)
      refine ⟨fun q => Nat.le_trans (a1 q) (hr.1 q), fun q hq => ?_⟩
      have := hr.2 q hq
      rw [a2 q (by omega), this]
    · exact hr
theorem FL_fRo {g : Nat → Nat → (Nat → Nat) → (Nat → Nat)} {c : ab_C} {p s n : Nat} {w : Nat → Nat} (hs : 1 ≤ s) (hp : s ≤ w p) (hg : ∀ i t w', 1 ≤ t → t ≤ w' i → FL t w' (g i t w')) : ∀ j, j ≤ w p + 1 - s → FL s w (fo (fRo g c p (w p) n) w j) ∧ fo (fRo g c p (w p) n) w j p = w p - j := by
  refine fo_inv (I := fun j r => FL s w r ∧ r p = w p - j) ⟨⟨fun _ => Nat.le_refl _, fun _ _ => rfl⟩, rfl⟩ (fun j r hj hr => ?_)
  obtain ⟨⟨h1, h2⟩, h3⟩ := hr
  have f := FL_fRi (g := g) (c := c) (p := p) (s := w p - j) (n := n) (w := updN r p (w p - j - 1)) (fun i w' h => hg i _ w' (by omega) h) n (Nat.le_refl _)
  have hpp : updN r p (w p - j - 1) p = w p - j - 1 := if_pos rfl
  unfold fRo
  refine ⟨⟨fun i => ?_, fun q hq => ?_⟩, ?_⟩
  · refine Nat.le_trans (f.1 i) ?_
    unfold updN
    split
    · next e => rw [e]; omega
    · exact h1 i
  · have hqp : q ≠ p := by rintro rfl; omega
    have e : updN r p (w p - j - 1) q = r q := if_neg hqp
    have := h2 q hq
    rw [f.2 q (by omega), e, this]
  · rw [f.2 p (by omega), hpp]; omega
theorem rFall_FL (c : ab_C) : ∀ k p s w, 1 ≤ s → s ≤ w p → FL s w (rFall c k p s w)
  | 0, _, _, _, _, _ => ⟨fun _ => Nat.le_refl _, fun _ _ => rfl⟩
  | k + 1, p, s, w, hs, hp => (FL_fRo (g := rFall c k) (c := c) (n := np c) hs hp (fun i t w' h h' => rFall_FL c k i t w' h h') _ (Nat.le_refl _)).1
/-- how many hold the step s -/
def cnw (w : Nat → Nat) (s n : Nat) : Nat := fo (fun i a => if w i < s then a else a + 1) 0 n
theorem cnw_s (w : Nat → Nat) (s n : Nat) : cnw w s (n + 1) = if w n < s then cnw w s n else cnw w s n + 1 := rfl
theorem cnw_le {w w' : Nat → Nat} {s s' : Nat} (h : ∀ i, w' i ≤ w i) (hs : s ≤ s') : ∀ n, cnw w' s' n ≤ cnw w s n
  | 0 => Nat.le_refl _
  | n + 1 => by
    have ih := cnw_le h hs n
    have := h n
    rw [cnw_s, cnw_s]
    split <;> split <;> omega
theorem cnw_lt {w w' : Nat → Nat} {s s' p : Nat} (h : ∀ i, w' i ≤ w i) (hs : s ≤ s') (h1 : s ≤ w p) (h2 : w' p < s') : ∀ n, p < n → cnw w' s' n + 1 ≤ cnw w s n
  | 0, hp => absurd hp (Nat.not_lt_zero _)
  | n + 1, hp => by
    have hl := cnw_le h hs n
    have hn := h n
    rw [cnw_s, cnw_s]
    by_cases e : p = n
    · subst e
      rw [if_pos h2, if_neg (by omega)]; omega
    · have ih := cnw_lt h hs h1 h2 n (by omega)
      split <;> split <;> omega
theorem cnw_n (w : Nat → Nat) (s : Nat) : ∀ n, cnw w s n ≤ n
  | 0 => Nat.le_refl _
  | n + 1 => by
    have := cnw_n w s n
    rw [cnw_s]
    split <;> omega
/-- the memory with the array (50, o) holding these -/
def wA (m : ab_M) (o : Nat) (w : Nat → Nat) : ab_M := wI m (fun a b q => if a = 50 ∧ b = o then nN (w q) else mi m a b q)
theorem wA_mi (m : ab_M) (o : Nat) (w : Nat → Nat) (a b q : Nat) : mi (wA m o w) a b q = if a = 50 ∧ b = o then nN (w q) else mi m a b q := rfl
theorem wA_at (m : ab_M) (o : Nat) (w : Nat → Nat) (q : Nat) : mi (wA m o w) 50 o q = nN (w q) := if_pos ⟨rfl, rfl⟩
theorem wA_ne (m : ab_M) (o : Nat) (w : Nat → Nat) {a b q : Nat} (h : a ≠ 50) : mi (wA m o w) a b q = mi m a b q := if_neg (fun z => h z.1)
theorem wA_wA (m : ab_M) (o : Nat) (w w' : Nat → Nat) : wA (wA m o w) o w' = wA m o w' := by
  unfold wA
  rw [wI_wI]
  congr 1
  funext a b q
  rw [mi_wI]
  split
  · rfl
  · rfl
theorem wA_sI (m : ab_M) (o : Nat) (w : Nat → Nat) (p x : Nat) : sI (wA m o w) 50 o p (nN x) = wA m o (updN w p x) := by
  unfold wA
  rw [sI_wI]
  congr 1
  funext a b q
  rw [u3_ap]
  unfold updN
  by_cases e : a = 50 ∧ b = o
  · by_cases e2 : q = p
    · simp [e, e2]
    · simp [e, e2]
  · rw [if_neg (fun z => e ⟨z.1, z.2.1⟩), if_neg e, if_neg e]
theorem wA_self {m : ab_M} {o : Nat} {w : Nat → Nat} (h : ∀ q, mi m 50 o q = nN (w q)) : wA m o w = m := by
  unfold wA
  have : (fun a b q => if a = 50 ∧ b = o then nN (w q) else mi m a b q) = mi m := by
    funext a b q
    split
    · next e => obtain ⟨rfl, rfl⟩ := e; exact (h q).symm
    · rfl
  rw [this, wI_self]
theorem rc_wA {m : ab_M} {o : Nat} {w : Nat → Nat} : rc (wA m o w) = rc m := by
  funext s i k
  unfold rc
  cases h9 : lc s i k with
  | none => rfl
  | some x =>
    refine wA_ne m o w ?_
    intro z
    have := (lc_gb h9).1
    rw [z] at this; cases this
theorem RM_wA {m : ab_M} {o : Nat} {w : Nat → Nat} (h : RM m) : RM (wA m o w) := RM_of h (fun _ _ _ _ => rfl) (fun _ _ _ => rfl) ⟨wA_ne m o w (by decide), wA_ne m o w (by decide), wA_ne m o w (by decide), wA_ne m o w (by decide)⟩
theorem nN_dec {s : Nat} (h : 1 ≤ s) : nN s + (-1) = nN (s - 1) := by
  obtain ⟨t, rfl⟩ : ∃ t, s = t + 1 := ⟨s - 1, by omega⟩
  rw [← nN_succ, Int32.add_assoc, show (1 : Int32) + (-1) = 0 from by decide, Int32.add_zero]; rfl
theorem q_X9_fall {sp : List ab_V → ab_M → ab_O} {m : ab_M} {o p s k : Nat} {w : Nat → Nat} (h1 : RM m) (h9 : ∀ i, w i ≤ 9) (hn : mn m 50 o = np (rc m)) (hp : p < np (rc m)) (hs1 : 1 ≤ s) (hsp : s ≤ w p) (hk : cnw w s (np (rc m)) ≤ k + 1)
    (hrec : ∀ (i t : Nat) (w' : Nat → Nat), i < np (rc m) → 1 ≤ t → t ≤ w' i → (∀ q, w' q ≤ 9) → cnw w' t (np (rc m)) ≤ k → sp [vA 62 0, vA 50 o, vI (nN i), vI (nN t)] (wA m o w') = ok0 (wA m o (rFall (rc m) k i t w'))) :
    ∀ K : ab_K, Closed (T_X9_fall SP_Jx4a65c_size_8abf5 SP_Jx4a65c_get_915e3 sp) (fun r' => r' = .inl ([], wA m o (rFall (rc m) (k + 1) p s w))) K → run K (fun r' => r' = .inl ([], wA m o (rFall (rc m) (k + 1) p s w))) (T_X9_fall SP_Jx4a65c_size_8abf5 SP_Jx4a65c_get_915e3 sp) 0 [some (vA 62 0), some (vA 50 o), some (vI (nN p)), some (vI (nN s)), none, none] [] (wA m o w) := by
  intro K hK
  have a1 := h1.1.1
  have h12 := h1.2.1.2
  have hnB : np (rc m) < 2147483648 := by omega
  have hsB : s < 2147483648 := by have := h9 p; omega
  have sz : ∀ w', SP_Jx4a65c_size_8abf5 [vA 44 0] (wA m o w') = okV (vI (nN (np (rc m)))) (wA m o w') := by
    intro w'
    have := e_Jx4a65c_size_8abf5 (m := wA m o w') (o := (44, 0)) rfl
    rw [show mi (wA m o w') (44, 0).1 (44, 0).2 2 = nN (np (rc m)) from (wA_ne m o w' (by decide)).trans h1.2.1.1.2.1] at this
    exact this
  have gt : ∀ w' i, i < np (rc m) → SP_Jx4a65c_get_915e3 [vA 44 0, vI (nN i)] (wA m o w') = okV (vA 48 i) (wA m o w') := by
    intro w' i hi
    have := get_P (m := wA m o w') (RM_wA h1) (p := nN i) (by rw [rc_wA, inb_nN (by omega)]; exact hi)
    rw [nN_nat (by omega)] at this
    exact this
  have e1 : ∀ w', mr (wA m o w') = mr m := fun _ => rfl
  have e2 : ∀ w', mn (wA m o w') = mn m := fun _ => rfl
  have c1 : ∀ i, i < np (rc m) → mr m 48 i 9 = some (41, i) := fun i hi => (h1.2.2.2.2.2.1 i (by omega)).1
  have c2 : ∀ i, i < np (rc m) → mn m 41 i = 10 := fun i hi => (h1.2.2.2.2.2.1 i (by omega)).2.2.1
  have c3 : ∀ w' i t, mi (wA m o w') 41 i t = rc m 15 i t := fun w' i t => wA_ne m o w' (by decide)
  have hpB : p < 2147483648 := by omega
  have hinv := FL_fRo (g := rFall (rc m) k) (c := rc m) (n := np (rc m)) hs1 hsp (fun i t w' h h' => rFall_FL (rc m) k i t w' h h')
  have lp : (fun (j : Nat) (w' : Nat → Nat) => K 5 [some (vA 62 0), some (vA 50 o), some (vI (nN p)), some (vI (nN s)), some (vI (nN (w p - j))), none] [] (wA m o w')) 0 w := by
    refine fo_loop (P := fun (j : Nat) (w' : Nat → Nat) => K 5 [some (vA 62 0), some (vA 50 o), some (vI (nN p)), some (vI (nN s)), some (vI (nN (w p - j))), none] [] (wA m o w')) (f := fRo (rFall (rc m) k) (rc m) p (w p) (np (rc m))) (n := w p + 1 - s) ?_ ?_
    · intro j w' hj hw' hk9
      obtain ⟨⟨i1, i2⟩, i3⟩ := hinv j (by omega)
      rw [← hw'] at i1 i2 i3
      clear hw' hinv
      have h9p := h9 p
      have ht : w p - j < 2147483648 := by omega
      have cut : ∀ v, K 5 [some (vA 62 0), some (vA 50 o), some (vI (nN p)), some (vI (nN s)), some (vI (nN (w p - j - 1))), v] [] (wA m o (fRo (rFall (rc m) k) (rc m) p (w p) (np (rc m)) j w')) := fun v => by
        refine hK.2 5 _ _ _ _ ?_ hk9
        repeat (first | exact le_nil | apply le_c | apply le_n)
      clear hk9
      simp only [fRo] at cut
      have hw1 : ∀ i, updN w' p (w p - j - 1) i ≤ w i := by
        intro i
        unfold updN
        split
        · next e => rw [e]; omega
        · exact i1 i
      have hpp : updN w' p (w p - j - 1) p = w p - j - 1 := if_pos rfl
      generalize hT : w p - j = t at *
      generalize hW : updN w' p (t - 1) = w1 at *
      have hst : s ≤ t := by omega
      have ht9 : t ≤ 9 := by omega
      have inn : (fun (i : Nat) (w2 : Nat → Nat) => K 21 [some (vA 62 0), some (vA 50 o), some (vI (nN p)), some (vI (nN s)), some (vI (nN t)), some (vI (nN i))] [] (wA m o w2)) 0 w1 := by
        have hJ := FL_fRi (g := rFall (rc m) k) (c := rc m) (p := p) (s := t) (n := np (rc m)) (w := w1) (fun i w' h => rFall_FL (rc m) k i t w' (by omega) h)
        refine fo_loop (P := fun (i : Nat) (w2 : Nat → Nat) => K 21 [some (vA 62 0), some (vA 50 o), some (vI (nN p)), some (vI (nN s)), some (vI (nN t)), some (vI (nN i))] [] (wA m o w2)) (f := fRi (rFall (rc m) k) (rc m) p t) (n := np (rc m)) ?_ ?_
        · intro i w2 hi hw2 hk2
          obtain ⟨j1, j2⟩ := hJ i (by omega)
          rw [← hw2] at j1 j2
          clear hw2 hJ
          have hiB : i < 2147483648 := by omega
          have h92 : ∀ q, w2 q ≤ 9 := fun q => Nat.le_trans (j1 q) (Nat.le_trans (hw1 q) (h9 q))
          have hcn : cnw w2 t (np (rc m)) ≤ k := by
            have := cnw_lt (w := w) (w' := w2) (s := s) (s' := t) (p := p) (fun q => Nat.le_trans (j1 q) (hw1 q)) hst hsp (by have := j2 p (by omega); omega) (np (rc m)) hp
            omega
          refine run_sound hK mt_X9_fall (T_X9_fall_21 SP_Jx4a65c_size_8abf5 SP_Jx4a65c_get_915e3 sp) (fun x hx => List.mem_append_right _ (List.mem_append_right _ hx)) _ _ _ _ ?_
          simp only [fRi] at hk2
          by_cases z1 : w2 i < t
          · rw [if_pos z1] at hk2
            simp only [T_X9_fall_21, a1, e1, e2, hn, sz, nN_lt hiB hnB, hi, inb_nN hiB, nN_nat hiB, wA_at, nN_lt (show w2 i < 2147483648 by have := h92 i; omega) (show t < 2147483648 by omega), z1, nN_succ, i10, Bool.false_eq_true, Bool.true_eq_false, Bool.not_true, Bool.not_false, ↓run_hit, ↓run_miss, ↓run_none, run_nil, ab_get0, ab_getS, if_true, if_false, if_pos, true_and, and_true, List.append_nil, List.nil_append, List.cons_append, List.length_cons, List.length_nil, List.take_succ_cons, List.take_zero, List.drop_succ_cons, List.drop_zero, List.reverse_cons, List.reverse_nil, List.map_nil, List.map_cons, List.sum_nil, List.sum_cons, rcv_some, rcv_999, wide_I, wide_L, wide_D, wide_R, wide_X, eq_self_iff_true, ite_true, ite_false, ↓reduceIte, Nat.reduceEqDiff, Nat.reduceLeDiff, Nat.reduceLT, Nat.reduceAdd, Nat.reduceMul, Nat.reduceBEq, decide_true, decide_false, and_self, or_self, or_true, true_or, false_or, or_false, and_false, false_and, not_false_eq_true, not_true_eq_false, Nat.zero_le, Nat.le_refl, Nat.add_eq_zero_iff, Nat.succ_ne_self, ↓s_const, ↓s_iload, ↓s_lload, ↓s_dload, ↓s_aload, ↓s_istore, ↓s_lstore, ↓s_dstore, ↓s_astore, ↓s_iinc, ↓s_bin, ↓s_div, ↓s_binL, ↓s_lcmp, ↓s_i2l, ↓s_i2d, ↓s_ddiv, ↓s_dcmpl, ↓s_goto, ↓s_ifeq, ↓s_iflt, ↓s_ifgt, ↓s_cmpeq, ↓s_cmplt, ↓s_cmpgt, ↓s_ifnull, ↓s_aeq, ↓s_pop, ↓s_dup, ↓s_dup2, ↓s_dupx1, ↓s_tab, ↓s_getI, ↓s_getR, ↓s_putI, ↓s_putZ, ↓s_putR, ↓s_ald, ↓s_ast, ↓s_zast, ↓s_lald, ↓s_last, ↓s_dald, ↓s_dast, ↓s_aald, ↓s_aast, ↓s_alen, ↓s_new, ↓s_newa, ↓s_multi, ↓s_cast, ↓s_getE, ↓s_obj, ↓s_mmin, ↓s_mmax, ↓s_hd, ↓s_call, ↓s_throw, ↓s_ret, ↓s_retL, ↓s_retD, ↓s_retA, ↓s_retV, mi_wI, mr_wI, mn_wI, mc_wI, sI_wI, u3_ap, mi_sI, mi_sR, mi_sL, mi_sD, mi_al, mi_bp, mr_sI, mr_sR, mr_sL, mr_sD, mr_al, mr_bp, ml_sI, ml_sR, ml_sL, ml_sD, ml_al, ml_bp, md_sI, md_sR, md_sL, md_sD, md_al, md_bp, mn_sI, mn_sR, mn_sL, mn_sD, mn_al, mn_bp, mc_sI, mc_sR, mc_sL, mc_sD, mc_al, mc_bp, mnc_sI, mnc_sR, mnc_sL, mnc_sD, mnc_al, mnc_bp, mns_sI, mns_sR, mns_sL, mns_sD, mns_al, mns_bp, SK_0, SK_1, SK_2, SK_3, SK_4, SK_5, SK_6, SK_7, SK_8, SK_9, SK_10, SK_11, SK_12, SK_13, SK_14, SK_15, SK_16, SK_17, SK_18, SK_19, SK_20, SK_21, SK_22, SK_23, SK_24, SK_25, SK_26, SK_27, SK_28, SK_29, SK_30, SK_31, SK_32, SK_33, SK_34, SK_35, SK_36, SK_37, SK_38, SK_39, SK_40, SK_41, SK_42, SK_43, SK_44, SK_45, SK_46, SK_47, SK_48, SK_49, SK_50, SK_51, SK_52, SK_53, SK_54, SK_55, SK_56, SK_57, SK_58, SK_59, SK_60, SK_61, SK_62, SK_63, SK_64, SK_65, st1_0, st1_1, st1_2, st1_3, st1_4, st1_5, st1_6, st1_7, st1_8, st2_0, st2_1, st2_2, st2_3, st2_4, st2_5, st2_6, st2_7, clr_I, clr_R, clr_X, clr_L, clr_D, clr_N]
            exact hk2
          · rw [if_neg z1] at hk2
            by_cases z2 : rc m 15 i t = nN p
            · rw [if_pos z2] at hk2
              have er := hrec i t w2 hi (by omega) (by omega) h92 hcn
              simp only [T_X9_fall_21, a1, e1, e2, hn, sz, nN_lt hiB hnB, hi, inb_nN hiB, nN_nat hiB, wA_at, nN_lt (show w2 i < 2147483648 by have := h92 i; omega) (show t < 2147483648 by omega), z1, nN_succ, gt w2 i hi, c1 i hi, c2 i hi, c3, z2, inb_nN (show t < 2147483648 by omega), nN_nat (show t < 2147483648 by omega), show t < 10 by omega, er, i10, Bool.false_eq_true, Bool.true_eq_false, Bool.not_true, Bool.not_false, ↓run_hit, ↓run_miss, ↓run_none, run_nil, ab_get0, ab_getS, if_true, if_false, if_pos, true_and, and_true, List.append_nil, List.nil_append, List.cons_append, List.length_cons, List.length_nil, List.take_succ_cons, List.take_zero, List.drop_succ_cons, List.drop_zero, List.reverse_cons, List.reverse_nil, List.map_nil, List.map_cons, List.sum_nil, List.sum_cons, rcv_some, rcv_999, wide_I, wide_L, wide_D, wide_R, wide_X, eq_self_iff_true, ite_true, ite_false, ↓reduceIte, Nat.reduceEqDiff, Nat.reduceLeDiff, Nat.reduceLT, Nat.reduceAdd, Nat.reduceMul, Nat.reduceBEq, decide_true, decide_false, and_self, or_self, or_true, true_or, false_or, or_false, and_false, false_and, not_false_eq_true, not_true_eq_false, Nat.zero_le, Nat.le_refl, Nat.add_eq_zero_iff, Nat.succ_ne_self, ↓s_const, ↓s_iload, ↓s_lload, ↓s_dload, ↓s_aload, ↓s_istore, ↓s_lstore, ↓s_dstore, ↓s_astore, ↓s_iinc, ↓s_bin, ↓s_div, ↓s_binL, ↓s_lcmp, ↓s_i2l, ↓s_i2d, ↓s_ddiv, ↓s_dcmpl, ↓s_goto, ↓s_ifeq, ↓s_iflt, ↓s_ifgt, ↓s_cmpeq, ↓s_cmplt, ↓s_cmpgt, ↓s_ifnull, ↓s_aeq, ↓s_pop, ↓s_dup, ↓s_dup2, ↓s_dupx1, ↓s_tab, ↓s_getI, ↓s_getR, ↓s_putI, ↓s_putZ, ↓s_putR, ↓s_ald, ↓s_ast, ↓s_zast, ↓s_lald, ↓s_last, ↓s_dald, ↓s_dast, ↓s_aald, ↓s_aast, ↓s_alen, ↓s_new, ↓s_newa, ↓s_multi, ↓s_cast, ↓s_getE, ↓s_obj, ↓s_mmin, ↓s_mmax, ↓s_hd, ↓s_call, ↓s_throw, ↓s_ret, ↓s_retL, ↓s_retD, ↓s_retA, ↓s_retV, mi_wI, mr_wI, mn_wI, mc_wI, sI_wI, u3_ap, mi_sI, mi_sR, mi_sL, mi_sD, mi_al, mi_bp, mr_sI, mr_sR, mr_sL, mr_sD, mr_al, mr_bp, ml_sI, ml_sR, ml_sL, ml_sD, ml_al, ml_bp, md_sI, md_sR, md_sL, md_sD, md_al, md_bp, mn_sI, mn_sR, mn_sL, mn_sD, mn_al, mn_bp, mc_sI, mc_sR, mc_sL, mc_sD, mc_al, mc_bp, mnc_sI, mnc_sR, mnc_sL, mnc_sD, mnc_al, mnc_bp, mns_sI, mns_sR, mns_sL, mns_sD, mns_al, mns_bp, SK_0, SK_1, SK_2, SK_3, SK_4, SK_5, SK_6, SK_7, SK_8, SK_9, SK_10, SK_11, SK_12, SK_13, SK_14, SK_15, SK_16, SK_17, SK_18, SK_19, SK_20, SK_21, SK_22, SK_23, SK_24, SK_25, SK_26, SK_27, SK_28, SK_29, SK_30, SK_31, SK_32, SK_33, SK_34, SK_35, SK_36, SK_37, SK_38, SK_39, SK_40, SK_41, SK_42, SK_43, SK_44, SK_45, SK_46, SK_47, SK_48, SK_49, SK_50, SK_51, SK_52, SK_53, SK_54, SK_55, SK_56, SK_57, SK_58, SK_59, SK_60, SK_61, SK_62, SK_63, SK_64, SK_65, st1_0, st1_1, st1_2, st1_3, st1_4, st1_5, st1_6, st1_7, st1_8, st2_0, st2_1, st2_2, st2_3, st2_4, st2_5, st2_6, st2_7, clr_I, clr_R, clr_X, clr_L, clr_D, clr_N]
              exact hk2
            · rw [if_neg z2] at hk2
              simp only [T_X9_fall_21, a1, e1, e2, hn, sz, nN_lt hiB hnB, hi, inb_nN hiB, nN_nat hiB, wA_at, nN_lt (show w2 i < 2147483648 by have := h92 i; omega) (show t < 2147483648 by omega), z1, nN_succ, gt w2 i hi, c1 i hi, c2 i hi, c3, z2, inb_nN (show t < 2147483648 by omega), nN_nat (show t < 2147483648 by omega), show t < 10 by omega, i10, Bool.false_eq_true, Bool.true_eq_false, Bool.not_true, Bool.not_false, ↓run_hit, ↓run_miss, ↓run_none, run_nil, ab_get0, ab_getS, if_true, if_false, if_pos, true_and, and_true, List.append_nil, List.nil_append, List.cons_append, List.length_cons, List.length_nil, List.take_succ_cons, List.take_zero, List.drop_succ_cons, List.drop_zero, List.reverse_cons, List.reverse_nil, List.map_nil, List.map_cons, List.sum_nil, List.sum_cons, rcv_some, rcv_999, wide_I, wide_L, wide_D, wide_R, wide_X, eq_self_iff_true, ite_true, ite_false, ↓reduceIte, Nat.reduceEqDiff, Nat.reduceLeDiff, Nat.reduceLT, Nat.reduceAdd, Nat.reduceMul, Nat.reduceBEq, decide_true, decide_false, and_self, or_self, or_true, true_or, false_or, or_false, and_false, false_and, not_false_eq_true, not_true_eq_false, Nat.zero_le, Nat.le_refl, Nat.add_eq_zero_iff, Nat.succ_ne_self, ↓s_const, ↓s_iload, ↓s_lload, ↓s_dload, ↓s_aload, ↓s_istore, ↓s_lstore, ↓s_dstore, ↓s_astore, ↓s_iinc, ↓s_bin, ↓s_div, ↓s_binL, ↓s_lcmp, ↓s_i2l, ↓s_i2d, ↓s_ddiv, ↓s_dcmpl, ↓s_goto, ↓s_ifeq, ↓s_iflt, ↓s_ifgt, ↓s_cmpeq, ↓s_cmplt, ↓s_cmpgt, ↓s_ifnull, ↓s_aeq, ↓s_pop, ↓s_dup, ↓s_dup2, ↓s_dupx1, ↓s_tab, ↓s_getI, ↓s_getR, ↓s_putI, ↓s_putZ, ↓s_putR, ↓s_ald, ↓s_ast, ↓s_zast, ↓s_lald, ↓s_last, ↓s_dald, ↓s_dast, ↓s_aald, ↓s_aast, ↓s_alen, ↓s_new, ↓s_newa, ↓s_multi, ↓s_cast, ↓s_getE, ↓s_obj, ↓s_mmin, ↓s_mmax, ↓s_hd, ↓s_call, ↓s_throw, ↓s_ret, ↓s_retL, ↓s_retD, ↓s_retA, ↓s_retV, mi_wI, mr_wI, mn_wI, mc_wI, sI_wI, u3_ap, mi_sI, mi_sR, mi_sL, mi_sD, mi_al, mi_bp, mr_sI, mr_sR, mr_sL, mr_sD, mr_al, mr_bp, ml_sI, ml_sR, ml_sL, ml_sD, ml_al, ml_bp, md_sI, md_sR, md_sL, md_sD, md_al, md_bp, mn_sI, mn_sR, mn_sL, mn_sD, mn_al, mn_bp, mc_sI, mc_sR, mc_sL, mc_sD, mc_al, mc_bp, mnc_sI, mnc_sR, mnc_sL, mnc_sD, mnc_al, mnc_bp, mns_sI, mns_sR, mns_sL, mns_sD, mns_al, mns_bp, SK_0, SK_1, SK_2, SK_3, SK_4, SK_5, SK_6, SK_7, SK_8, SK_9, SK_10, SK_11, SK_12, SK_13, SK_14, SK_15, SK_16, SK_17, SK_18, SK_19, SK_20, SK_21, SK_22, SK_23, SK_24, SK_25, SK_26, SK_27, SK_28, SK_29, SK_30, SK_31, SK_32, SK_33, SK_34, SK_35, SK_36, SK_37, SK_38, SK_39, SK_40, SK_41, SK_42, SK_43, SK_44, SK_45, SK_46, SK_47, SK_48, SK_49, SK_50, SK_51, SK_52, SK_53, SK_54, SK_55, SK_56, SK_57, SK_58, SK_59, SK_60, SK_61, SK_62, SK_63, SK_64, SK_65, st1_0, st1_1, st1_2, st1_3, st1_4, st1_5, st1_6, st1_7, st1_8, st2_0, st2_1, st2_2, st2_3, st2_4, st2_5, st2_6, st2_7, clr_I, clr_R, clr_X, clr_L, clr_D, clr_N]
              exact hk2
        · refine run_sound hK mt_X9_fall (T_X9_fall_21 SP_Jx4a65c_size_8abf5 SP_Jx4a65c_get_915e3 sp) (fun x hx => List.mem_append_right _ (List.mem_append_right _ hx)) _ _ _ _ ?_
          have cut2 := cut (some (vI (nN (np (rc m)))))
          simp only [T_X9_fall_21, a1, e1, sz, nN_lt hnB hnB, Nat.lt_irrefl, nN_dec (show 1 ≤ t by omega), i10, Bool.false_eq_true, Bool.true_eq_false, Bool.not_true, Bool.not_false, ↓run_hit, ↓run_miss, ↓run_none, run_nil, ab_get0, ab_getS, if_true, if_false, if_pos, true_and, and_true, List.append_nil, List.nil_append, List.cons_append, List.length_cons, List.length_nil, List.take_succ_cons, List.take_zero, List.drop_succ_cons, List.drop_zero, List.reverse_cons, List.reverse_nil, List.map_nil, List.map_cons, List.sum_nil, List.sum_cons, rcv_some, rcv_999, wide_I, wide_L, wide_D, wide_R, wide_X, eq_self_iff_true, ite_true, ite_false, ↓reduceIte, Nat.reduceEqDiff, Nat.reduceLeDiff, Nat.reduceLT, Nat.reduceAdd, Nat.reduceMul, Nat.reduceBEq, decide_true, decide_false, and_self, or_self, or_true, true_or, false_or, or_false, and_false, false_and, not_false_eq_true, not_true_eq_false, Nat.zero_le, Nat.le_refl, Nat.add_eq_zero_iff, Nat.succ_ne_self, ↓s_const, ↓s_iload, ↓s_lload, ↓s_dload, ↓s_aload, ↓s_istore, ↓s_lstore, ↓s_dstore, ↓s_astore, ↓s_iinc, ↓s_bin, ↓s_div, ↓s_binL, ↓s_lcmp, ↓s_i2l, ↓s_i2d, ↓s_ddiv, ↓s_dcmpl, ↓s_goto, ↓s_ifeq, ↓s_iflt, ↓s_ifgt, ↓s_cmpeq, ↓s_cmplt, ↓s_cmpgt, ↓s_ifnull, ↓s_aeq, ↓s_pop, ↓s_dup, ↓s_dup2, ↓s_dupx1, ↓s_tab, ↓s_getI, ↓s_getR, ↓s_putI, ↓s_putZ, ↓s_putR, ↓s_ald, ↓s_ast, ↓s_zast, ↓s_lald, ↓s_last, ↓s_dald, ↓s_dast, ↓s_aald, ↓s_aast, ↓s_alen, ↓s_new, ↓s_newa, ↓s_multi, ↓s_cast, ↓s_getE, ↓s_obj, ↓s_mmin, ↓s_mmax, ↓s_hd, ↓s_call, ↓s_throw, ↓s_ret, ↓s_retL, ↓s_retD, ↓s_retA, ↓s_retV, mi_wI, mr_wI, mn_wI, mc_wI, sI_wI, u3_ap, mi_sI, mi_sR, mi_sL, mi_sD, mi_al, mi_bp, mr_sI, mr_sR, mr_sL, mr_sD, mr_al, mr_bp, ml_sI, ml_sR, ml_sL, ml_sD, ml_al, ml_bp, md_sI, md_sR, md_sL, md_sD, md_al, md_bp, mn_sI, mn_sR, mn_sL, mn_sD, mn_al, mn_bp, mc_sI, mc_sR, mc_sL, mc_sD, mc_al, mc_bp, mnc_sI, mnc_sR, mnc_sL, mnc_sD, mnc_al, mnc_bp, mns_sI, mns_sR, mns_sL, mns_sD, mns_al, mns_bp, SK_0, SK_1, SK_2, SK_3, SK_4, SK_5, SK_6, SK_7, SK_8, SK_9, SK_10, SK_11, SK_12, SK_13, SK_14, SK_15, SK_16, SK_17, SK_18, SK_19, SK_20, SK_21, SK_22, SK_23, SK_24, SK_25, SK_26, SK_27, SK_28, SK_29, SK_30, SK_31, SK_32, SK_33, SK_34, SK_35, SK_36, SK_37, SK_38, SK_39, SK_40, SK_41, SK_42, SK_43, SK_44, SK_45, SK_46, SK_47, SK_48, SK_49, SK_50, SK_51, SK_52, SK_53, SK_54, SK_55, SK_56, SK_57, SK_58, SK_59, SK_60, SK_61, SK_62, SK_63, SK_64, SK_65, st1_0, st1_1, st1_2, st1_3, st1_4, st1_5, st1_6, st1_7, st1_8, st2_0, st2_1, st2_2, st2_3, st2_4, st2_5, st2_6, st2_7, clr_I, clr_R, clr_X, clr_L, clr_D, clr_N]
          exact cut2
      refine run_sound hK mt_X9_fall (T_X9_fall_5 SP_Jx4a65c_size_8abf5 SP_Jx4a65c_get_915e3 sp) (fun x hx => List.mem_append_right _ hx) _ _ _ _ ?_
      have es : sI (wA m o w') 50 o p (nN t - 1) = wA m o w1 := by rw [nN_pred (by omega), wA_sI, hW]
      simp only [T_X9_fall_5, e2, hn, nN_lt (show t < 2147483648 by omega) hsB, show ¬ t < s by omega, inb_nN hpB, hp, nN_nat hpB, es, i10, Bool.false_eq_true, Bool.true_eq_false, Bool.not_true, Bool.not_false, ↓run_hit, ↓run_miss, ↓run_none, run_nil, ab_get0, ab_getS, if_true, if_false, if_pos, true_and, and_true, List.append_nil, List.nil_append, List.cons_append, List.length_cons, List.length_nil, List.take_succ_cons, List.take_zero, List.drop_succ_cons, List.drop_zero, List.reverse_cons, List.reverse_nil, List.map_nil, List.map_cons, List.sum_nil, List.sum_cons, rcv_some, rcv_999, wide_I, wide_L, wide_D, wide_R, wide_X, eq_self_iff_true, ite_true, ite_false, ↓reduceIte, Nat.reduceEqDiff, Nat.reduceLeDiff, Nat.reduceLT, Nat.reduceAdd, Nat.reduceMul, Nat.reduceBEq, decide_true, decide_false, and_self, or_self, or_true, true_or, false_or, or_false, and_false, false_and, not_false_eq_true, not_true_eq_false, Nat.zero_le, Nat.le_refl, Nat.add_eq_zero_iff, Nat.succ_ne_self, ↓s_const, ↓s_iload, ↓s_lload, ↓s_dload, ↓s_aload, ↓s_istore, ↓s_lstore, ↓s_dstore, ↓s_astore, ↓s_iinc, ↓s_bin, ↓s_div, ↓s_binL, ↓s_lcmp, ↓s_i2l, ↓s_i2d, ↓s_ddiv, ↓s_dcmpl, ↓s_goto, ↓s_ifeq, ↓s_iflt, ↓s_ifgt, ↓s_cmpeq, ↓s_cmplt, ↓s_cmpgt, ↓s_ifnull, ↓s_aeq, ↓s_pop, ↓s_dup, ↓s_dup2, ↓s_dupx1, ↓s_tab, ↓s_getI, ↓s_getR, ↓s_putI, ↓s_putZ, ↓s_putR, ↓s_ald, ↓s_ast, ↓s_zast, ↓s_lald, ↓s_last, ↓s_dald, ↓s_dast, ↓s_aald, ↓s_aast, ↓s_alen, ↓s_new, ↓s_newa, ↓s_multi, ↓s_cast, ↓s_getE, ↓s_obj, ↓s_mmin, ↓s_mmax, ↓s_hd, ↓s_call, ↓s_throw, ↓s_ret, ↓s_retL, ↓s_retD, ↓s_retA, ↓s_retV, mi_wI, mr_wI, mn_wI, mc_wI, sI_wI, u3_ap, mi_sI, mi_sR, mi_sL, mi_sD, mi_al, mi_bp, mr_sI, mr_sR, mr_sL, mr_sD, mr_al, mr_bp, ml_sI, ml_sR, ml_sL, ml_sD, ml_al, ml_bp, md_sI, md_sR, md_sL, md_sD, md_al, md_bp, mn_sI, mn_sR, mn_sL, mn_sD, mn_al, mn_bp, mc_sI, mc_sR, mc_sL, mc_sD, mc_al, mc_bp, mnc_sI, mnc_sR, mnc_sL, mnc_sD, mnc_al, mnc_bp, mns_sI, mns_sR, mns_sL, mns_sD, mns_al, mns_bp, SK_0, SK_1, SK_2, SK_3, SK_4, SK_5, SK_6, SK_7, SK_8, SK_9, SK_10, SK_11, SK_12, SK_13, SK_14, SK_15, SK_16, SK_17, SK_18, SK_19, SK_20, SK_21, SK_22, SK_23, SK_24, SK_25, SK_26, SK_27, SK_28, SK_29, SK_30, SK_31, SK_32, SK_33, SK_34, SK_35, SK_36, SK_37, SK_38, SK_39, SK_40, SK_41, SK_42, SK_43, SK_44, SK_45, SK_46, SK_47, SK_48, SK_49, SK_50, SK_51, SK_52, SK_53, SK_54, SK_55, SK_56, SK_57, SK_58, SK_59, SK_60, SK_61, SK_62, SK_63, SK_64, SK_65, st1_0, st1_1, st1_2, st1_3, st1_4, st1_5, st1_6, st1_7, st1_8, st2_0, st2_1, st2_2, st2_3, st2_4, st2_5, st2_6, st2_7, clr_I, clr_R, clr_X, clr_L, clr_D, clr_N]
      exact inn
    · refine run_sound hK mt_X9_fall (T_X9_fall_5 SP_Jx4a65c_size_8abf5 SP_Jx4a65c_get_915e3 sp) (fun x hx => List.mem_append_right _ hx) _ _ _ _ ?_
      simp only [T_X9_fall_5, nN_lt (show w p - (w p + 1 - s) < 2147483648 by have := h9 p; omega) hsB, show w p - (w p + 1 - s) < s by omega, i10, Bool.false_eq_true, Bool.true_eq_false, Bool.not_true, Bool.not_false, ↓run_hit, ↓run_miss, ↓run_none, run_nil, ab_get0, ab_getS, if_true, if_false, if_pos, true_and, and_true, List.append_nil, List.nil_append, List.cons_append, List.length_cons, List.length_nil, List.take_succ_cons, List.take_zero, List.drop_succ_cons, List.drop_zero, List.reverse_cons, List.reverse_nil, List.map_nil, List.map_cons, List.sum_nil, List.sum_cons, rcv_some, rcv_999, wide_I, wide_L, wide_D, wide_R, wide_X, eq_self_iff_true, ite_true, ite_false, ↓reduceIte, Nat.reduceEqDiff, Nat.reduceLeDiff, Nat.reduceLT, Nat.reduceAdd, Nat.reduceMul, Nat.reduceBEq, decide_true, decide_false, and_self, or_self, or_true, true_or, false_or, or_false, and_false, false_and, not_false_eq_true, not_true_eq_false, Nat.zero_le, Nat.le_refl, Nat.add_eq_zero_iff, Nat.succ_ne_self, ↓s_const, ↓s_iload, ↓s_lload, ↓s_dload, ↓s_aload, ↓s_istore, ↓s_lstore, ↓s_dstore, ↓s_astore, ↓s_iinc, ↓s_bin, ↓s_div, ↓s_binL, ↓s_lcmp, ↓s_i2l, ↓s_i2d, ↓s_ddiv, ↓s_dcmpl, ↓s_goto, ↓s_ifeq, ↓s_iflt, ↓s_ifgt, ↓s_cmpeq, ↓s_cmplt, ↓s_cmpgt, ↓s_ifnull, ↓s_aeq, ↓s_pop, ↓s_dup, ↓s_dup2, ↓s_dupx1, ↓s_tab, ↓s_getI, ↓s_getR, ↓s_putI, ↓s_putZ, ↓s_putR, ↓s_ald, ↓s_ast, ↓s_zast, ↓s_lald, ↓s_last, ↓s_dald, ↓s_dast, ↓s_aald, ↓s_aast, ↓s_alen, ↓s_new, ↓s_newa, ↓s_multi, ↓s_cast, ↓s_getE, ↓s_obj, ↓s_mmin, ↓s_mmax, ↓s_hd, ↓s_call, ↓s_throw, ↓s_ret, ↓s_retL, ↓s_retD, ↓s_retA, ↓s_retV, mi_wI, mr_wI, mn_wI, mc_wI, sI_wI, u3_ap, mi_sI, mi_sR, mi_sL, mi_sD, mi_al, mi_bp, mr_sI, mr_sR, mr_sL, mr_sD, mr_al, mr_bp, ml_sI, ml_sR, ml_sL, ml_sD, ml_al, ml_bp, md_sI, md_sR, md_sL, md_sD, md_al, md_bp, mn_sI, mn_sR, mn_sL, mn_sD, mn_al, mn_bp, mc_sI, mc_sR, mc_sL, mc_sD, mc_al, mc_bp, mnc_sI, mnc_sR, mnc_sL, mnc_sD, mnc_al, mnc_bp, mns_sI, mns_sR, mns_sL, mns_sD, mns_al, mns_bp, SK_0, SK_1, SK_2, SK_3, SK_4, SK_5, SK_6, SK_7, SK_8, SK_9, SK_10, SK_11, SK_12, SK_13, SK_14, SK_15, SK_16, SK_17, SK_18, SK_19, SK_20, SK_21, SK_22, SK_23, SK_24, SK_25, SK_26, SK_27, SK_28, SK_29, SK_30, SK_31, SK_32, SK_33, SK_34, SK_35, SK_36, SK_37, SK_38, SK_39, SK_40, SK_41, SK_42, SK_43, SK_44, SK_45, SK_46, SK_47, SK_48, SK_49, SK_50, SK_51, SK_52, SK_53, SK_54, SK_55, SK_56, SK_57, SK_58, SK_59, SK_60, SK_61, SK_62, SK_63, SK_64, SK_65, st1_0, st1_1, st1_2, st1_3, st1_4, st1_5, st1_6, st1_7, st1_8, st2_0, st2_1, st2_2, st2_3, st2_4, st2_5, st2_6, st2_7, clr_I, clr_R, clr_X, clr_L, clr_D, clr_N]
      rfl
  simp only [T_X9_fall, a1, e2, hn, inb_nN hpB, hp, nN_nat hpB, wA_at, i10, Bool.false_eq_true, Bool.true_eq_false, Bool.not_true, Bool.not_false, ↓run_hit, ↓run_miss, ↓run_none, run_nil, ab_get0, ab_getS, if_true, if_false, if_pos, true_and, and_true, List.append_nil, List.nil_append, List.cons_append, List.length_cons, List.length_nil, List.take_succ_cons, List.take_zero, List.drop_succ_cons, List.drop_zero, List.reverse_cons, List.reverse_nil, List.map_nil, List.map_cons, List.sum_nil, List.sum_cons, rcv_some, rcv_999, wide_I, wide_L, wide_D, wide_R, wide_X, eq_self_iff_true, ite_true, ite_false, ↓reduceIte, Nat.reduceEqDiff, Nat.reduceLeDiff, Nat.reduceLT, Nat.reduceAdd, Nat.reduceMul, Nat.reduceBEq, decide_true, decide_false, and_self, or_self, or_true, true_or, false_or, or_false, and_false, false_and, not_false_eq_true, not_true_eq_false, Nat.zero_le, Nat.le_refl, Nat.add_eq_zero_iff, Nat.succ_ne_self, ↓s_const, ↓s_iload, ↓s_lload, ↓s_dload, ↓s_aload, ↓s_istore, ↓s_lstore, ↓s_dstore, ↓s_astore, ↓s_iinc, ↓s_bin, ↓s_div, ↓s_binL, ↓s_lcmp, ↓s_i2l, ↓s_i2d, ↓s_ddiv, ↓s_dcmpl, ↓s_goto, ↓s_ifeq, ↓s_iflt, ↓s_ifgt, ↓s_cmpeq, ↓s_cmplt, ↓s_cmpgt, ↓s_ifnull, ↓s_aeq, ↓s_pop, ↓s_dup, ↓s_dup2, ↓s_dupx1, ↓s_tab, ↓s_getI, ↓s_getR, ↓s_putI, ↓s_putZ, ↓s_putR, ↓s_ald, ↓s_ast, ↓s_zast, ↓s_lald, ↓s_last, ↓s_dald, ↓s_dast, ↓s_aald, ↓s_aast, ↓s_alen, ↓s_new, ↓s_newa, ↓s_multi, ↓s_cast, ↓s_getE, ↓s_obj, ↓s_mmin, ↓s_mmax, ↓s_hd, ↓s_call, ↓s_throw, ↓s_ret, ↓s_retL, ↓s_retD, ↓s_retA, ↓s_retV, mi_wI, mr_wI, mn_wI, mc_wI, sI_wI, u3_ap, mi_sI, mi_sR, mi_sL, mi_sD, mi_al, mi_bp, mr_sI, mr_sR, mr_sL, mr_sD, mr_al, mr_bp, ml_sI, ml_sR, ml_sL, ml_sD, ml_al, ml_bp, md_sI, md_sR, md_sL, md_sD, md_al, md_bp, mn_sI, mn_sR, mn_sL, mn_sD, mn_al, mn_bp, mc_sI, mc_sR, mc_sL, mc_sD, mc_al, mc_bp, mnc_sI, mnc_sR, mnc_sL, mnc_sD, mnc_al, mnc_bp, mns_sI, mns_sR, mns_sL, mns_sD, mns_al, mns_bp, SK_0, SK_1, SK_2, SK_3, SK_4, SK_5, SK_6, SK_7, SK_8, SK_9, SK_10, SK_11, SK_12, SK_13, SK_14, SK_15, SK_16, SK_17, SK_18, SK_19, SK_20, SK_21, SK_22, SK_23, SK_24, SK_25, SK_26, SK_27, SK_28, SK_29, SK_30, SK_31, SK_32, SK_33, SK_34, SK_35, SK_36, SK_37, SK_38, SK_39, SK_40, SK_41, SK_42, SK_43, SK_44, SK_45, SK_46, SK_47, SK_48, SK_49, SK_50, SK_51, SK_52, SK_53, SK_54, SK_55, SK_56, SK_57, SK_58, SK_59, SK_60, SK_61, SK_62, SK_63, SK_64, SK_65, st1_0, st1_1, st1_2, st1_3, st1_4, st1_5, st1_6, st1_7, st1_8, st2_0, st2_1, st2_2, st2_3, st2_4, st2_5, st2_6, st2_7, clr_I, clr_R, clr_X, clr_L, clr_D, clr_N]
  exact lp

noncomputable def SP_X9_fall (k : Nat) : List ab_V → ab_M → ab_O := fun as m => match as with
  | [this, .inr (.inr (.inr (.inl (some o)))), .inl p, .inl s] => gd (this = vA 62 0 ∧ RM m ∧ (o.1 = 50 ∧ mn m 50 o.2 = np (rc m) ∧ ∀ i, inb (mi m 50 o.2 i) 10) ∧ inb p (np (rc m)) ∧ (inb s 10 ∧ 1 ≤ s.toNatClampNeg) ∧ s.toNatClampNeg ≤ (mi m 50 o.2 p.toNatClampNeg).toNatClampNeg ∧ cnw (fun i => (mi m 50 o.2 i).toNatClampNeg) s.toNatClampNeg (np (rc m)) ≤ k) (ok0 (wA m o.2 (rFall (rc m) k p.toNatClampNeg s.toNatClampNeg (fun i => (mi m 50 o.2 i).toNatClampNeg))))
  | _ => none
theorem e_X9_fall {k : Nat} {m : ab_M} {o : Nat × Nat} {p s : Int32} (h1 : RM m) (h2 : o.1 = 50 ∧ mn m 50 o.2 = np (rc m) ∧ ∀ i, inb (mi m 50 o.2 i) 10) (h3 : inb p (np (rc m))) (h4 : inb s 10 ∧ 1 ≤ s.toNatClampNeg) (h5 : s.toNatClampNeg ≤ (mi m 50 o.2 p.toNatClampNeg).toNatClampNeg) (h6 : cnw (fun i => (mi m 50 o.2 i).toNatClampNeg) s.toNatClampNeg (np (rc m)) ≤ k) : SP_X9_fall k [vA 62 0, vR (some o), vI p, vI s] m = ok0 (wA m o.2 (rFall (rc m) k p.toNatClampNeg s.toNatClampNeg (fun i => (mi m 50 o.2 i).toNatClampNeg))) := gd_pos ⟨rfl, h1, h2, h3, h4, h5, h6⟩
theorem cnw_pos {w : Nat → Nat} {s p : Nat} (h : s ≤ w p) : ∀ n, p < n → 1 ≤ cnw w s n
  | 0, hp => absurd hp (Nat.not_lt_zero _)
  | n + 1, hp => by
    rw [cnw_s]
    by_cases e : p = n
    · subst e
      rw [if_neg (by omega)]; omega
    · have := cnw_pos h n (by omega)
      split <;> omega
theorem C_X9_fall {l : Launch} {D : va_G} {cA : Nat → ClassId} (hst : l.stackTraces = false) : ∀ (k d : Nat), k + 9 ≤ d → ∀ (as : List ab_V) (m : ab_M), Ctr l D cA d yX9_fall (Cond.code yX9_fall cX9_fall 6 none :: TB) as m (SP_X9_fall k as m) := by
  intro k
  induction k with
  | zero =>
    intro d hd as m
    refine ctr_of2 (by decide +kernel) hst (by omega) (snd_X9_fall (sp_X9_fall := fun _ _ => none) (d' := d - 1) (hd9 := by omega) (hC_Jx4a65c_size_8abf5 := C_Jx4a65c_size_8abf5 hst (by omega)) (hC_Jx4a65c_get_915e3 := C_Jx4a65c_get_915e3 hst (by omega)) (hC_X9_fall := fun _ _ _ h => by cases h)) mt_X9_fall ?_
    intro r hr
    unfold SP_X9_fall at hr
    split at hr
    · obtain ⟨hp, hr'⟩ := gd_some hr
      obtain ⟨rfl, h1, h2, h3, h4, h5, h6⟩ := hp
      exact absurd h6 (by have := cnw_pos (w := fun i => (mi m 50 _ i).toNatClampNeg) h5 _ (inb_eq h3).2; omega)
    · cases hr
  | succ k ih =>
    intro d hd as m
    refine ctr_of2 (by decide +kernel) hst (by omega) (snd_X9_fall (sp_X9_fall := SP_X9_fall k) (d' := d - 1) (hd9 := by omega) (hC_Jx4a65c_size_8abf5 := C_Jx4a65c_size_8abf5 hst (by omega)) (hC_Jx4a65c_get_915e3 := C_Jx4a65c_get_915e3 hst (by omega)) (hC_X9_fall := ih (d - 1) (by omega))) mt_X9_fall ?_
    intro r hr
    unfold SP_X9_fall at hr
    split at hr
    · obtain ⟨hp, hr'⟩ := gd_some hr
      obtain ⟨rfl, h1, h2, h3, h4, h5, h6⟩ := hp
      rename_i o p s
      obtain ⟨o1, o⟩ := o
      obtain ⟨g1, g2, g3⟩ := h2
      simp only at g1 g2 g3 h5 h6 hr'
      subst g1
      cases hr'
      refine ⟨by show 4 ≤ 6; decide, ⟨Nat.le_refl _, Nat.le_refl _⟩, ?_⟩
      have hw : wA m o (fun i => (mi m 50 o i).toNatClampNeg) = m := wA_self (fun q => (inb_eq (g3 q)).1)
      have hs10 := (inb_eq h4.1).2
      have q := q_X9_fall (sp := SP_X9_fall k) (m := m) (o := o) (p := p.toNatClampNeg) (s := s.toNatClampNeg) (k := k) (w := fun i => (mi m 50 o i).toNatClampNeg) h1 (fun i => by have := (inb_eq (g3 i)).2; omega) g2 (inb_eq h3).2 h4.2 h5 h6 (by
        intro i t w' hi ht1 htw h9 hc
        have h12 := h1.2.1.2
        have ht9 := h9 i
        have ew : (fun q => (mi (wA m o w') 50 o q).toNatClampNeg) = w' := by
          funext q
          rw [wA_at, nN_nat (by have := h9 q; omega)]
        have := e_X9_fall (k := k) (m := wA m o w') (o := (50, o)) (p := nN i) (s := nN t) (RM_wA h1) ⟨rfl, by rw [rc_wA]; exact g2, fun q => by show inb (mi (wA m o w') 50 o q) 10; rw [wA_at, inb_nN (by have := h9 q; omega)]; have := h9 q; omega⟩ (by rw [rc_wA, inb_nN (by omega)]; exact hi) (by rw [inb_nN (by omega), nN_nat (by omega)]; omega) (by rw [nN_nat (by omega), nN_nat (by omega)]; show t ≤ (mi (wA m o w') 50 o i).toNatClampNeg; rw [wA_at, nN_nat (by omega)]; exact htw) (by rw [rc_wA, nN_nat (by omega)]; show cnw (fun q => (mi (wA m o w') 50 o q).toNatClampNeg) t _ ≤ k; rw [ew]; exact hc)
        rw [this, rc_wA, nN_nat (by omega), nN_nat (by omega)]
        simp only
        rw [ew, wA_wA])
      rw [hw] at q
      rw [← (inb_eq h3).1, ← (inb_eq h4.1).1] at q
      exact q
    · cases hr
