/-! the memory behind the law's two constructors -/
def NB (m m' : ab_M) (a b : Nat) : Prop := mnc m' = mnc m + a ∧ mns m' = mns m + b
theorem NB.refl {m : ab_M} : NB m m 0 0 := ⟨rfl, rfl⟩
theorem NB.trans {m m1 m2 : ab_M} {a b c d : Nat} (h : NB m m1 a b) (h' : NB m1 m2 c d) : NB m m2 (a + c) (b + d) := ⟨by rw [h'.1, h.1, Nat.add_assoc], by rw [h'.2, h.2, Nat.add_assoc]⟩
theorem NB.to {m m' : ab_M} {a b c d : Nat} (h : NB m m' a b) (h1 : a = c) (h2 : b = d) : NB m m' c d := by subst h1; subst h2; exact h
theorem NB_al {m : ab_M} {s L w : Nat} : NB m (al m s L w) 1 w := ⟨rfl, rfl⟩
theorem NB_sR {m : ab_M} {s i k : Nat} {v : Option (Nat × Nat)} : NB m (sR m s i k v) 0 0 := ⟨rfl, rfl⟩
theorem NB_sI {m : ab_M} {s i k : Nat} {v : Int32} : NB m (sI m s i k v) 0 0 := ⟨rfl, rfl⟩
theorem NB_fa {m : ab_M} {o s L k : Nat} : NB m (fa m o s L k) 1 L := ⟨rfl, rfl⟩
theorem NB_mk2 {m : ab_M} {s b : Nat} : ∀ a, NB m (mk2 m s b a) a (a * b)
  | 0 => NB.refl.to rfl (Nat.zero_mul b).symm
  | a + 1 => ((NB_mk2 a).trans (NB_al (m := mk2 m s b a) (s := s) (L := b) (w := b))).to rfl (Nat.succ_mul a b).symm
theorem NB_mkO {m : ab_M} {t s c : Nat} : ∀ a, NB m (mkO m t s c a) 0 0
  | 0 => NB.refl
  | a + 1 => ((NB_mkO a).trans NB_sR)
theorem NB_fm {m : ab_M} {o t s b k : Nat} : NB m (fm m o t s b k) 13 (12 * b + 12) := by
  unfold fm
  exact ((((NB_mk2 12).trans NB_al).trans (NB_mkO 12)).trans NB_sR).to rfl rfl
theorem NB_iP {m : ab_M} : NB m (iP m) 36 384 := by
  unfold iP mPeople
  exact ((((((((((((NB_al.trans NB_fa).trans NB_fa).trans NB_fa).trans NB_fa).trans NB_fa).trans NB_fa).trans NB_fa).trans NB_fa).trans NB_fa).trans NB_fm).trans NB_fm).trans NB_sR).to rfl rfl
theorem NB_iH {m : ab_M} : NB m (iH m) 3 11 := by
  unfold iH mHouses
  exact (((NB_al.trans NB_fa).trans NB_fa).trans NB_sR).to rfl rfl
theorem NB_iS {m : ab_M} : NB m (iS m) 5 37 := by
  unfold iS mSecrets
  exact (((((NB_al.trans NB_fa).trans NB_fa).trans NB_fa).trans NB_fa).trans NB_sR).to rfl rfl
theorem NB_iU {m : ab_M} : NB m (iU m) 21 249 := by
  unfold iU mUtensils
  exact (((((((((NB_al.trans NB_fa).trans NB_fa).trans NB_fa).trans NB_fa).trans NB_fa).trans NB_fa).trans NB_fa).trans NB_fm).trans NB_sR).to rfl rfl
theorem NB_iF {m : ab_M} : NB m (iF m) 2 14 := by
  unfold iF mFalling
  exact (((NB_al.trans NB_fa).trans NB_sR).trans NB_sR).to rfl rfl
theorem NB_iL {m : ab_M} : NB m (iL m) 5 39 := by
  unfold iL mPlanner
  exact (((((((NB_al.trans NB_fa).trans NB_fa).trans NB_fa).trans NB_fa).trans NB_sR).trans NB_sR).trans NB_sR).to rfl rfl
theorem NB_hall {m : ab_M} : NB m (mHall m) 72 734 := by
  unfold mHall
  exact (((((NB_iP.trans NB_iH).trans NB_iS).trans NB_iU).trans NB_iF).trans NB_iL).to rfl rfl
theorem NB_iA {m : ab_M} {s k : Nat} : NB m (iA m s k) 1 3 := by
  unfold iA
  exact (((NB_al.trans NB_sI).trans NB_sR).trans NB_sR).to rfl rfl
/-- the sites of the class, the law's object -/
def SA6 : Nat → Bool := fun s => (Nat.ble 2 s && Nat.ble s 40) || s == 61
theorem SA_of {S : Nat → Bool} (h : ∀ s, S s = true → (2 ≤ s ∧ s ≤ 40) ∨ s = 61) : ∀ s, SA6 s = false → S s = false := fun s q => by
  cases e : S s with
  | false => rfl
  | true =>
    exfalso
    rcases h s e with ⟨a, b⟩ | a
    · unfold SA6 at q
      rw [Nat.ble_eq_true_of_le a, Nat.ble_eq_true_of_le b] at q
      cases q
    · subst a
      cases q
theorem FS_hall {m : ab_M} : FS SA6 m (mHall m) := by
  unfold mHall
  refine (((((FS_iP.wk (SA_of ?_)).trans (FS_iH.wk (SA_of ?_))).trans (FS_iS.wk (SA_of ?_))).trans (FS_iU.wk (SA_of ?_))).trans (FS_iF.wk (SA_of ?_))).trans (FS_iL.wk (SA_of ?_))
  all_goals
    intro s e
    simp only [SP6, SH6, SS6, SU6, SF6, SL6, Bool.or_eq_true, Bool.and_eq_true, Nat.ble_eq, beq_iff_eq] at e
    omega
/-- the sites of the reference's lists and of the law -/
def SB6 : Nat → Bool := fun s => (Nat.ble 44 s && Nat.ble s 47) || (Nat.ble 62 s && Nat.ble s 64)
theorem FS_iA {m : ab_M} {s k : Nat} (hs : SB6 s = true) : FS SB6 m (iA m s k) := by
  unfold iA
  exact (((FS_al hs).trans FS_sI).trans (FS_sR hs)).trans (FS_sR rfl)
theorem FS_mRef {m : ab_M} : FS SB6 m (mRef m) := by
  unfold mRef
  exact (((FS_iA rfl).trans (FS_iA rfl)).trans (FS_iA rfl)).trans (FS_iA rfl)
theorem iA_62 {m : ab_M} {s k j : Nat} (hs : s ≠ 62) : mr (iA m s k) 62 0 j = if j = k then some (s, 0) else mr m 62 0 j := by
  unfold iA
  rw [mr_sR, u3_ap]
  by_cases e : j = k
  · rw [if_pos ⟨rfl, rfl, e⟩, if_pos e]
  · rw [if_neg (fun q => e q.2.2), if_neg e, mr_sR, u3_ap, if_neg (fun q => hs q.1.symm)]
    show u2 (mr m) s (mc m s) (fun _ => none) 62 0 j = _
    rw [u2_ap, if_neg (fun q => hs q.1.symm)]
theorem iA_s {m : ab_M} {s k : Nat} (hs : s ≠ 62) : mr (iA m s k) s 0 1 = some (1, 0) := by
  unfold iA
  rw [mr_sR, u3_ap, if_neg (fun q => hs q.1), mr_sR, u3_ap, if_pos ⟨rfl, rfl, rfl⟩]
theorem iA_o {m : ab_M} {s k t : Nat} (ht : t ≠ s) (h2 : t ≠ 62) : mr (iA m s k) t 0 1 = mr m t 0 1 := by
  unfold iA
  rw [mr_sR, u3_ap, if_neg (fun q => h2 q.1), mr_sR, u3_ap, if_neg (fun q => ht q.1)]
  show u2 (mr m) s (mc m s) (fun _ => none) t 0 1 = _
  rw [u2_ap, if_neg (fun q => ht q.1)]
theorem Ref_62 {m : ab_M} : mr (mRef m) 62 0 1 = some (44, 0) ∧ mr (mRef m) 62 0 2 = some (45, 0) ∧ mr (mRef m) 62 0 3 = some (46, 0) ∧ mr (mRef m) 62 0 4 = some (47, 0) := by
  unfold mRef
  refine ⟨?_, ?_, ?_, ?_⟩
  · rw [iA_62 (by decide), if_neg (by decide), iA_62 (by decide), if_neg (by decide), iA_62 (by decide), if_neg (by decide), iA_62 (by decide), if_pos rfl]
  · rw [iA_62 (by decide), if_neg (by decide), iA_62 (by decide), if_neg (by decide), iA_62 (by decide), if_pos rfl]
  · rw [iA_62 (by decide), if_neg (by decide), iA_62 (by decide), if_pos rfl]
  · rw [iA_62 (by decide), if_pos rfl]
theorem Ref_s {m : ab_M} {s : Nat} (hs : isS s) : mr (mRef m) s 0 1 = some (1, 0) := by
  unfold mRef
  rcases hs with rfl | rfl | rfl | rfl
  · rw [iA_o (by decide) (by decide), iA_o (by decide) (by decide), iA_o (by decide) (by decide), iA_s (by decide)]
  · rw [iA_o (by decide) (by decide), iA_o (by decide) (by decide), iA_s (by decide)]
  · rw [iA_o (by decide) (by decide), iA_s (by decide)]
  · rw [iA_s (by decide)]
theorem Zx_iA {xs : Nat → Int32} {m : ab_M} {s k : Nat} (h : Zx xs m) (hs : s ≠ 0) : Zx xs (iA m s k) := by
  unfold iA
  exact Zx_sR (Zx_sR (Zx_sI (Zx_al h hs) hs))
theorem Zx_mRef {xs : Nat → Int32} {m : ab_M} (h : Zx xs m) : Zx xs (mRef m) := by
  unfold mRef
  exact Zx_iA (Zx_iA (Zx_iA (Zx_iA h (by decide)) (by decide)) (by decide)) (by decide)
def qA (L : Nat) (xs : Nat → Int32) : ab_M := al (m00 L xs) 61 0 (NF 8)
def qB (L : Nat) (xs : Nat → Int32) : ab_M := mHall (qA L xs)
def qC (L : Nat) (xs : Nat → Int32) : ab_M := al (qB L xs) 62 0 (NF 11)
def qD (L : Nat) (xs : Nat → Int32) : ab_M := mRef (qC L xs)
def qE (L : Nat) (xs : Nat → Int32) : ab_M := al (qD L xs) 63 1 1
def qF (L : Nat) (xs : Nat → Int32) : ab_M := al (qE L xs) 64 1 1
theorem qF_NB {L : Nat} {xs : Nat → Int32} : mnc (qF L xs) = 80 ∧ mns (qF L xs) = 769 := by
  have h : NB (m00 L xs) (qF L xs) 80 769 := by
    unfold qF qE qD qC qB qA mRef
    exact ((((((((((NB_al (m := m00 L xs)).trans NB_hall).trans NB_al).trans NB_iA).trans NB_iA).trans NB_iA).trans NB_iA).trans NB_al).trans NB_al)).to rfl rfl
  exact ⟨h.1.trans (Nat.zero_add _), h.2.trans (Nat.zero_add _)⟩
theorem qF_Z {L : Nat} {xs : Nat → Int32} : Zx xs (qF L xs) := by
  unfold qF qE qD qC qB qA
  exact Zx_al (Zx_al (Zx_mRef (Zx_al (Zx_hall (Zx_al (fun _ _ _ => rfl) (by decide))) (by decide))) (by decide)) (by decide)
theorem qBF {L : Nat} {xs : Nat → Int32} : FS SB6 (qB L xs) (qF L xs) := by
  unfold qF qE qD qC
  exact (((FS_al rfl).trans FS_mRef).trans (FS_al rfl)).trans (FS_al rfl)
theorem q0F {L : Nat} {xs : Nat → Int32} {s : Nat} (h1 : SA6 s = false) (h2 : SB6 s = false) : mr (qF L xs) s = r00 s ∧ mn (qF L xs) s = n00 L s ∧ mc (qF L xs) s = (if s = 0 ∨ s = 1 then 1 else 0) := by
  have a : FS SA6 (m00 L xs) (qB L xs) := by
    unfold qB qA
    exact (FS_al rfl).trans FS_hall
  obtain ⟨b1, b2, b3⟩ := a s h1
  obtain ⟨c1, c2, c3⟩ := qBF (L := L) (xs := xs) s h2
  exact ⟨c1.trans b1, c2.trans b2, c3.trans b3⟩
theorem qF_CR {L : Nat} {xs : Nat → Int32} : CR (qF L xs) := by
  have h : CR (qB L xs) := by
    unfold qB
    refine CR_hall (fun x h1 h2 => ?_)
    unfold qA
    rw [mc_al, u1_ap, if_neg (by omega)]
    exact if_neg (by omega)
  have sb : ∀ s, s < 41 ∨ s = 61 → SB6 s = false := by
    intro s hs
    cases e : SB6 s with
    | false => rfl
    | true =>
      exfalso
      simp only [SB6, Bool.or_eq_true, Bool.and_eq_true, Nat.ble_eq] at e
      omega
  exact CR_eq h (fun s i k hs => by rw [(qBF s (sb s hs)).1]) (fun s i hs => by rw [(qBF s (sb s hs)).2.1])
def zC : ab_C := fun _ _ _ => 0
theorem rc_Z {xs : Nat → Int32} {m : ab_M} (h : Zx xs m) : rc m = zC := by
  funext s i k
  unfold rc
  cases e : lc s i k with
  | none => rfl
  | some x =>
    show mi m x.1 x.2.1 x.2.2 = 0
    rw [h, if_neg]
    have := (lc_gb e).2
    omega
theorem zC_np : np zC = 0 := rfl
theorem zC_nh : nh zC = 0 := rfl
theorem zC_nsc : nsc zC = 0 := rfl
theorem zC_nu : nu zC = 0 := rfl
theorem bt_z0 (i : Nat) : bt 0 i = false := by
  show (0#32).getLsbD i = false
  simp
theorem ST_Z {c : ab_C} (h : ∀ s i k, s ≠ 0 → c s i k = 0) : ST 0 c zC := by
  refine ⟨⟨fun s hs => ?_, ⟨h _ _ _ (by decide), h _ _ _ (by decide), h _ _ _ (by decide), h _ _ _ (by decide)⟩, ⟨h _ _ _ (by decide), h _ _ _ (by decide), h _ _ _ (by decide), h _ _ _ (by decide), h _ _ _ (by decide)⟩, fun i k hi => absurd hi (Nat.not_lt_zero _), fun u k hu => absurd hu (Nat.not_lt_zero _)⟩, ⟨⟨⟨⟨rfl, Nat.zero_le _⟩, ⟨rfl, Nat.zero_le _⟩, ⟨rfl, Nat.zero_le _⟩, ⟨rfl, Nat.zero_le _⟩⟩, ⟨?_, ?_, ?_⟩, ⟨fun _ _ _ _ _ => rfl, fun _ _ _ _ _ => rfl, fun _ _ _ _ _ => rfl, fun _ _ _ _ _ => rfl⟩, ⟨fun p q hp hq => ?_, fun p q hq => ?_⟩⟩, fun _ _ _ => Or.inl rfl, fun _ => rfl, ⟨0, Nat.le_refl _, rfl⟩, fun _ => inb_0 (by decide)⟩, fun i _ => ?_, fun i _ => ?_⟩
  · have := eqS_ne hs
    funext k
    exact h s 0 k (by omega)
  · exact ⟨fun i hi => absurd hi (Nat.not_lt_zero _), fun i hi => absurd hi (Nat.not_lt_zero _), fun i hi => absurd hi (Nat.not_lt_zero _), fun i hi => absurd hi (Nat.not_lt_zero _), fun i hi => absurd hi (Nat.not_lt_zero _), fun i hi => absurd hi (Nat.not_lt_zero _)⟩
  · exact ⟨fun _ => 0, fun i hi => absurd hi (Nat.not_lt_zero _)⟩
  · exact ⟨fun _ => 0, fun i hi => absurd hi (Nat.not_lt_zero _)⟩
  · exact (bt_z0 q).trans (bt_z0 p).symm
  · exact bt_z0 q
  · rw [h 2 0 i (by decide)]; exact inb_0 (by decide)
  · rw [h 18 0 i (by decide)]; exact Or.inr (inb_0 (by decide))
theorem qF_ST {L : Nat} {xs : Nat → Int32} : ST 0 (mi (qF L xs)) (rc (qF L xs)) := by
  rw [rc_Z qF_Z]
  refine ST_Z (fun s i k hs => ?_)
  rw [qF_Z, if_neg hs]
theorem qF_s {L : Nat} {xs : Nat → Int32} {s : Nat} (hs : isS s) : mr (qF L xs) s 0 1 = some (1, 0) := by
  have h2 : s ≠ 63 ∧ s ≠ 64 := by unfold isS at hs; omega
  unfold qF qE
  rw [mr_al, u2_ap, if_neg (fun q => h2.2 q.1), mr_al, u2_ap, if_neg (fun q => h2.1 q.1)]
  exact Ref_s hs
theorem qF_62 {L : Nat} {xs : Nat → Int32} {j : Nat} : mr (qF L xs) 62 0 j = mr (mRef (qC L xs)) 62 0 j := by
  unfold qF qE
  rw [mr_al, u2_ap, if_neg (fun q => absurd q.1 (by decide)), mr_al, u2_ap, if_neg (fun q => absurd q.1 (by decide))]
  rfl
theorem qF_ela {L : Nat} {xs : Nat → Int32} {s : Nat} (hs : isS s) : ela (qF L xs) (s, 0) = (1, 0) := by
  unfold ela
  rw [qF_s hs]
  rfl
theorem qF_Rls {L : Nat} {xs : Nat → Int32} {s : Nat} {f : Nat → Nat × Nat} (hs : isS s) : Rls (qF L xs) s 0 f := by
  have h0 : mn (qF L xs) 1 0 = 0 := by rw [(q0F (by rfl) (by rfl)).2.1]; rfl
  have hz : s ≠ 0 := by unfold isS at hs; omega
  refine ⟨⟨?_, ?_, ?_⟩, ?_, Nat.zero_le _, ?_, fun i hi => absurd hi (Nat.not_lt_zero _)⟩
  · rcases hs with rfl | rfl | rfl | rfl <;> rfl
  · rw [qF_ela hs]; exact qF_s hs
  · rw [qF_ela hs]; rfl
  · rw [qF_Z, if_neg hz]; rfl
  · rw [qF_ela hs]
    show mn (qF L xs) 1 0 ≤ 1000
    rw [h0]
    exact Nat.zero_le _
theorem qF_RW {L : Nat} {xs : Nat → Int32} : RW (qF L xs) := by
  have hr := rc_Z (qF_Z (L := L) (xs := xs))
  refine ⟨⟨⟨qF_62.trans Ref_62.1, qF_62.trans Ref_62.2.1, qF_62.trans Ref_62.2.2.1, qF_62.trans Ref_62.2.2.2⟩, ?_, ?_, ?_, ?_, fun i hi => ?_, fun i hi => ?_, fun i hi => ?_⟩, ?_, ?_, ?_, ?_, ?_, ?_, ?_⟩
  · rw [hr]; exact ⟨qF_Rls (Or.inl rfl), Nat.zero_le _⟩
  · rw [hr]; exact ⟨qF_Rls (Or.inr (Or.inl rfl)), Nat.zero_le _⟩
  · rw [hr]; exact ⟨qF_Rls (Or.inr (Or.inr (Or.inl rfl))), Nat.zero_le _⟩
  · rw [hr]; exact ⟨qF_Rls (Or.inr (Or.inr (Or.inr rfl))), Nat.zero_le _⟩
  · rw [(q0F (s := 48) rfl rfl).1, (q0F (s := 53) rfl rfl).1, (q0F (s := 41) rfl rfl).2.1, (q0F (s := 42) rfl rfl).2.1, (q0F (s := 43) rfl rfl).2.1]
    exact ⟨rfl, rfl, rfl, rfl, rfl, rfl⟩
  · rw [(q0F (s := 52) rfl rfl).2.1]; rfl
  · unfold hrow
    split
    · rw [(q0F (s := 49) rfl rfl).2.1]; rfl
    · rw [(q0F (s := 51) rfl rfl).2.1]; rfl
  · rw [hr, (q0F (s := 48) rfl rfl).2.2, (q0F (s := 41) rfl rfl).2.2, (q0F (s := 42) rfl rfl).2.2]; exact ⟨rfl, rfl, rfl⟩
  · rw [hr, (q0F (s := 52) rfl rfl).2.2]; rfl
  · rw [hr, (q0F (s := 53) rfl rfl).2.2, (q0F (s := 43) rfl rfl).2.2]; exact ⟨rfl, rfl⟩
  · rw [hr, (q0F (s := 49) rfl rfl).2.2, (q0F (s := 51) rfl rfl).2.2]; exact ⟨rfl, rfl⟩
  · rw [(q0F (s := 1) rfl rfl).2.1]; rfl
  · intro s hs
    refine Or.inl ⟨qF_ela hs, ?_⟩
    rw [qF_Z, if_neg (by unfold isS at hs; omega)]
  · intro s t hs _ _ _
    rw [qF_ela hs]
theorem qB_mc {L : Nat} {xs : Nat → Int32} {x : Nat} (h1 : SA6 x = false) (h : ¬ (x = 0 ∨ x = 1)) : mc (qB L xs) x = 0 := by
  have a : FS SA6 (m00 L xs) (qB L xs) := by
    unfold qB qA
    exact (FS_al rfl).trans FS_hall
  exact (a x h1).2.2.trans (if_neg h)
theorem qC_mc {L : Nat} {xs : Nat → Int32} {x : Nat} (h1 : SA6 x = false) (h : ¬ (x = 0 ∨ x = 1)) (h2 : x ≠ 62) : mc (qC L xs) x = 0 := by
  unfold qC
  rw [mc_al, u1_ap, if_neg h2]
  exact qB_mc h1 h
theorem qD_mc {L : Nat} {xs : Nat → Int32} {x : Nat} (h1 : SA6 x = false) (h : ¬ (x = 0 ∨ x = 1)) (h2 : x ≠ 62) (h3 : x ≠ 44 ∧ x ≠ 45 ∧ x ≠ 46 ∧ x ≠ 47) : mc (qD L xs) x = 0 := by
  unfold qD mRef
  rw [iA_mc, if_neg h3.2.2.2, iA_mc, if_neg h3.2.2.1, iA_mc, if_neg h3.2.1, iA_mc, if_neg h3.1]
  exact qC_mc h1 h h2
theorem qD_63 {L : Nat} {xs : Nat → Int32} : mc (qD L xs) 63 = 0 := qD_mc rfl (by decide) (by decide) (by decide)
theorem qE_64 {L : Nat} {xs : Nat → Int32} : mc (qE L xs) 64 = 0 := by
  unfold qE
  rw [mc_al, u1_ap, if_neg (by decide)]
  exact qD_mc rfl (by decide) (by decide) (by decide)
theorem qF_LIv {L : Nat} {xs : Nat → Int32} : LIv L xs 0 (qF L xs) := by
  refine ⟨qF_CR, qF_ST, qF_RW, ⟨?_, fun j => ?_⟩, ⟨?_, ?_⟩, ?_, ?_⟩
  · rw [(q0F (s := 0) rfl rfl).2.1]; rfl
  · rw [qF_Z]; rfl
  · unfold qF qE
    rw [mn_al, u2_ap, if_neg (fun q => absurd q.1 (by decide)), mn_al, u2_ap, if_pos ⟨rfl, qD_63.symm⟩]
  · unfold qF
    rw [mn_al, u2_ap, if_pos ⟨rfl, qE_64.symm⟩]
  · rw [qF_NB.1]; decide
  · rw [qF_NB.2]; decide
/-! the law's first places -/
theorem law_p1 {m : ab_M} {R : ab_R → Prop} {K : ab_K} (hC : Closed TLAW R K) (h61 : mc m 61 = 0) (h : ∀ x, 35 ≤ x → x ≤ 40 → mc m x = 0) (q : K 8 [some (vA 0 0), some (vA 61 0), none, none, none, none, none, none, none] [] (mHall (al m 61 0 (NF 8)))) : K 0 [some (vA 0 0), none, none, none, none, none, none, none, none] [] m := by
  have e1 := e_X6_init (m := al m 61 0 (NF 8)) (fun x a b => by rw [mc_al, u1_ap, if_neg (by omega)]; exact h x a b)
  refine seg (hC.sub in_p) mt_L_law_p 0 4 ?_
  simp only [T_L_law_p, List.take_succ_cons, List.take_zero, h61, e1, okV, ok0, i10, Bool.false_eq_true, Bool.true_eq_false, Bool.not_true, Bool.not_false, ↓run_hit, ↓run_miss, ↓run_none, run_nil, ab_get0, ab_getS, if_true, if_false, if_pos, true_and, and_true, List.append_nil, List.nil_append, List.cons_append, List.length_cons, List.length_nil, List.take_succ_cons, List.take_zero, List.drop_succ_cons, List.drop_zero, List.reverse_cons, List.reverse_nil, List.map_nil, List.map_cons, List.sum_nil, List.sum_cons, rcv_some, rcv_999, wide_I, wide_L, wide_D, wide_R, wide_X, eq_self_iff_true, ite_true, ite_false, ↓reduceIte, Nat.reduceEqDiff, Nat.reduceLeDiff, Nat.reduceLT, Nat.reduceAdd, Nat.reduceMul, Nat.reduceBEq, decide_true, decide_false, and_self, or_self, or_true, true_or, false_or, or_false, and_false, false_and, not_false_eq_true, not_true_eq_false, Nat.zero_le, Nat.le_refl, Nat.add_eq_zero_iff, Nat.succ_ne_self, ↓s_const, ↓s_iload, ↓s_lload, ↓s_dload, ↓s_aload, ↓s_istore, ↓s_lstore, ↓s_dstore, ↓s_astore, ↓s_iinc, ↓s_bin, ↓s_div, ↓s_binL, ↓s_lcmp, ↓s_i2l, ↓s_i2d, ↓s_ddiv, ↓s_dcmpl, ↓s_goto, ↓s_ifeq, ↓s_iflt, ↓s_ifgt, ↓s_cmpeq, ↓s_cmplt, ↓s_cmpgt, ↓s_ifnull, ↓s_aeq, ↓s_pop, ↓s_dup, ↓s_dup2, ↓s_dupx1, ↓s_tab, ↓s_getI, ↓s_getR, ↓s_putI, ↓s_putZ, ↓s_putR, ↓s_ald, ↓s_ast, ↓s_zast, ↓s_lald, ↓s_last, ↓s_dald, ↓s_dast, ↓s_aald, ↓s_aast, ↓s_alen, ↓s_new, ↓s_newa, ↓s_multi, ↓s_cast, ↓s_getE, ↓s_obj, ↓s_mmin, ↓s_mmax, ↓s_hd, ↓s_call, ↓s_throw, ↓s_ret, ↓s_retL, ↓s_retD, ↓s_retA, ↓s_retV, mi_wI, mr_wI, mn_wI, mc_wI, sI_wI, u3_ap, mi_sI, mi_sR, mi_sL, mi_sD, mi_al, mi_bp, mr_sI, mr_sR, mr_sL, mr_sD, mr_al, mr_bp, ml_sI, ml_sR, ml_sL, ml_sD, ml_al, ml_bp, md_sI, md_sR, md_sL, md_sD, md_al, md_bp, mn_sI, mn_sR, mn_sL, mn_sD, mn_al, mn_bp, mc_sI, mc_sR, mc_sL, mc_sD, mc_al, mc_bp, mnc_sI, mnc_sR, mnc_sL, mnc_sD, mnc_al, mnc_bp, mns_sI, mns_sR, mns_sL, mns_sD, mns_al, mns_bp, SK_0, SK_1, SK_2, SK_3, SK_4, SK_5, SK_6, SK_7, SK_8, SK_9, SK_10, SK_11, SK_12, SK_13, SK_14, SK_15, SK_16, SK_17, SK_18, SK_19, SK_20, SK_21, SK_22, SK_23, SK_24, SK_25, SK_26, SK_27, SK_28, SK_29, SK_30, SK_31, SK_32, SK_33, SK_34, SK_35, SK_36, SK_37, SK_38, SK_39, SK_40, SK_41, SK_42, SK_43, SK_44, SK_45, SK_46, SK_47, SK_48, SK_49, SK_50, SK_51, SK_52, SK_53, SK_54, SK_55, SK_56, SK_57, SK_58, SK_59, SK_60, SK_61, SK_62, SK_63, SK_64, SK_65, st1_0, st1_1, st1_2, st1_3, st1_4, st1_5, st1_6, st1_7, st1_8, st2_0, st2_1, st2_2, st2_3, st2_4, st2_5, st2_6, st2_7, clr_I, clr_R, clr_X, clr_L, clr_D, clr_N]
  exact q
theorem law_p2 {m : ab_M} {R : ab_R → Prop} {K : ab_K} (hC : Closed TLAW R K) (h62 : mc m 62 = 0) (h : mc m 44 = 0 ∧ mc m 45 = 0 ∧ mc m 46 = 0 ∧ mc m 47 = 0) (q : K 16 [some (vA 0 0), some (vA 61 0), some (vA 62 0), none, none, none, none, none, none] [] (mRef (al m 62 0 (NF 11)))) : K 8 [some (vA 0 0), some (vA 61 0), none, none, none, none, none, none, none] [] m := by
  have h44 : mc (al m 62 0 (NF 11)) 44 = 0 ∧ mc (al m 62 0 (NF 11)) 45 = 0 ∧ mc (al m 62 0 (NF 11)) 46 = 0 ∧ mc (al m 62 0 (NF 11)) 47 = 0 := by
    rw [mc_al, u1_ap, u1_ap, u1_ap, u1_ap, if_neg (by decide), if_neg (by decide), if_neg (by decide), if_neg (by decide)]
    exact h
  obtain ⟨m', e1, e2⟩ := e_X9_init h44
  subst e2
  refine seg (hC.sub in_p) mt_L_law_p 4 4 ?_
  simp only [T_L_law_p, List.take_succ_cons, List.take_zero, List.drop_succ_cons, List.drop_zero, h62, e1, okV, ok0, i10, Bool.false_eq_true, Bool.true_eq_false, Bool.not_true, Bool.not_false, ↓run_hit, ↓run_miss, ↓run_none, run_nil, ab_get0, ab_getS, if_true, if_false, if_pos, true_and, and_true, List.append_nil, List.nil_append, List.cons_append, List.length_cons, List.length_nil, List.take_succ_cons, List.take_zero, List.drop_succ_cons, List.drop_zero, List.reverse_cons, List.reverse_nil, List.map_nil, List.map_cons, List.sum_nil, List.sum_cons, rcv_some, rcv_999, wide_I, wide_L, wide_D, wide_R, wide_X, eq_self_iff_true, ite_true, ite_false, ↓reduceIte, Nat.reduceEqDiff, Nat.reduceLeDiff, Nat.reduceLT, Nat.reduceAdd, Nat.reduceMul, Nat.reduceBEq, decide_true, decide_false, and_self, or_self, or_true, true_or, false_or, or_false, and_false, false_and, not_false_eq_true, not_true_eq_false, Nat.zero_le, Nat.le_refl, Nat.add_eq_zero_iff, Nat.succ_ne_self, ↓s_const, ↓s_iload, ↓s_lload, ↓s_dload, ↓s_aload, ↓s_istore, ↓s_lstore, ↓s_dstore, ↓s_astore, ↓s_iinc, ↓s_bin, ↓s_div, ↓s_binL, ↓s_lcmp, ↓s_i2l, ↓s_i2d, ↓s_ddiv, ↓s_dcmpl, ↓s_goto, ↓s_ifeq, ↓s_iflt, ↓s_ifgt, ↓s_cmpeq, ↓s_cmplt, ↓s_cmpgt, ↓s_ifnull, ↓s_aeq, ↓s_pop, ↓s_dup, ↓s_dup2, ↓s_dupx1, ↓s_tab, ↓s_getI, ↓s_getR, ↓s_putI, ↓s_putZ, ↓s_putR, ↓s_ald, ↓s_ast, ↓s_zast, ↓s_lald, ↓s_last, ↓s_dald, ↓s_dast, ↓s_aald, ↓s_aast, ↓s_alen, ↓s_new, ↓s_newa, ↓s_multi, ↓s_cast, ↓s_getE, ↓s_obj, ↓s_mmin, ↓s_mmax, ↓s_hd, ↓s_call, ↓s_throw, ↓s_ret, ↓s_retL, ↓s_retD, ↓s_retA, ↓s_retV, mi_wI, mr_wI, mn_wI, mc_wI, sI_wI, u3_ap, mi_sI, mi_sR, mi_sL, mi_sD, mi_al, mi_bp, mr_sI, mr_sR, mr_sL, mr_sD, mr_al, mr_bp, ml_sI, ml_sR, ml_sL, ml_sD, ml_al, ml_bp, md_sI, md_sR, md_sL, md_sD, md_al, md_bp, mn_sI, mn_sR, mn_sL, mn_sD, mn_al, mn_bp, mc_sI, mc_sR, mc_sL, mc_sD, mc_al, mc_bp, mnc_sI, mnc_sR, mnc_sL, mnc_sD, mnc_al, mnc_bp, mns_sI, mns_sR, mns_sL, mns_sD, mns_al, mns_bp, SK_0, SK_1, SK_2, SK_3, SK_4, SK_5, SK_6, SK_7, SK_8, SK_9, SK_10, SK_11, SK_12, SK_13, SK_14, SK_15, SK_16, SK_17, SK_18, SK_19, SK_20, SK_21, SK_22, SK_23, SK_24, SK_25, SK_26, SK_27, SK_28, SK_29, SK_30, SK_31, SK_32, SK_33, SK_34, SK_35, SK_36, SK_37, SK_38, SK_39, SK_40, SK_41, SK_42, SK_43, SK_44, SK_45, SK_46, SK_47, SK_48, SK_49, SK_50, SK_51, SK_52, SK_53, SK_54, SK_55, SK_56, SK_57, SK_58, SK_59, SK_60, SK_61, SK_62, SK_63, SK_64, SK_65, st1_0, st1_1, st1_2, st1_3, st1_4, st1_5, st1_6, st1_7, st1_8, st2_0, st2_1, st2_2, st2_3, st2_4, st2_5, st2_6, st2_7, clr_I, clr_R, clr_X, clr_L, clr_D, clr_N]
  exact q
theorem law_p3 {m : ab_M} {R : ab_R → Prop} {K : ab_K} (hC : Closed TLAW R K) (h63 : mc m 63 = 0) (h64 : mc (al m 63 1 1) 64 = 0) (q : K 28 (lL (6 * 0) none none none) [] (al (al m 63 1 1) 64 1 1)) : K 16 [some (vA 0 0), some (vA 61 0), some (vA 62 0), none, none, none, none, none, none] [] m := by
  have i1 : (1 : Int32).toNatClampNeg = 1 := rfl
  have i2 : ((1 : Int32) < 0) = False := eq_false (by decide)
  have h65 : mc m 64 = 0 := by
    rw [mc_al, u1_ap, if_neg (by decide)] at h64
    exact h64
  refine seg (hC.sub in_p) mt_L_law_p 8 8 ?_
  simp only [T_L_law_p, List.take_succ_cons, List.take_zero, List.drop_succ_cons, List.drop_zero, h63, h64, h65, i1, i2, u1_ap, i10, Bool.false_eq_true, Bool.true_eq_false, Bool.not_true, Bool.not_false, ↓run_hit, ↓run_miss, ↓run_none, run_nil, ab_get0, ab_getS, if_true, if_false, if_pos, true_and, and_true, List.append_nil, List.nil_append, List.cons_append, List.length_cons, List.length_nil, List.take_succ_cons, List.take_zero, List.drop_succ_cons, List.drop_zero, List.reverse_cons, List.reverse_nil, List.map_nil, List.map_cons, List.sum_nil, List.sum_cons, rcv_some, rcv_999, wide_I, wide_L, wide_D, wide_R, wide_X, eq_self_iff_true, ite_true, ite_false, ↓reduceIte, Nat.reduceEqDiff, Nat.reduceLeDiff, Nat.reduceLT, Nat.reduceAdd, Nat.reduceMul, Nat.reduceBEq, decide_true, decide_false, and_self, or_self, or_true, true_or, false_or, or_false, and_false, false_and, not_false_eq_true, not_true_eq_false, Nat.zero_le, Nat.le_refl, Nat.add_eq_zero_iff, Nat.succ_ne_self, ↓s_const, ↓s_iload, ↓s_lload, ↓s_dload, ↓s_aload, ↓s_istore, ↓s_lstore, ↓s_dstore, ↓s_astore, ↓s_iinc, ↓s_bin, ↓s_div, ↓s_binL, ↓s_lcmp, ↓s_i2l, ↓s_i2d, ↓s_ddiv, ↓s_dcmpl, ↓s_goto, ↓s_ifeq, ↓s_iflt, ↓s_ifgt, ↓s_cmpeq, ↓s_cmplt, ↓s_cmpgt, ↓s_ifnull, ↓s_aeq, ↓s_pop, ↓s_dup, ↓s_dup2, ↓s_dupx1, ↓s_tab, ↓s_getI, ↓s_getR, ↓s_putI, ↓s_putZ, ↓s_putR, ↓s_ald, ↓s_ast, ↓s_zast, ↓s_lald, ↓s_last, ↓s_dald, ↓s_dast, ↓s_aald, ↓s_aast, ↓s_alen, ↓s_new, ↓s_newa, ↓s_multi, ↓s_cast, ↓s_getE, ↓s_obj, ↓s_mmin, ↓s_mmax, ↓s_hd, ↓s_call, ↓s_throw, ↓s_ret, ↓s_retL, ↓s_retD, ↓s_retA, ↓s_retV, mi_wI, mr_wI, mn_wI, mc_wI, sI_wI, u3_ap, mi_sI, mi_sR, mi_sL, mi_sD, mi_al, mi_bp, mr_sI, mr_sR, mr_sL, mr_sD, mr_al, mr_bp, ml_sI, ml_sR, ml_sL, ml_sD, ml_al, ml_bp, md_sI, md_sR, md_sL, md_sD, md_al, md_bp, mn_sI, mn_sR, mn_sL, mn_sD, mn_al, mn_bp, mc_sI, mc_sR, mc_sL, mc_sD, mc_al, mc_bp, mnc_sI, mnc_sR, mnc_sL, mnc_sD, mnc_al, mnc_bp, mns_sI, mns_sR, mns_sL, mns_sD, mns_al, mns_bp, SK_0, SK_1, SK_2, SK_3, SK_4, SK_5, SK_6, SK_7, SK_8, SK_9, SK_10, SK_11, SK_12, SK_13, SK_14, SK_15, SK_16, SK_17, SK_18, SK_19, SK_20, SK_21, SK_22, SK_23, SK_24, SK_25, SK_26, SK_27, SK_28, SK_29, SK_30, SK_31, SK_32, SK_33, SK_34, SK_35, SK_36, SK_37, SK_38, SK_39, SK_40, SK_41, SK_42, SK_43, SK_44, SK_45, SK_46, SK_47, SK_48, SK_49, SK_50, SK_51, SK_52, SK_53, SK_54, SK_55, SK_56, SK_57, SK_58, SK_59, SK_60, SK_61, SK_62, SK_63, SK_64, SK_65, st1_0, st1_1, st1_2, st1_3, st1_4, st1_5, st1_6, st1_7, st1_8, st2_0, st2_1, st2_2, st2_3, st2_4, st2_5, st2_6, st2_7, clr_I, clr_R, clr_X, clr_L, clr_D, clr_N]
  exact q
theorem law_p {L : Nat} {xs : Nat → Int32} {R : ab_R → Prop} {K : ab_K} (hC : Closed TLAW R K) (q : K 28 (lL (6 * 0) none none none) [] (qF L xs)) : K 0 [some (vA 0 0), none, none, none, none, none, none, none, none] [] (m00 L xs) := by
  refine law_p1 hC rfl (fun x a b => if_neg (by omega)) ?_
  refine law_p2 (m := qB L xs) hC (qB_mc rfl (by decide)) ⟨qB_mc rfl (by decide), qB_mc rfl (by decide), qB_mc rfl (by decide), qB_mc rfl (by decide)⟩ ?_
  exact law_p3 (m := qD L xs) hC qD_63 qE_64 q
/-- the law's whole run -/
theorem law_all {L : Nat} {xs : Nat → Int32} (hL : L ≤ 3072) : ∃ mf, (mnc mf ≤ 601024 ∧ mns mf ≤ 7293034) ∧ ∀ K : ab_K, Closed TLAW (fun r' => r' = .inl ([vI 1], mf)) K → K 0 (entry 9 [vA 0 0]) [] (m00 L xs) := by
  obtain ⟨mf, a, b⟩ := law_fin hL (qF_LIv (L := L) (xs := xs))
  exact ⟨mf, a, fun K hC => law_p hC (b K hC)⟩
