/-! the memory at the law's entry, and behind its constructors -/
/-- all ints 0, but the script's -/
def Zx (xs : Nat → Int32) (m : ab_M) : Prop := ∀ s i k, mi m s i k = if s = 0 then xs k else 0
theorem Zx_al {xs : Nat → Int32} {m : ab_M} {s L w : Nat} (h : Zx xs m) (hs : s ≠ 0) : Zx xs (al m s L w) := fun a b c => by
  rw [mi_al, u2_ap]
  split
  · next e => rw [if_neg (by rw [e.1]; exact hs)]
  · exact h a b c
theorem Zx_sR {xs : Nat → Int32} {m : ab_M} {s i k : Nat} {v : Option (Nat × Nat)} (h : Zx xs m) : Zx xs (sR m s i k v) := h
theorem Zx_mk2 {xs : Nat → Int32} {m : ab_M} {s b : Nat} (h : Zx xs m) (hs : s ≠ 0) : ∀ a, Zx xs (mk2 m s b a)
  | 0 => h
  | a + 1 => Zx_al (Zx_mk2 h hs a) hs
theorem Zx_mkO {xs : Nat → Int32} {m : ab_M} {t s c : Nat} (h : Zx xs m) : ∀ a, Zx xs (mkO m t s c a)
  | 0 => h
  | a + 1 => Zx_sR (Zx_mkO h a)
theorem Zx_fa {xs : Nat → Int32} {m : ab_M} {o s L k : Nat} (h : Zx xs m) (hs : s ≠ 0) : Zx xs (fa m o s L k) := Zx_sR (Zx_al h hs)
theorem Zx_fm {xs : Nat → Int32} {m : ab_M} {o t s b k : Nat} (h : Zx xs m) (ht : t ≠ 0) (hs : s ≠ 0) : Zx xs (fm m o t s b k) := Zx_sR (Zx_mkO (Zx_al (Zx_mk2 h hs 12) ht) 12)
/-- references, lengths, numbers as they were, outside S -/
def FS (S : Nat → Bool) (m m' : ab_M) : Prop := ∀ s, S s = false → mr m' s = mr m s ∧ mn m' s = mn m s ∧ mc m' s = mc m s
theorem FS.refl {S : Nat → Bool} {m : ab_M} : FS S m m := fun _ _ => ⟨rfl, rfl, rfl⟩
theorem FS.trans {S : Nat → Bool} {a b c : ab_M} (h : FS S a b) (h' : FS S b c) : FS S a c := fun s hs => ⟨(h' s hs).1.trans (h s hs).1, (h' s hs).2.1.trans (h s hs).2.1, (h' s hs).2.2.trans (h s hs).2.2⟩
theorem FS_al {S : Nat → Bool} {m : ab_M} {s L w : Nat} (hs : S s = true) : FS S m (al m s L w) := fun t ht => by
  have hne : t ≠ s := fun e => by rw [e, hs] at ht; cases ht
  exact ⟨funext fun i => if_neg (fun e => hne e.1), funext fun i => if_neg (fun e => hne e.1), if_neg hne⟩
theorem FS_sR {S : Nat → Bool} {m : ab_M} {s i k : Nat} {v : Option (Nat × Nat)} (hs : S s = true) : FS S m (sR m s i k v) := fun t ht => by
  have hne : t ≠ s := fun e => by rw [e, hs] at ht; cases ht
  exact ⟨funext fun i => funext fun k => if_neg (fun e => hne e.1), rfl, rfl⟩
theorem FS_mk2 {S : Nat → Bool} {m : ab_M} {s b : Nat} (hs : S s = true) : ∀ a, FS S m (mk2 m s b a)
  | 0 => FS.refl
  | a + 1 => (FS_mk2 hs a).trans (FS_al hs)
theorem FS_mkO {S : Nat → Bool} {m : ab_M} {t s c : Nat} (ht : S t = true) : ∀ a, FS S m (mkO m t s c a)
  | 0 => FS.refl
  | a + 1 => (FS_mkO ht a).trans (FS_sR ht)
theorem FS_fa {S : Nat → Bool} {m : ab_M} {o s L k : Nat} (ho : S o = true) (hs : S s = true) : FS S m (fa m o s L k) := (FS_al hs).trans (FS_sR ho)
theorem FS_fm {S : Nat → Bool} {m : ab_M} {o t s b k : Nat} (ho : S o = true) (ht : S t = true) (hs : S s = true) : FS S m (fm m o t s b k) := (((FS_mk2 hs 12).trans (FS_al ht)).trans (FS_mkO ht 12)).trans (FS_sR ho)
theorem mn_fa' {m : ab_M} {o s L k x y : Nat} : mn (fa m o s L k) x y = if x = s ∧ y = mc m s then L else mn m x y := id rfl
theorem mk2_mn (m : ab_M) (s b : Nat) : ∀ a x y, mn (mk2 m s b a) x y = if x = s ∧ mc m s ≤ y ∧ y < mc m s + a then b else mn m x y
  | 0, x, y => by rw [if_neg (by omega)]; rfl
  | a + 1, x, y => by
    show u2 (mn (mk2 m s b a)) s (mc (mk2 m s b a) s) b x y = _
    have e : mc (mk2 m s b a) s = mc m s + a := by rw [(mk2_mc m s b a).1]; exact if_pos rfl
    rw [u2_ap, e, mk2_mn m s b a x y]
    by_cases h1 : x = s ∧ y = mc m s + a
    · rw [if_pos h1, if_pos (by omega)]
    · rw [if_neg h1]
      by_cases h2 : x = s ∧ mc m s ≤ y ∧ y < mc m s + a
      · rw [if_pos h2, if_pos (by omega)]
      · rw [if_neg h2, if_neg (by
          intro h
          by_cases q : y = mc m s + a
          · exact h1 ⟨h.1, q⟩
          · exact h2 ⟨h.1, h.2.1, by omega⟩)]
theorem mn_fm' {m : ab_M} {o t s b k x y : Nat} (hts : t ≠ s) : mn (fm m o t s b k) x y = if x = t ∧ y = mc m t then 12 else if x = s ∧ mc m s ≤ y ∧ y < mc m s + 12 then b else mn m x y := by
  have e : mc (mk2 m s b 12) t = mc m t := by rw [(mk2_mc m s b 12).1]; exact if_neg hts
  unfold fm
  rw [mn_sR, (mkO_mc _ _ _ _ _).2.2.2.2.1, mn_al, u2_ap, e, mk2_mn]
theorem mkO_mrT (m : ab_M) (t s c : Nat) : ∀ a z, z < a → mr (mkO m t s c a) t (mc m t - 1) z = some (s, c + z)
  | 0, _, h => absurd h (Nat.not_lt_zero _)
  | a + 1, z, h => by
    show u3 (mr (mkO m t s c a)) t (mc m t - 1) a (some (s, c + a)) t (mc m t - 1) z = _
    rw [u3_ap]
    by_cases e : z = a
    · rw [if_pos ⟨rfl, rfl, e⟩, e]
    · rw [if_neg (fun q => e q.2.2), mkO_mrT m t s c a z (by omega)]
theorem mr_fmT {m : ab_M} {o t s b k z : Nat} (hts : t ≠ s) (hto : t ≠ o) (hz : z < 12) : mr (fm m o t s b k) t (mc m t) z = some (s, mc m s + z) := by
  have e : mc (al (mk2 m s b 12) t 12 12) t = mc m t + 1 := by
    rw [mc_al, u1_ap, if_pos rfl, (mk2_mc m s b 12).1]; simp only; rw [if_neg hts]
  have := mkO_mrT (al (mk2 m s b 12) t 12 12) t s (mc m s) 12 z hz
  rw [e, Nat.add_sub_cancel] at this
  unfold fm
  rw [mr_sR, u3_ap, if_neg (fun q => hto q.1)]
  exact this
def SP6 : Nat → Bool := fun s => (Nat.ble 5 s && Nat.ble s 17) || s == 35 || s == 61
def SH6 : Nat → Bool := fun s => s == 3 || s == 4 || s == 36 || s == 61
def SS6 : Nat → Bool := fun s => (Nat.ble 22 s && Nat.ble s 25) || s == 37 || s == 61
def SU6 : Nat → Bool := fun s => (Nat.ble 26 s && Nat.ble s 34) || s == 38 || s == 61
def SF6 : Nat → Bool := fun s => s == 2 || s == 39 || s == 61
def SL6 : Nat → Bool := fun s => (Nat.ble 18 s && Nat.ble s 21) || s == 40 || s == 61
theorem FS_iP {m : ab_M} : FS SP6 m (iP m) := by
  unfold iP mPeople
  exact ((((((((((((FS_al rfl).trans (FS_fa rfl rfl)).trans (FS_fa rfl rfl)).trans (FS_fa rfl rfl)).trans (FS_fa rfl rfl)).trans (FS_fa rfl rfl)).trans (FS_fa rfl rfl)).trans (FS_fa rfl rfl)).trans (FS_fa rfl rfl)).trans (FS_fa rfl rfl)).trans (FS_fm rfl rfl rfl)).trans (FS_fm rfl rfl rfl)).trans (FS_sR rfl)
theorem FS_iH {m : ab_M} : FS SH6 m (iH m) := by
  unfold iH mHouses
  exact (((FS_al rfl).trans (FS_fa rfl rfl)).trans (FS_fa rfl rfl)).trans (FS_sR rfl)
theorem FS_iS {m : ab_M} : FS SS6 m (iS m) := by
  unfold iS mSecrets
  exact (((((FS_al rfl).trans (FS_fa rfl rfl)).trans (FS_fa rfl rfl)).trans (FS_fa rfl rfl)).trans (FS_fa rfl rfl)).trans (FS_sR rfl)
theorem FS_iU {m : ab_M} : FS SU6 m (iU m) := by
  unfold iU mUtensils
  exact (((((((((FS_al rfl).trans (FS_fa rfl rfl)).trans (FS_fa rfl rfl)).trans (FS_fa rfl rfl)).trans (FS_fa rfl rfl)).trans (FS_fa rfl rfl)).trans (FS_fa rfl rfl)).trans (FS_fa rfl rfl)).trans (FS_fm rfl rfl rfl)).trans (FS_sR rfl)
theorem FS_iF {m : ab_M} : FS SF6 m (iF m) := by
  unfold iF mFalling
  exact (((FS_al rfl).trans (FS_fa rfl rfl)).trans (FS_sR rfl)).trans (FS_sR rfl)
theorem FS_iL {m : ab_M} : FS SL6 m (iL m) := by
  unfold iL mPlanner
  exact (((((((FS_al rfl).trans (FS_fa rfl rfl)).trans (FS_fa rfl rfl)).trans (FS_fa rfl rfl)).trans (FS_fa rfl rfl)).trans (FS_sR rfl)).trans (FS_sR rfl)).trans (FS_sR rfl)
theorem Zx_hall {xs : Nat → Int32} {m : ab_M} (h : Zx xs m) : Zx xs (mHall m) := by
  have hP : Zx xs (iP m) := by
    unfold iP mPeople
    exact Zx_sR (Zx_fm (Zx_fm (Zx_fa (Zx_fa (Zx_fa (Zx_fa (Zx_fa (Zx_fa (Zx_fa (Zx_fa (Zx_fa (Zx_al h (by decide)) (by decide)) (by decide)) (by decide)) (by decide)) (by decide)) (by decide)) (by decide)) (by decide)) (by decide)) (by decide) (by decide)) (by decide) (by decide))
  have hH : Zx xs (iH (iP m)) := by
    unfold iH mHouses
    exact Zx_sR (Zx_fa (Zx_fa (Zx_al hP (by decide)) (by decide)) (by decide))
  have hS : Zx xs (iS (iH (iP m))) := by
    unfold iS mSecrets
    exact Zx_sR (Zx_fa (Zx_fa (Zx_fa (Zx_fa (Zx_al hH (by decide)) (by decide)) (by decide)) (by decide)) (by decide))
  have hU : Zx xs (iU (iS (iH (iP m)))) := by
    unfold iU mUtensils
    exact Zx_sR (Zx_fm (Zx_fa (Zx_fa (Zx_fa (Zx_fa (Zx_fa (Zx_fa (Zx_fa (Zx_al hS (by decide)) (by decide)) (by decide)) (by decide)) (by decide)) (by decide)) (by decide)) (by decide)) (by decide) (by decide))
  have hF : Zx xs (iF (iU (iS (iH (iP m))))) := by
    unfold iF mFalling
    exact Zx_sR (Zx_sR (Zx_fa (Zx_al hU (by decide)) (by decide)))
  unfold mHall iL mPlanner
  exact Zx_sR (Zx_sR (Zx_sR (Zx_fa (Zx_fa (Zx_fa (Zx_fa (Zx_al hF (by decide)) (by decide)) (by decide)) (by decide)) (by decide))))

