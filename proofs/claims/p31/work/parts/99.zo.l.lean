/-! how the hall's constructors lay the class's cells -/
theorem iP_r1 {m : ab_M} (c5 : mc m 5 = 0) (c6 : mc m 6 = 0) (c7 : mc m 7 = 0) (c8 : mc m 8 = 0) (c9 : mc m 9 = 0) (c10 : mc m 10 = 0) (c11 : mc m 11 = 0) (c12 : mc m 12 = 0) (c13 : mc m 13 = 0) (c14 : mc m 14 = 0) (c15 : mc m 15 = 0) (c16 : mc m 16 = 0) (c17 : mc m 17 = 0) : mr (iP m) 35 0 1 = some (5, 0) := by
  unfold iP mPeople
  rw [mr_sR, u3_ap, if_neg (by omega), mr_fm (by decide) (by decide), if_neg (by omega), mr_fm (by decide) (by decide), if_neg (by omega), mr_fa, if_neg (by omega), if_neg (by omega), mr_fa, if_neg (by omega), if_neg (by omega), mr_fa, if_neg (by omega), if_neg (by omega), mr_fa, if_neg (by omega), if_neg (by omega), mr_fa, if_neg (by omega), if_neg (by omega), mr_fa, if_neg (by omega), if_neg (by omega), mr_fa, if_neg (by omega), if_neg (by omega), mr_fa, if_neg (by omega), if_neg (by omega), mr_fa, if_pos ⟨rfl, rfl, rfl⟩, mc_al, u1_ap, if_neg (by omega), c5]
theorem iP_r2 {m : ab_M} (c5 : mc m 5 = 0) (c6 : mc m 6 = 0) (c7 : mc m 7 = 0) (c8 : mc m 8 = 0) (c9 : mc m 9 = 0) (c10 : mc m 10 = 0) (c11 : mc m 11 = 0) (c12 : mc m 12 = 0) (c13 : mc m 13 = 0) (c14 : mc m 14 = 0) (c15 : mc m 15 = 0) (c16 : mc m 16 = 0) (c17 : mc m 17 = 0) : mr (iP m) 35 0 2 = some (6, 0) := by
  unfold iP mPeople
  rw [mr_sR, u3_ap, if_neg (by omega), mr_fm (by decide) (by decide), if_neg (by omega), mr_fm (by decide) (by decide), if_neg (by omega), mr_fa, if_neg (by omega), if_neg (by omega), mr_fa, if_neg (by omega), if_neg (by omega), mr_fa, if_neg (by omega), if_neg (by omega), mr_fa, if_neg (by omega), if_neg (by omega), mr_fa, if_neg (by omega), if_neg (by omega), mr_fa, if_neg (by omega), if_neg (by omega), mr_fa, if_neg (by omega), if_neg (by omega), mr_fa, if_pos ⟨rfl, rfl, rfl⟩, mc_fa, if_neg (by omega), mc_al, u1_ap, if_neg (by omega), c6]
theorem iP_r3 {m : ab_M} (c5 : mc m 5 = 0) (c6 : mc m 6 = 0) (c7 : mc m 7 = 0) (c8 : mc m 8 = 0) (c9 : mc m 9 = 0) (c10 : mc m 10 = 0) (c11 : mc m 11 = 0) (c12 : mc m 12 = 0) (c13 : mc m 13 = 0) (c14 : mc m 14 = 0) (c15 : mc m 15 = 0) (c16 : mc m 16 = 0) (c17 : mc m 17 = 0) : mr (iP m) 35 0 3 = some (7, 0) := by
  unfold iP mPeople
  rw [mr_sR, u3_ap, if_neg (by omega), mr_fm (by decide) (by decide), if_neg (by omega), mr_fm (by decide) (by decide), if_neg (by omega), mr_fa, if_neg (by omega), if_neg (by omega), mr_fa, if_neg (by omega), if_neg (by omega), mr_fa, if_neg (by omega), if_neg (by omega), mr_fa, if_neg (by omega), if_neg (by omega), mr_fa, if_neg (by omega), if_neg (by omega), mr_fa, if_neg (by omega), if_neg (by omega), mr_fa, if_pos ⟨rfl, rfl, rfl⟩, mc_fa, if_neg (by omega), mc_fa, if_neg (by omega), mc_al, u1_ap, if_neg (by omega), c7]
theorem iP_r4 {m : ab_M} (c5 : mc m 5 = 0) (c6 : mc m 6 = 0) (c7 : mc m 7 = 0) (c8 : mc m 8 = 0) (c9 : mc m 9 = 0) (c10 : mc m 10 = 0) (c11 : mc m 11 = 0) (c12 : mc m 12 = 0) (c13 : mc m 13 = 0) (c14 : mc m 14 = 0) (c15 : mc m 15 = 0) (c16 : mc m 16 = 0) (c17 : mc m 17 = 0) : mr (iP m) 35 0 4 = some (8, 0) := by
  unfold iP mPeople
  rw [mr_sR, u3_ap, if_neg (by omega), mr_fm (by decide) (by decide), if_neg (by omega), mr_fm (by decide) (by decide), if_neg (by omega), mr_fa, if_neg (by omega), if_neg (by omega), mr_fa, if_neg (by omega), if_neg (by omega), mr_fa, if_neg (by omega), if_neg (by omega), mr_fa, if_neg (by omega), if_neg (by omega), mr_fa, if_neg (by omega), if_neg (by omega), mr_fa, if_pos ⟨rfl, rfl, rfl⟩, mc_fa, if_neg (by omega), mc_fa, if_neg (by omega), mc_fa, if_neg (by omega), mc_al, u1_ap, if_neg (by omega), c8]
theorem iP_r5 {m : ab_M} (c5 : mc m 5 = 0) (c6 : mc m 6 = 0) (c7 : mc m 7 = 0) (c8 : mc m 8 = 0) (c9 : mc m 9 = 0) (c10 : mc m 10 = 0) (c11 : mc m 11 = 0) (c12 : mc m 12 = 0) (c13 : mc m 13 = 0) (c14 : mc m 14 = 0) (c15 : mc m 15 = 0) (c16 : mc m 16 = 0) (c17 : mc m 17 = 0) : mr (iP m) 35 0 5 = some (9, 0) := by
  unfold iP mPeople
  rw [mr_sR, u3_ap, if_neg (by omega), mr_fm (by decide) (by decide), if_neg (by omega), mr_fm (by decide) (by decide), if_neg (by omega), mr_fa, if_neg (by omega), if_neg (by omega), mr_fa, if_neg (by omega), if_neg (by omega), mr_fa, if_neg (by omega), if_neg (by omega), mr_fa, if_neg (by omega), if_neg (by omega), mr_fa, if_pos ⟨rfl, rfl, rfl⟩, mc_fa, if_neg (by omega), mc_fa, if_neg (by omega), mc_fa, if_neg (by omega), mc_fa, if_neg (by omega), mc_al, u1_ap, if_neg (by omega), c9]
theorem iP_r6 {m : ab_M} (c5 : mc m 5 = 0) (c6 : mc m 6 = 0) (c7 : mc m 7 = 0) (c8 : mc m 8 = 0) (c9 : mc m 9 = 0) (c10 : mc m 10 = 0) (c11 : mc m 11 = 0) (c12 : mc m 12 = 0) (c13 : mc m 13 = 0) (c14 : mc m 14 = 0) (c15 : mc m 15 = 0) (c16 : mc m 16 = 0) (c17 : mc m 17 = 0) : mr (iP m) 35 0 6 = some (10, 0) := by
  unfold iP mPeople
  rw [mr_sR, u3_ap, if_neg (by omega), mr_fm (by decide) (by decide), if_neg (by omega), mr_fm (by decide) (by decide), if_neg (by omega), mr_fa, if_neg (by omega), if_neg (by omega), mr_fa, if_neg (by omega), if_neg (by omega), mr_fa, if_neg (by omega), if_neg (by omega), mr_fa, if_pos ⟨rfl, rfl, rfl⟩, mc_fa, if_neg (by omega), mc_fa, if_neg (by omega), mc_fa, if_neg (by omega), mc_fa, if_neg (by omega), mc_fa, if_neg (by omega), mc_al, u1_ap, if_neg (by omega), c10]
theorem iP_r7 {m : ab_M} (c5 : mc m 5 = 0) (c6 : mc m 6 = 0) (c7 : mc m 7 = 0) (c8 : mc m 8 = 0) (c9 : mc m 9 = 0) (c10 : mc m 10 = 0) (c11 : mc m 11 = 0) (c12 : mc m 12 = 0) (c13 : mc m 13 = 0) (c14 : mc m 14 = 0) (c15 : mc m 15 = 0) (c16 : mc m 16 = 0) (c17 : mc m 17 = 0) : mr (iP m) 35 0 7 = some (11, 0) := by
  unfold iP mPeople
  rw [mr_sR, u3_ap, if_neg (by omega), mr_fm (by decide) (by decide), if_neg (by omega), mr_fm (by decide) (by decide), if_neg (by omega), mr_fa, if_neg (by omega), if_neg (by omega), mr_fa, if_neg (by omega), if_neg (by omega), mr_fa, if_pos ⟨rfl, rfl, rfl⟩, mc_fa, if_neg (by omega), mc_fa, if_neg (by omega), mc_fa, if_neg (by omega), mc_fa, if_neg (by omega), mc_fa, if_neg (by omega), mc_fa, if_neg (by omega), mc_al, u1_ap, if_neg (by omega), c11]
theorem iP_r8 {m : ab_M} (c5 : mc m 5 = 0) (c6 : mc m 6 = 0) (c7 : mc m 7 = 0) (c8 : mc m 8 = 0) (c9 : mc m 9 = 0) (c10 : mc m 10 = 0) (c11 : mc m 11 = 0) (c12 : mc m 12 = 0) (c13 : mc m 13 = 0) (c14 : mc m 14 = 0) (c15 : mc m 15 = 0) (c16 : mc m 16 = 0) (c17 : mc m 17 = 0) : mr (iP m) 35 0 8 = some (12, 0) := by
  unfold iP mPeople
  rw [mr_sR, u3_ap, if_neg (by omega), mr_fm (by decide) (by decide), if_neg (by omega), mr_fm (by decide) (by decide), if_neg (by omega), mr_fa, if_neg (by omega), if_neg (by omega), mr_fa, if_pos ⟨rfl, rfl, rfl⟩, mc_fa, if_neg (by omega), mc_fa, if_neg (by omega), mc_fa, if_neg (by omega), mc_fa, if_neg (by omega), mc_fa, if_neg (by omega), mc_fa, if_neg (by omega), mc_fa, if_neg (by omega), mc_al, u1_ap, if_neg (by omega), c12]
theorem iP_r9 {m : ab_M} (c5 : mc m 5 = 0) (c6 : mc m 6 = 0) (c7 : mc m 7 = 0) (c8 : mc m 8 = 0) (c9 : mc m 9 = 0) (c10 : mc m 10 = 0) (c11 : mc m 11 = 0) (c12 : mc m 12 = 0) (c13 : mc m 13 = 0) (c14 : mc m 14 = 0) (c15 : mc m 15 = 0) (c16 : mc m 16 = 0) (c17 : mc m 17 = 0) : mr (iP m) 35 0 9 = some (13, 0) := by
  unfold iP mPeople
  rw [mr_sR, u3_ap, if_neg (by omega), mr_fm (by decide) (by decide), if_neg (by omega), mr_fm (by decide) (by decide), if_neg (by omega), mr_fa, if_pos ⟨rfl, rfl, rfl⟩, mc_fa, if_neg (by omega), mc_fa, if_neg (by omega), mc_fa, if_neg (by omega), mc_fa, if_neg (by omega), mc_fa, if_neg (by omega), mc_fa, if_neg (by omega), mc_fa, if_neg (by omega), mc_fa, if_neg (by omega), mc_al, u1_ap, if_neg (by omega), c13]
theorem iP_r10 {m : ab_M} (c5 : mc m 5 = 0) (c6 : mc m 6 = 0) (c7 : mc m 7 = 0) (c8 : mc m 8 = 0) (c9 : mc m 9 = 0) (c10 : mc m 10 = 0) (c11 : mc m 11 = 0) (c12 : mc m 12 = 0) (c13 : mc m 13 = 0) (c14 : mc m 14 = 0) (c15 : mc m 15 = 0) (c16 : mc m 16 = 0) (c17 : mc m 17 = 0) : mr (iP m) 35 0 10 = some (14, 0) := by
  unfold iP mPeople
  rw [mr_sR, u3_ap, if_neg (by omega), mr_fm (by decide) (by decide), if_neg (by omega), mr_fm (by decide) (by decide), if_pos ⟨rfl, rfl, rfl⟩, mc_fa, if_neg (by omega), mc_fa, if_neg (by omega), mc_fa, if_neg (by omega), mc_fa, if_neg (by omega), mc_fa, if_neg (by omega), mc_fa, if_neg (by omega), mc_fa, if_neg (by omega), mc_fa, if_neg (by omega), mc_fa, if_neg (by omega), mc_al, u1_ap, if_neg (by omega), c14]
theorem iP_r11 {m : ab_M} (c5 : mc m 5 = 0) (c6 : mc m 6 = 0) (c7 : mc m 7 = 0) (c8 : mc m 8 = 0) (c9 : mc m 9 = 0) (c10 : mc m 10 = 0) (c11 : mc m 11 = 0) (c12 : mc m 12 = 0) (c13 : mc m 13 = 0) (c14 : mc m 14 = 0) (c15 : mc m 15 = 0) (c16 : mc m 16 = 0) (c17 : mc m 17 = 0) : mr (iP m) 35 0 11 = some (16, 0) := by
  unfold iP mPeople
  rw [mr_sR, u3_ap, if_neg (by omega), mr_fm (by decide) (by decide), if_pos ⟨rfl, rfl, rfl⟩, mc_fm (by decide), if_neg (by omega), if_neg (by omega), mc_fa, if_neg (by omega), mc_fa, if_neg (by omega), mc_fa, if_neg (by omega), mc_fa, if_neg (by omega), mc_fa, if_neg (by omega), mc_fa, if_neg (by omega), mc_fa, if_neg (by omega), mc_fa, if_neg (by omega), mc_fa, if_neg (by omega), mc_al, u1_ap, if_neg (by omega), c16]
theorem iP_n5 {m : ab_M} (c5 : mc m 5 = 0) (c6 : mc m 6 = 0) (c7 : mc m 7 = 0) (c8 : mc m 8 = 0) (c9 : mc m 9 = 0) (c10 : mc m 10 = 0) (c11 : mc m 11 = 0) (c12 : mc m 12 = 0) (c13 : mc m 13 = 0) (c14 : mc m 14 = 0) (c15 : mc m 15 = 0) (c16 : mc m 16 = 0) (c17 : mc m 17 = 0) : mn (iP m) 5 0 = 12 := by
  have q : mc (al m 35 0 (NF 4)) 5 = 0 := by rw [mc_al, u1_ap, if_neg (by omega), c5]
  unfold iP mPeople
  rw [mn_sR, mn_fm' (by decide), if_neg (by omega), if_neg (by omega), mn_fm' (by decide), if_neg (by omega), if_neg (by omega), mn_fa', if_neg (by omega), mn_fa', if_neg (by omega), mn_fa', if_neg (by omega), mn_fa', if_neg (by omega), mn_fa', if_neg (by omega), mn_fa', if_neg (by omega), mn_fa', if_neg (by omega), mn_fa', if_neg (by omega), mn_fa', q, if_pos ⟨rfl, rfl⟩]
theorem iP_n6 {m : ab_M} (c5 : mc m 5 = 0) (c6 : mc m 6 = 0) (c7 : mc m 7 = 0) (c8 : mc m 8 = 0) (c9 : mc m 9 = 0) (c10 : mc m 10 = 0) (c11 : mc m 11 = 0) (c12 : mc m 12 = 0) (c13 : mc m 13 = 0) (c14 : mc m 14 = 0) (c15 : mc m 15 = 0) (c16 : mc m 16 = 0) (c17 : mc m 17 = 0) : mn (iP m) 6 0 = 12 := by
  have q : mc (fa (al m 35 0 (NF 4)) 35 5 12 1) 6 = 0 := by rw [mc_fa, if_neg (by omega), mc_al, u1_ap, if_neg (by omega), c6]
  unfold iP mPeople
  rw [mn_sR, mn_fm' (by decide), if_neg (by omega), if_neg (by omega), mn_fm' (by decide), if_neg (by omega), if_neg (by omega), mn_fa', if_neg (by omega), mn_fa', if_neg (by omega), mn_fa', if_neg (by omega), mn_fa', if_neg (by omega), mn_fa', if_neg (by omega), mn_fa', if_neg (by omega), mn_fa', if_neg (by omega), mn_fa', q, if_pos ⟨rfl, rfl⟩]
theorem iP_n7 {m : ab_M} (c5 : mc m 5 = 0) (c6 : mc m 6 = 0) (c7 : mc m 7 = 0) (c8 : mc m 8 = 0) (c9 : mc m 9 = 0) (c10 : mc m 10 = 0) (c11 : mc m 11 = 0) (c12 : mc m 12 = 0) (c13 : mc m 13 = 0) (c14 : mc m 14 = 0) (c15 : mc m 15 = 0) (c16 : mc m 16 = 0) (c17 : mc m 17 = 0) : mn (iP m) 7 0 = 12 := by
  have q : mc (fa (fa (al m 35 0 (NF 4)) 35 5 12 1) 35 6 12 2) 7 = 0 := by rw [mc_fa, if_neg (by omega), mc_fa, if_neg (by omega), mc_al, u1_ap, if_neg (by omega), c7]
  unfold iP mPeople
  rw [mn_sR, mn_fm' (by decide), if_neg (by omega), if_neg (by omega), mn_fm' (by decide), if_neg (by omega), if_neg (by omega), mn_fa', if_neg (by omega), mn_fa', if_neg (by omega), mn_fa', if_neg (by omega), mn_fa', if_neg (by omega), mn_fa', if_neg (by omega), mn_fa', if_neg (by omega), mn_fa', q, if_pos ⟨rfl, rfl⟩]
theorem iP_n8 {m : ab_M} (c5 : mc m 5 = 0) (c6 : mc m 6 = 0) (c7 : mc m 7 = 0) (c8 : mc m 8 = 0) (c9 : mc m 9 = 0) (c10 : mc m 10 = 0) (c11 : mc m 11 = 0) (c12 : mc m 12 = 0) (c13 : mc m 13 = 0) (c14 : mc m 14 = 0) (c15 : mc m 15 = 0) (c16 : mc m 16 = 0) (c17 : mc m 17 = 0) : mn (iP m) 8 0 = 12 := by
  have q : mc (fa (fa (fa (al m 35 0 (NF 4)) 35 5 12 1) 35 6 12 2) 35 7 12 3) 8 = 0 := by rw [mc_fa, if_neg (by omega), mc_fa, if_neg (by omega), mc_fa, if_neg (by omega), mc_al, u1_ap, if_neg (by omega), c8]
  unfold iP mPeople
  rw [mn_sR, mn_fm' (by decide), if_neg (by omega), if_neg (by omega), mn_fm' (by decide), if_neg (by omega), if_neg (by omega), mn_fa', if_neg (by omega), mn_fa', if_neg (by omega), mn_fa', if_neg (by omega), mn_fa', if_neg (by omega), mn_fa', if_neg (by omega), mn_fa', q, if_pos ⟨rfl, rfl⟩]
theorem iP_n9 {m : ab_M} (c5 : mc m 5 = 0) (c6 : mc m 6 = 0) (c7 : mc m 7 = 0) (c8 : mc m 8 = 0) (c9 : mc m 9 = 0) (c10 : mc m 10 = 0) (c11 : mc m 11 = 0) (c12 : mc m 12 = 0) (c13 : mc m 13 = 0) (c14 : mc m 14 = 0) (c15 : mc m 15 = 0) (c16 : mc m 16 = 0) (c17 : mc m 17 = 0) : mn (iP m) 9 0 = 12 := by
  have q : mc (fa (fa (fa (fa (al m 35 0 (NF 4)) 35 5 12 1) 35 6 12 2) 35 7 12 3) 35 8 12 4) 9 = 0 := by rw [mc_fa, if_neg (by omega), mc_fa, if_neg (by omega), mc_fa, if_neg (by omega), mc_fa, if_neg (by omega), mc_al, u1_ap, if_neg (by omega), c9]
  unfold iP mPeople
  rw [mn_sR, mn_fm' (by decide), if_neg (by omega), if_neg (by omega), mn_fm' (by decide), if_neg (by omega), if_neg (by omega), mn_fa', if_neg (by omega), mn_fa', if_neg (by omega), mn_fa', if_neg (by omega), mn_fa', if_neg (by omega), mn_fa', q, if_pos ⟨rfl, rfl⟩]
theorem iP_n10 {m : ab_M} (c5 : mc m 5 = 0) (c6 : mc m 6 = 0) (c7 : mc m 7 = 0) (c8 : mc m 8 = 0) (c9 : mc m 9 = 0) (c10 : mc m 10 = 0) (c11 : mc m 11 = 0) (c12 : mc m 12 = 0) (c13 : mc m 13 = 0) (c14 : mc m 14 = 0) (c15 : mc m 15 = 0) (c16 : mc m 16 = 0) (c17 : mc m 17 = 0) : mn (iP m) 10 0 = 12 := by
  have q : mc (fa (fa (fa (fa (fa (al m 35 0 (NF 4)) 35 5 12 1) 35 6 12 2) 35 7 12 3) 35 8 12 4) 35 9 12 5) 10 = 0 := by rw [mc_fa, if_neg (by omega), mc_fa, if_neg (by omega), mc_fa, if_neg (by omega), mc_fa, if_neg (by omega), mc_fa, if_neg (by omega), mc_al, u1_ap, if_neg (by omega), c10]
  unfold iP mPeople
  rw [mn_sR, mn_fm' (by decide), if_neg (by omega), if_neg (by omega), mn_fm' (by decide), if_neg (by omega), if_neg (by omega), mn_fa', if_neg (by omega), mn_fa', if_neg (by omega), mn_fa', if_neg (by omega), mn_fa', q, if_pos ⟨rfl, rfl⟩]
theorem iP_n11 {m : ab_M} (c5 : mc m 5 = 0) (c6 : mc m 6 = 0) (c7 : mc m 7 = 0) (c8 : mc m 8 = 0) (c9 : mc m 9 = 0) (c10 : mc m 10 = 0) (c11 : mc m 11 = 0) (c12 : mc m 12 = 0) (c13 : mc m 13 = 0) (c14 : mc m 14 = 0) (c15 : mc m 15 = 0) (c16 : mc m 16 = 0) (c17 : mc m 17 = 0) : mn (iP m) 11 0 = 12 := by
  have q : mc (fa (fa (fa (fa (fa (fa (al m 35 0 (NF 4)) 35 5 12 1) 35 6 12 2) 35 7 12 3) 35 8 12 4) 35 9 12 5) 35 10 12 6) 11 = 0 := by rw [mc_fa, if_neg (by omega), mc_fa, if_neg (by omega), mc_fa, if_neg (by omega), mc_fa, if_neg (by omega), mc_fa, if_neg (by omega), mc_fa, if_neg (by omega), mc_al, u1_ap, if_neg (by omega), c11]
  unfold iP mPeople
  rw [mn_sR, mn_fm' (by decide), if_neg (by omega), if_neg (by omega), mn_fm' (by decide), if_neg (by omega), if_neg (by omega), mn_fa', if_neg (by omega), mn_fa', if_neg (by omega), mn_fa', q, if_pos ⟨rfl, rfl⟩]
theorem iP_n12 {m : ab_M} (c5 : mc m 5 = 0) (c6 : mc m 6 = 0) (c7 : mc m 7 = 0) (c8 : mc m 8 = 0) (c9 : mc m 9 = 0) (c10 : mc m 10 = 0) (c11 : mc m 11 = 0) (c12 : mc m 12 = 0) (c13 : mc m 13 = 0) (c14 : mc m 14 = 0) (c15 : mc m 15 = 0) (c16 : mc m 16 = 0) (c17 : mc m 17 = 0) : mn (iP m) 12 0 = 12 := by
  have q : mc (fa (fa (fa (fa (fa (fa (fa (al m 35 0 (NF 4)) 35 5 12 1) 35 6 12 2) 35 7 12 3) 35 8 12 4) 35 9 12 5) 35 10 12 6) 35 11 12 7) 12 = 0 := by rw [mc_fa, if_neg (by omega), mc_fa, if_neg (by omega), mc_fa, if_neg (by omega), mc_fa, if_neg (by omega), mc_fa, if_neg (by omega), mc_fa, if_neg (by omega), mc_fa, if_neg (by omega), mc_al, u1_ap, if_neg (by omega), c12]
  unfold iP mPeople
  rw [mn_sR, mn_fm' (by decide), if_neg (by omega), if_neg (by omega), mn_fm' (by decide), if_neg (by omega), if_neg (by omega), mn_fa', if_neg (by omega), mn_fa', q, if_pos ⟨rfl, rfl⟩]
theorem iP_n13 {m : ab_M} (c5 : mc m 5 = 0) (c6 : mc m 6 = 0) (c7 : mc m 7 = 0) (c8 : mc m 8 = 0) (c9 : mc m 9 = 0) (c10 : mc m 10 = 0) (c11 : mc m 11 = 0) (c12 : mc m 12 = 0) (c13 : mc m 13 = 0) (c14 : mc m 14 = 0) (c15 : mc m 15 = 0) (c16 : mc m 16 = 0) (c17 : mc m 17 = 0) : mn (iP m) 13 0 = 12 := by
  have q : mc (fa (fa (fa (fa (fa (fa (fa (fa (al m 35 0 (NF 4)) 35 5 12 1) 35 6 12 2) 35 7 12 3) 35 8 12 4) 35 9 12 5) 35 10 12 6) 35 11 12 7) 35 12 12 8) 13 = 0 := by rw [mc_fa, if_neg (by omega), mc_fa, if_neg (by omega), mc_fa, if_neg (by omega), mc_fa, if_neg (by omega), mc_fa, if_neg (by omega), mc_fa, if_neg (by omega), mc_fa, if_neg (by omega), mc_fa, if_neg (by omega), mc_al, u1_ap, if_neg (by omega), c13]
  unfold iP mPeople
  rw [mn_sR, mn_fm' (by decide), if_neg (by omega), if_neg (by omega), mn_fm' (by decide), if_neg (by omega), if_neg (by omega), mn_fa', q, if_pos ⟨rfl, rfl⟩]
theorem iP_n14 {m : ab_M} (c5 : mc m 5 = 0) (c6 : mc m 6 = 0) (c7 : mc m 7 = 0) (c8 : mc m 8 = 0) (c9 : mc m 9 = 0) (c10 : mc m 10 = 0) (c11 : mc m 11 = 0) (c12 : mc m 12 = 0) (c13 : mc m 13 = 0) (c14 : mc m 14 = 0) (c15 : mc m 15 = 0) (c16 : mc m 16 = 0) (c17 : mc m 17 = 0) : mn (iP m) 14 0 = 12 := by
  have q : mc (fa (fa (fa (fa (fa (fa (fa (fa (fa (al m 35 0 (NF 4)) 35 5 12 1) 35 6 12 2) 35 7 12 3) 35 8 12 4) 35 9 12 5) 35 10 12 6) 35 11 12 7) 35 12 12 8) 35 13 12 9) 14 = 0 := by rw [mc_fa, if_neg (by omega), mc_fa, if_neg (by omega), mc_fa, if_neg (by omega), mc_fa, if_neg (by omega), mc_fa, if_neg (by omega), mc_fa, if_neg (by omega), mc_fa, if_neg (by omega), mc_fa, if_neg (by omega), mc_fa, if_neg (by omega), mc_al, u1_ap, if_neg (by omega), c14]
  unfold iP mPeople
  rw [mn_sR, mn_fm' (by decide), if_neg (by omega), if_neg (by omega), mn_fm' (by decide), q, if_pos ⟨rfl, rfl⟩]
theorem iP_n16 {m : ab_M} (c5 : mc m 5 = 0) (c6 : mc m 6 = 0) (c7 : mc m 7 = 0) (c8 : mc m 8 = 0) (c9 : mc m 9 = 0) (c10 : mc m 10 = 0) (c11 : mc m 11 = 0) (c12 : mc m 12 = 0) (c13 : mc m 13 = 0) (c14 : mc m 14 = 0) (c15 : mc m 15 = 0) (c16 : mc m 16 = 0) (c17 : mc m 17 = 0) : mn (iP m) 16 0 = 12 := by
  have q : mc (fm (fa (fa (fa (fa (fa (fa (fa (fa (fa (al m 35 0 (NF 4)) 35 5 12 1) 35 6 12 2) 35 7 12 3) 35 8 12 4) 35 9 12 5) 35 10 12 6) 35 11 12 7) 35 12 12 8) 35 13 12 9) 35 14 15 10 10) 16 = 0 := by rw [mc_fm (by decide), if_neg (by omega), if_neg (by omega), mc_fa, if_neg (by omega), mc_fa, if_neg (by omega), mc_fa, if_neg (by omega), mc_fa, if_neg (by omega), mc_fa, if_neg (by omega), mc_fa, if_neg (by omega), mc_fa, if_neg (by omega), mc_fa, if_neg (by omega), mc_fa, if_neg (by omega), mc_al, u1_ap, if_neg (by omega), c16]
  unfold iP mPeople
  rw [mn_sR, mn_fm' (by decide), q, if_pos ⟨rfl, rfl⟩]
theorem iP_m14 {m : ab_M} (c5 : mc m 5 = 0) (c6 : mc m 6 = 0) (c7 : mc m 7 = 0) (c8 : mc m 8 = 0) (c9 : mc m 9 = 0) (c10 : mc m 10 = 0) (c11 : mc m 11 = 0) (c12 : mc m 12 = 0) (c13 : mc m 13 = 0) (c14 : mc m 14 = 0) (c15 : mc m 15 = 0) (c16 : mc m 16 = 0) (c17 : mc m 17 = 0) {i : Nat} (hi : i < 12) : mr (iP m) 14 0 i = some (15, i) ∧ mn (iP m) 15 i = 10 := by
  have q1 : mc (fa (fa (fa (fa (fa (fa (fa (fa (fa (al m 35 0 (NF 4)) 35 5 12 1) 35 6 12 2) 35 7 12 3) 35 8 12 4) 35 9 12 5) 35 10 12 6) 35 11 12 7) 35 12 12 8) 35 13 12 9) 14 = 0 := by rw [mc_fa, if_neg (by omega), mc_fa, if_neg (by omega), mc_fa, if_neg (by omega), mc_fa, if_neg (by omega), mc_fa, if_neg (by omega), mc_fa, if_neg (by omega), mc_fa, if_neg (by omega), mc_fa, if_neg (by omega), mc_fa, if_neg (by omega), mc_al, u1_ap, if_neg (by omega), c14]
  have q2 : mc (fa (fa (fa (fa (fa (fa (fa (fa (fa (al m 35 0 (NF 4)) 35 5 12 1) 35 6 12 2) 35 7 12 3) 35 8 12 4) 35 9 12 5) 35 10 12 6) 35 11 12 7) 35 12 12 8) 35 13 12 9) 15 = 0 := by rw [mc_fa, if_neg (by omega), mc_fa, if_neg (by omega), mc_fa, if_neg (by omega), mc_fa, if_neg (by omega), mc_fa, if_neg (by omega), mc_fa, if_neg (by omega), mc_fa, if_neg (by omega), mc_fa, if_neg (by omega), mc_fa, if_neg (by omega), mc_al, u1_ap, if_neg (by omega), c15]
  unfold iP mPeople
  generalize (fa (fa (fa (fa (fa (fa (fa (fa (fa (al m 35 0 (NF 4)) 35 5 12 1) 35 6 12 2) 35 7 12 3) 35 8 12 4) 35 9 12 5) 35 10 12 6) 35 11 12 7) 35 12 12 8) 35 13 12 9) = X9 at *
  have h1 := mr_fmT (m := X9) (o := 35) (t := 14) (s := 15) (b := 10) (k := 10) (z := i) (by decide) (by decide) hi
  rw [q1, q2, Nat.zero_add] at h1
  have h2 : mn (fm X9 35 14 15 10 10) 15 i = 10 := by rw [mn_fm' (by decide), if_neg (by omega), if_pos (by omega)]
  constructor
  · rw [mr_sR, u3_ap, if_neg (by omega), mr_fm (by decide) (by decide), if_neg (by omega)]; exact h1
  · rw [mn_sR, mn_fm' (by decide), if_neg (by omega), if_neg (by omega)]; exact h2
theorem iP_m16 {m : ab_M} (c5 : mc m 5 = 0) (c6 : mc m 6 = 0) (c7 : mc m 7 = 0) (c8 : mc m 8 = 0) (c9 : mc m 9 = 0) (c10 : mc m 10 = 0) (c11 : mc m 11 = 0) (c12 : mc m 12 = 0) (c13 : mc m 13 = 0) (c14 : mc m 14 = 0) (c15 : mc m 15 = 0) (c16 : mc m 16 = 0) (c17 : mc m 17 = 0) {i : Nat} (hi : i < 12) : mr (iP m) 16 0 i = some (17, i) ∧ mn (iP m) 17 i = 10 := by
  have q1 : mc (fm (fa (fa (fa (fa (fa (fa (fa (fa (fa (al m 35 0 (NF 4)) 35 5 12 1) 35 6 12 2) 35 7 12 3) 35 8 12 4) 35 9 12 5) 35 10 12 6) 35 11 12 7) 35 12 12 8) 35 13 12 9) 35 14 15 10 10) 16 = 0 := by rw [mc_fm (by decide), if_neg (by omega), if_neg (by omega), mc_fa, if_neg (by omega), mc_fa, if_neg (by omega), mc_fa, if_neg (by omega), mc_fa, if_neg (by omega), mc_fa, if_neg (by omega), mc_fa, if_neg (by omega), mc_fa, if_neg (by omega), mc_fa, if_neg (by omega), mc_fa, if_neg (by omega), mc_al, u1_ap, if_neg (by omega), c16]
  have q2 : mc (fm (fa (fa (fa (fa (fa (fa (fa (fa (fa (al m 35 0 (NF 4)) 35 5 12 1) 35 6 12 2) 35 7 12 3) 35 8 12 4) 35 9 12 5) 35 10 12 6) 35 11 12 7) 35 12 12 8) 35 13 12 9) 35 14 15 10 10) 17 = 0 := by rw [mc_fm (by decide), if_neg (by omega), if_neg (by omega), mc_fa, if_neg (by omega), mc_fa, if_neg (by omega), mc_fa, if_neg (by omega), mc_fa, if_neg (by omega), mc_fa, if_neg (by omega), mc_fa, if_neg (by omega), mc_fa, if_neg (by omega), mc_fa, if_neg (by omega), mc_fa, if_neg (by omega), mc_al, u1_ap, if_neg (by omega), c17]
  unfold iP mPeople
  generalize (fm (fa (fa (fa (fa (fa (fa (fa (fa (fa (al m 35 0 (NF 4)) 35 5 12 1) 35 6 12 2) 35 7 12 3) 35 8 12 4) 35 9 12 5) 35 10 12 6) 35 11 12 7) 35 12 12 8) 35 13 12 9) 35 14 15 10 10) = X9 at *
  have h1 := mr_fmT (m := X9) (o := 35) (t := 16) (s := 17) (b := 10) (k := 11) (z := i) (by decide) (by decide) hi
  rw [q1, q2, Nat.zero_add] at h1
  have h2 : mn (fm X9 35 16 17 10 11) 17 i = 10 := by rw [mn_fm' (by decide), if_neg (by omega), if_pos (by omega)]
  constructor
  · rw [mr_sR, u3_ap, if_neg (by omega)]; exact h1
  · rw [mn_sR]; exact h2
theorem iH_r1 {m : ab_M} (c3 : mc m 3 = 0) (c4 : mc m 4 = 0) : mr (iH m) 36 0 1 = some (3, 0) := by
  unfold iH mHouses
  rw [mr_sR, u3_ap, if_neg (by omega), mr_fa, if_neg (by omega), if_neg (by omega), mr_fa, if_pos ⟨rfl, rfl, rfl⟩, mc_al, u1_ap, if_neg (by omega), c3]
theorem iH_r2 {m : ab_M} (c3 : mc m 3 = 0) (c4 : mc m 4 = 0) : mr (iH m) 36 0 2 = some (4, 0) := by
  unfold iH mHouses
  rw [mr_sR, u3_ap, if_neg (by omega), mr_fa, if_pos ⟨rfl, rfl, rfl⟩, mc_fa, if_neg (by omega), mc_al, u1_ap, if_neg (by omega), c4]
theorem iH_n3 {m : ab_M} (c3 : mc m 3 = 0) (c4 : mc m 4 = 0) : mn (iH m) 3 0 = 4 := by
  have q : mc (al m 36 0 (NF 3)) 3 = 0 := by rw [mc_al, u1_ap, if_neg (by omega), c3]
  unfold iH mHouses
  rw [mn_sR, mn_fa', if_neg (by omega), mn_fa', q, if_pos ⟨rfl, rfl⟩]
theorem iH_n4 {m : ab_M} (c3 : mc m 3 = 0) (c4 : mc m 4 = 0) : mn (iH m) 4 0 = 4 := by
  have q : mc (fa (al m 36 0 (NF 3)) 36 3 4 1) 4 = 0 := by rw [mc_fa, if_neg (by omega), mc_al, u1_ap, if_neg (by omega), c4]
  unfold iH mHouses
  rw [mn_sR, mn_fa', q, if_pos ⟨rfl, rfl⟩]
theorem iS_r1 {m : ab_M} (c22 : mc m 22 = 0) (c23 : mc m 23 = 0) (c24 : mc m 24 = 0) (c25 : mc m 25 = 0) : mr (iS m) 37 0 1 = some (22, 0) := by
  unfold iS mSecrets
  rw [mr_sR, u3_ap, if_neg (by omega), mr_fa, if_neg (by omega), if_neg (by omega), mr_fa, if_neg (by omega), if_neg (by omega), mr_fa, if_neg (by omega), if_neg (by omega), mr_fa, if_pos ⟨rfl, rfl, rfl⟩, mc_al, u1_ap, if_neg (by omega), c22]
theorem iS_r2 {m : ab_M} (c22 : mc m 22 = 0) (c23 : mc m 23 = 0) (c24 : mc m 24 = 0) (c25 : mc m 25 = 0) : mr (iS m) 37 0 2 = some (23, 0) := by
  unfold iS mSecrets
  rw [mr_sR, u3_ap, if_neg (by omega), mr_fa, if_neg (by omega), if_neg (by omega), mr_fa, if_neg (by omega), if_neg (by omega), mr_fa, if_pos ⟨rfl, rfl, rfl⟩, mc_fa, if_neg (by omega), mc_al, u1_ap, if_neg (by omega), c23]
theorem iS_r3 {m : ab_M} (c22 : mc m 22 = 0) (c23 : mc m 23 = 0) (c24 : mc m 24 = 0) (c25 : mc m 25 = 0) : mr (iS m) 37 0 3 = some (24, 0) := by
  unfold iS mSecrets
  rw [mr_sR, u3_ap, if_neg (by omega), mr_fa, if_neg (by omega), if_neg (by omega), mr_fa, if_pos ⟨rfl, rfl, rfl⟩, mc_fa, if_neg (by omega), mc_fa, if_neg (by omega), mc_al, u1_ap, if_neg (by omega), c24]
theorem iS_r4 {m : ab_M} (c22 : mc m 22 = 0) (c23 : mc m 23 = 0) (c24 : mc m 24 = 0) (c25 : mc m 25 = 0) : mr (iS m) 37 0 4 = some (25, 0) := by
  unfold iS mSecrets
  rw [mr_sR, u3_ap, if_neg (by omega), mr_fa, if_pos ⟨rfl, rfl, rfl⟩, mc_fa, if_neg (by omega), mc_fa, if_neg (by omega), mc_fa, if_neg (by omega), mc_al, u1_ap, if_neg (by omega), c25]
theorem iS_n22 {m : ab_M} (c22 : mc m 22 = 0) (c23 : mc m 23 = 0) (c24 : mc m 24 = 0) (c25 : mc m 25 = 0) : mn (iS m) 22 0 = 8 := by
  have q : mc (al m 37 0 (NF 6)) 22 = 0 := by rw [mc_al, u1_ap, if_neg (by omega), c22]
  unfold iS mSecrets
  rw [mn_sR, mn_fa', if_neg (by omega), mn_fa', if_neg (by omega), mn_fa', if_neg (by omega), mn_fa', q, if_pos ⟨rfl, rfl⟩]
theorem iS_n23 {m : ab_M} (c22 : mc m 22 = 0) (c23 : mc m 23 = 0) (c24 : mc m 24 = 0) (c25 : mc m 25 = 0) : mn (iS m) 23 0 = 8 := by
  have q : mc (fa (al m 37 0 (NF 6)) 37 22 8 1) 23 = 0 := by rw [mc_fa, if_neg (by omega), mc_al, u1_ap, if_neg (by omega), c23]
  unfold iS mSecrets
  rw [mn_sR, mn_fa', if_neg (by omega), mn_fa', if_neg (by omega), mn_fa', q, if_pos ⟨rfl, rfl⟩]
theorem iS_n24 {m : ab_M} (c22 : mc m 22 = 0) (c23 : mc m 23 = 0) (c24 : mc m 24 = 0) (c25 : mc m 25 = 0) : mn (iS m) 24 0 = 8 := by
  have q : mc (fa (fa (al m 37 0 (NF 6)) 37 22 8 1) 37 23 8 2) 24 = 0 := by rw [mc_fa, if_neg (by omega), mc_fa, if_neg (by omega), mc_al, u1_ap, if_neg (by omega), c24]
  unfold iS mSecrets
  rw [mn_sR, mn_fa', if_neg (by omega), mn_fa', q, if_pos ⟨rfl, rfl⟩]
theorem iS_n25 {m : ab_M} (c22 : mc m 22 = 0) (c23 : mc m 23 = 0) (c24 : mc m 24 = 0) (c25 : mc m 25 = 0) : mn (iS m) 25 0 = 8 := by
  have q : mc (fa (fa (fa (al m 37 0 (NF 6)) 37 22 8 1) 37 23 8 2) 37 24 8 3) 25 = 0 := by rw [mc_fa, if_neg (by omega), mc_fa, if_neg (by omega), mc_fa, if_neg (by omega), mc_al, u1_ap, if_neg (by omega), c25]
  unfold iS mSecrets
  rw [mn_sR, mn_fa', q, if_pos ⟨rfl, rfl⟩]
theorem iU_r1 {m : ab_M} (c26 : mc m 26 = 0) (c27 : mc m 27 = 0) (c28 : mc m 28 = 0) (c29 : mc m 29 = 0) (c30 : mc m 30 = 0) (c31 : mc m 31 = 0) (c32 : mc m 32 = 0) (c33 : mc m 33 = 0) (c34 : mc m 34 = 0) : mr (iU m) 38 0 1 = some (26, 0) := by
  unfold iU mUtensils
  rw [mr_sR, u3_ap, if_neg (by omega), mr_fm (by decide) (by decide), if_neg (by omega), mr_fa, if_neg (by omega), if_neg (by omega), mr_fa, if_neg (by omega), if_neg (by omega), mr_fa, if_neg (by omega), if_neg (by omega), mr_fa, if_neg (by omega), if_neg (by omega), mr_fa, if_neg (by omega), if_neg (by omega), mr_fa, if_neg (by omega), if_neg (by omega), mr_fa, if_pos ⟨rfl, rfl, rfl⟩, mc_al, u1_ap, if_neg (by omega), c26]
theorem iU_r2 {m : ab_M} (c26 : mc m 26 = 0) (c27 : mc m 27 = 0) (c28 : mc m 28 = 0) (c29 : mc m 29 = 0) (c30 : mc m 30 = 0) (c31 : mc m 31 = 0) (c32 : mc m 32 = 0) (c33 : mc m 33 = 0) (c34 : mc m 34 = 0) : mr (iU m) 38 0 2 = some (27, 0) := by
  unfold iU mUtensils
  rw [mr_sR, u3_ap, if_neg (by omega), mr_fm (by decide) (by decide), if_neg (by omega), mr_fa, if_neg (by omega), if_neg (by omega), mr_fa, if_neg (by omega), if_neg (by omega), mr_fa, if_neg (by omega), if_neg (by omega), mr_fa, if_neg (by omega), if_neg (by omega), mr_fa, if_neg (by omega), if_neg (by omega), mr_fa, if_pos ⟨rfl, rfl, rfl⟩, mc_fa, if_neg (by omega), mc_al, u1_ap, if_neg (by omega), c27]
theorem iU_r3 {m : ab_M} (c26 : mc m 26 = 0) (c27 : mc m 27 = 0) (c28 : mc m 28 = 0) (c29 : mc m 29 = 0) (c30 : mc m 30 = 0) (c31 : mc m 31 = 0) (c32 : mc m 32 = 0) (c33 : mc m 33 = 0) (c34 : mc m 34 = 0) : mr (iU m) 38 0 3 = some (28, 0) := by
  unfold iU mUtensils
  rw [mr_sR, u3_ap, if_neg (by omega), mr_fm (by decide) (by decide), if_neg (by omega), mr_fa, if_neg (by omega), if_neg (by omega), mr_fa, if_neg (by omega), if_neg (by omega), mr_fa, if_neg (by omega), if_neg (by omega), mr_fa, if_neg (by omega), if_neg (by omega), mr_fa, if_pos ⟨rfl, rfl, rfl⟩, mc_fa, if_neg (by omega), mc_fa, if_neg (by omega), mc_al, u1_ap, if_neg (by omega), c28]
theorem iU_r4 {m : ab_M} (c26 : mc m 26 = 0) (c27 : mc m 27 = 0) (c28 : mc m 28 = 0) (c29 : mc m 29 = 0) (c30 : mc m 30 = 0) (c31 : mc m 31 = 0) (c32 : mc m 32 = 0) (c33 : mc m 33 = 0) (c34 : mc m 34 = 0) : mr (iU m) 38 0 4 = some (29, 0) := by
  unfold iU mUtensils
  rw [mr_sR, u3_ap, if_neg (by omega), mr_fm (by decide) (by decide), if_neg (by omega), mr_fa, if_neg (by omega), if_neg (by omega), mr_fa, if_neg (by omega), if_neg (by omega), mr_fa, if_neg (by omega), if_neg (by omega), mr_fa, if_pos ⟨rfl, rfl, rfl⟩, mc_fa, if_neg (by omega), mc_fa, if_neg (by omega), mc_fa, if_neg (by omega), mc_al, u1_ap, if_neg (by omega), c29]
theorem iU_r5 {m : ab_M} (c26 : mc m 26 = 0) (c27 : mc m 27 = 0) (c28 : mc m 28 = 0) (c29 : mc m 29 = 0) (c30 : mc m 30 = 0) (c31 : mc m 31 = 0) (c32 : mc m 32 = 0) (c33 : mc m 33 = 0) (c34 : mc m 34 = 0) : mr (iU m) 38 0 5 = some (30, 0) := by
  unfold iU mUtensils
  rw [mr_sR, u3_ap, if_neg (by omega), mr_fm (by decide) (by decide), if_neg (by omega), mr_fa, if_neg (by omega), if_neg (by omega), mr_fa, if_neg (by omega), if_neg (by omega), mr_fa, if_pos ⟨rfl, rfl, rfl⟩, mc_fa, if_neg (by omega), mc_fa, if_neg (by omega), mc_fa, if_neg (by omega), mc_fa, if_neg (by omega), mc_al, u1_ap, if_neg (by omega), c30]
theorem iU_r6 {m : ab_M} (c26 : mc m 26 = 0) (c27 : mc m 27 = 0) (c28 : mc m 28 = 0) (c29 : mc m 29 = 0) (c30 : mc m 30 = 0) (c31 : mc m 31 = 0) (c32 : mc m 32 = 0) (c33 : mc m 33 = 0) (c34 : mc m 34 = 0) : mr (iU m) 38 0 6 = some (31, 0) := by
  unfold iU mUtensils
  rw [mr_sR, u3_ap, if_neg (by omega), mr_fm (by decide) (by decide), if_neg (by omega), mr_fa, if_neg (by omega), if_neg (by omega), mr_fa, if_pos ⟨rfl, rfl, rfl⟩, mc_fa, if_neg (by omega), mc_fa, if_neg (by omega), mc_fa, if_neg (by omega), mc_fa, if_neg (by omega), mc_fa, if_neg (by omega), mc_al, u1_ap, if_neg (by omega), c31]
theorem iU_r7 {m : ab_M} (c26 : mc m 26 = 0) (c27 : mc m 27 = 0) (c28 : mc m 28 = 0) (c29 : mc m 29 = 0) (c30 : mc m 30 = 0) (c31 : mc m 31 = 0) (c32 : mc m 32 = 0) (c33 : mc m 33 = 0) (c34 : mc m 34 = 0) : mr (iU m) 38 0 7 = some (32, 0) := by
  unfold iU mUtensils
  rw [mr_sR, u3_ap, if_neg (by omega), mr_fm (by decide) (by decide), if_neg (by omega), mr_fa, if_pos ⟨rfl, rfl, rfl⟩, mc_fa, if_neg (by omega), mc_fa, if_neg (by omega), mc_fa, if_neg (by omega), mc_fa, if_neg (by omega), mc_fa, if_neg (by omega), mc_fa, if_neg (by omega), mc_al, u1_ap, if_neg (by omega), c32]
theorem iU_r8 {m : ab_M} (c26 : mc m 26 = 0) (c27 : mc m 27 = 0) (c28 : mc m 28 = 0) (c29 : mc m 29 = 0) (c30 : mc m 30 = 0) (c31 : mc m 31 = 0) (c32 : mc m 32 = 0) (c33 : mc m 33 = 0) (c34 : mc m 34 = 0) : mr (iU m) 38 0 8 = some (33, 0) := by
  unfold iU mUtensils
  rw [mr_sR, u3_ap, if_neg (by omega), mr_fm (by decide) (by decide), if_pos ⟨rfl, rfl, rfl⟩, mc_fa, if_neg (by omega), mc_fa, if_neg (by omega), mc_fa, if_neg (by omega), mc_fa, if_neg (by omega), mc_fa, if_neg (by omega), mc_fa, if_neg (by omega), mc_fa, if_neg (by omega), mc_al, u1_ap, if_neg (by omega), c33]
theorem iU_n26 {m : ab_M} (c26 : mc m 26 = 0) (c27 : mc m 27 = 0) (c28 : mc m 28 = 0) (c29 : mc m 29 = 0) (c30 : mc m 30 = 0) (c31 : mc m 31 = 0) (c32 : mc m 32 = 0) (c33 : mc m 33 = 0) (c34 : mc m 34 = 0) : mn (iU m) 26 0 = 12 := by
  have q : mc (al m 38 0 (NF 7)) 26 = 0 := by rw [mc_al, u1_ap, if_neg (by omega), c26]
  unfold iU mUtensils
  rw [mn_sR, mn_fm' (by decide), if_neg (by omega), if_neg (by omega), mn_fa', if_neg (by omega), mn_fa', if_neg (by omega), mn_fa', if_neg (by omega), mn_fa', if_neg (by omega), mn_fa', if_neg (by omega), mn_fa', if_neg (by omega), mn_fa', q, if_pos ⟨rfl, rfl⟩]
theorem iU_n27 {m : ab_M} (c26 : mc m 26 = 0) (c27 : mc m 27 = 0) (c28 : mc m 28 = 0) (c29 : mc m 29 = 0) (c30 : mc m 30 = 0) (c31 : mc m 31 = 0) (c32 : mc m 32 = 0) (c33 : mc m 33 = 0) (c34 : mc m 34 = 0) : mn (iU m) 27 0 = 12 := by
  have q : mc (fa (al m 38 0 (NF 7)) 38 26 12 1) 27 = 0 := by rw [mc_fa, if_neg (by omega), mc_al, u1_ap, if_neg (by omega), c27]
  unfold iU mUtensils
  rw [mn_sR, mn_fm' (by decide), if_neg (by omega), if_neg (by omega), mn_fa', if_neg (by omega), mn_fa', if_neg (by omega), mn_fa', if_neg (by omega), mn_fa', if_neg (by omega), mn_fa', if_neg (by omega), mn_fa', q, if_pos ⟨rfl, rfl⟩]
theorem iU_n28 {m : ab_M} (c26 : mc m 26 = 0) (c27 : mc m 27 = 0) (c28 : mc m 28 = 0) (c29 : mc m 29 = 0) (c30 : mc m 30 = 0) (c31 : mc m 31 = 0) (c32 : mc m 32 = 0) (c33 : mc m 33 = 0) (c34 : mc m 34 = 0) : mn (iU m) 28 0 = 12 := by
  have q : mc (fa (fa (al m 38 0 (NF 7)) 38 26 12 1) 38 27 12 2) 28 = 0 := by rw [mc_fa, if_neg (by omega), mc_fa, if_neg (by omega), mc_al, u1_ap, if_neg (by omega), c28]
  unfold iU mUtensils
  rw [mn_sR, mn_fm' (by decide), if_neg (by omega), if_neg (by omega), mn_fa', if_neg (by omega), mn_fa', if_neg (by omega), mn_fa', if_neg (by omega), mn_fa', if_neg (by omega), mn_fa', q, if_pos ⟨rfl, rfl⟩]
theorem iU_n29 {m : ab_M} (c26 : mc m 26 = 0) (c27 : mc m 27 = 0) (c28 : mc m 28 = 0) (c29 : mc m 29 = 0) (c30 : mc m 30 = 0) (c31 : mc m 31 = 0) (c32 : mc m 32 = 0) (c33 : mc m 33 = 0) (c34 : mc m 34 = 0) : mn (iU m) 29 0 = 12 := by
  have q : mc (fa (fa (fa (al m 38 0 (NF 7)) 38 26 12 1) 38 27 12 2) 38 28 12 3) 29 = 0 := by rw [mc_fa, if_neg (by omega), mc_fa, if_neg (by omega), mc_fa, if_neg (by omega), mc_al, u1_ap, if_neg (by omega), c29]
  unfold iU mUtensils
  rw [mn_sR, mn_fm' (by decide), if_neg (by omega), if_neg (by omega), mn_fa', if_neg (by omega), mn_fa', if_neg (by omega), mn_fa', if_neg (by omega), mn_fa', q, if_pos ⟨rfl, rfl⟩]
theorem iU_n30 {m : ab_M} (c26 : mc m 26 = 0) (c27 : mc m 27 = 0) (c28 : mc m 28 = 0) (c29 : mc m 29 = 0) (c30 : mc m 30 = 0) (c31 : mc m 31 = 0) (c32 : mc m 32 = 0) (c33 : mc m 33 = 0) (c34 : mc m 34 = 0) : mn (iU m) 30 0 = 12 := by
  have q : mc (fa (fa (fa (fa (al m 38 0 (NF 7)) 38 26 12 1) 38 27 12 2) 38 28 12 3) 38 29 12 4) 30 = 0 := by rw [mc_fa, if_neg (by omega), mc_fa, if_neg (by omega), mc_fa, if_neg (by omega), mc_fa, if_neg (by omega), mc_al, u1_ap, if_neg (by omega), c30]
  unfold iU mUtensils
  rw [mn_sR, mn_fm' (by decide), if_neg (by omega), if_neg (by omega), mn_fa', if_neg (by omega), mn_fa', if_neg (by omega), mn_fa', q, if_pos ⟨rfl, rfl⟩]
theorem iU_n31 {m : ab_M} (c26 : mc m 26 = 0) (c27 : mc m 27 = 0) (c28 : mc m 28 = 0) (c29 : mc m 29 = 0) (c30 : mc m 30 = 0) (c31 : mc m 31 = 0) (c32 : mc m 32 = 0) (c33 : mc m 33 = 0) (c34 : mc m 34 = 0) : mn (iU m) 31 0 = 12 := by
  have q : mc (fa (fa (fa (fa (fa (al m 38 0 (NF 7)) 38 26 12 1) 38 27 12 2) 38 28 12 3) 38 29 12 4) 38 30 12 5) 31 = 0 := by rw [mc_fa, if_neg (by omega), mc_fa, if_neg (by omega), mc_fa, if_neg (by omega), mc_fa, if_neg (by omega), mc_fa, if_neg (by omega), mc_al, u1_ap, if_neg (by omega), c31]
  unfold iU mUtensils
  rw [mn_sR, mn_fm' (by decide), if_neg (by omega), if_neg (by omega), mn_fa', if_neg (by omega), mn_fa', q, if_pos ⟨rfl, rfl⟩]
theorem iU_n32 {m : ab_M} (c26 : mc m 26 = 0) (c27 : mc m 27 = 0) (c28 : mc m 28 = 0) (c29 : mc m 29 = 0) (c30 : mc m 30 = 0) (c31 : mc m 31 = 0) (c32 : mc m 32 = 0) (c33 : mc m 33 = 0) (c34 : mc m 34 = 0) : mn (iU m) 32 0 = 12 := by
  have q : mc (fa (fa (fa (fa (fa (fa (al m 38 0 (NF 7)) 38 26 12 1) 38 27 12 2) 38 28 12 3) 38 29 12 4) 38 30 12 5) 38 31 12 6) 32 = 0 := by rw [mc_fa, if_neg (by omega), mc_fa, if_neg (by omega), mc_fa, if_neg (by omega), mc_fa, if_neg (by omega), mc_fa, if_neg (by omega), mc_fa, if_neg (by omega), mc_al, u1_ap, if_neg (by omega), c32]
  unfold iU mUtensils
  rw [mn_sR, mn_fm' (by decide), if_neg (by omega), if_neg (by omega), mn_fa', q, if_pos ⟨rfl, rfl⟩]
theorem iU_n33 {m : ab_M} (c26 : mc m 26 = 0) (c27 : mc m 27 = 0) (c28 : mc m 28 = 0) (c29 : mc m 29 = 0) (c30 : mc m 30 = 0) (c31 : mc m 31 = 0) (c32 : mc m 32 = 0) (c33 : mc m 33 = 0) (c34 : mc m 34 = 0) : mn (iU m) 33 0 = 12 := by
  have q : mc (fa (fa (fa (fa (fa (fa (fa (al m 38 0 (NF 7)) 38 26 12 1) 38 27 12 2) 38 28 12 3) 38 29 12 4) 38 30 12 5) 38 31 12 6) 38 32 12 7) 33 = 0 := by rw [mc_fa, if_neg (by omega), mc_fa, if_neg (by omega), mc_fa, if_neg (by omega), mc_fa, if_neg (by omega), mc_fa, if_neg (by omega), mc_fa, if_neg (by omega), mc_fa, if_neg (by omega), mc_al, u1_ap, if_neg (by omega), c33]
  unfold iU mUtensils
  rw [mn_sR, mn_fm' (by decide), q, if_pos ⟨rfl, rfl⟩]
theorem iU_m33 {m : ab_M} (c26 : mc m 26 = 0) (c27 : mc m 27 = 0) (c28 : mc m 28 = 0) (c29 : mc m 29 = 0) (c30 : mc m 30 = 0) (c31 : mc m 31 = 0) (c32 : mc m 32 = 0) (c33 : mc m 33 = 0) (c34 : mc m 34 = 0) {i : Nat} (hi : i < 12) : mr (iU m) 33 0 i = some (34, i) ∧ mn (iU m) 34 i = 12 := by
  have q1 : mc (fa (fa (fa (fa (fa (fa (fa (al m 38 0 (NF 7)) 38 26 12 1) 38 27 12 2) 38 28 12 3) 38 29 12 4) 38 30 12 5) 38 31 12 6) 38 32 12 7) 33 = 0 := by rw [mc_fa, if_neg (by omega), mc_fa, if_neg (by omega), mc_fa, if_neg (by omega), mc_fa, if_neg (by omega), mc_fa, if_neg (by omega), mc_fa, if_neg (by omega), mc_fa, if_neg (by omega), mc_al, u1_ap, if_neg (by omega), c33]
  have q2 : mc (fa (fa (fa (fa (fa (fa (fa (al m 38 0 (NF 7)) 38 26 12 1) 38 27 12 2) 38 28 12 3) 38 29 12 4) 38 30 12 5) 38 31 12 6) 38 32 12 7) 34 = 0 := by rw [mc_fa, if_neg (by omega), mc_fa, if_neg (by omega), mc_fa, if_neg (by omega), mc_fa, if_neg (by omega), mc_fa, if_neg (by omega), mc_fa, if_neg (by omega), mc_fa, if_neg (by omega), mc_al, u1_ap, if_neg (by omega), c34]
  unfold iU mUtensils
  generalize (fa (fa (fa (fa (fa (fa (fa (al m 38 0 (NF 7)) 38 26 12 1) 38 27 12 2) 38 28 12 3) 38 29 12 4) 38 30 12 5) 38 31 12 6) 38 32 12 7) = X9 at *
  have h1 := mr_fmT (m := X9) (o := 38) (t := 33) (s := 34) (b := 12) (k := 8) (z := i) (by decide) (by decide) hi
  rw [q1, q2, Nat.zero_add] at h1
  have h2 : mn (fm X9 38 33 34 12 8) 34 i = 12 := by rw [mn_fm' (by decide), if_neg (by omega), if_pos (by omega)]
  constructor
  · rw [mr_sR, u3_ap, if_neg (by omega)]; exact h1
  · rw [mn_sR]; exact h2
theorem iF_r1 {m : ab_M} (c2 : mc m 2 = 0) : mr (iF m) 39 0 1 = some (2, 0) := by
  unfold iF mFalling
  rw [mr_sR, u3_ap, if_neg (by omega), mr_sR, u3_ap, if_neg (by omega), mr_fa, if_pos ⟨rfl, rfl, rfl⟩, mc_al, u1_ap, if_neg (by omega), c2]
theorem iF_r0 {m : ab_M} (c2 : mc m 2 = 0) : mr (iF m) 39 0 0 = some (35, 0) := by
  unfold iF mFalling
  rw [mr_sR, u3_ap, if_neg (by omega), mr_sR, u3_ap, if_pos ⟨rfl, rfl, rfl⟩]
theorem iF_n2 {m : ab_M} (c2 : mc m 2 = 0) : mn (iF m) 2 0 = 12 := by
  have q : mc (al m 39 0 (NF 2)) 2 = 0 := by rw [mc_al, u1_ap, if_neg (by omega), c2]
  unfold iF mFalling
  rw [mn_sR, mn_sR, mn_fa', q, if_pos ⟨rfl, rfl⟩]
theorem iL_r0 {m : ab_M} (c18 : mc m 18 = 0) (c19 : mc m 19 = 0) (c20 : mc m 20 = 0) (c21 : mc m 21 = 0) : mr (iL m) 40 0 0 = some (18, 0) := by
  unfold iL mPlanner
  rw [mr_sR, u3_ap, if_neg (by omega), mr_sR, u3_ap, if_neg (by omega), mr_sR, u3_ap, if_neg (by omega), mr_fa, if_neg (by omega), if_neg (by omega), mr_fa, if_neg (by omega), if_neg (by omega), mr_fa, if_neg (by omega), if_neg (by omega), mr_fa, if_pos ⟨rfl, rfl, rfl⟩, mc_al, u1_ap, if_neg (by omega), c18]
theorem iL_r3 {m : ab_M} (c18 : mc m 18 = 0) (c19 : mc m 19 = 0) (c20 : mc m 20 = 0) (c21 : mc m 21 = 0) : mr (iL m) 40 0 3 = some (19, 0) := by
  unfold iL mPlanner
  rw [mr_sR, u3_ap, if_neg (by omega), mr_sR, u3_ap, if_neg (by omega), mr_sR, u3_ap, if_neg (by omega), mr_fa, if_neg (by omega), if_neg (by omega), mr_fa, if_neg (by omega), if_neg (by omega), mr_fa, if_pos ⟨rfl, rfl, rfl⟩, mc_fa, if_neg (by omega), mc_al, u1_ap, if_neg (by omega), c19]
theorem iL_r4 {m : ab_M} (c18 : mc m 18 = 0) (c19 : mc m 19 = 0) (c20 : mc m 20 = 0) (c21 : mc m 21 = 0) : mr (iL m) 40 0 4 = some (20, 0) := by
  unfold iL mPlanner
  rw [mr_sR, u3_ap, if_neg (by omega), mr_sR, u3_ap, if_neg (by omega), mr_sR, u3_ap, if_neg (by omega), mr_fa, if_neg (by omega), if_neg (by omega), mr_fa, if_pos ⟨rfl, rfl, rfl⟩, mc_fa, if_neg (by omega), mc_fa, if_neg (by omega), mc_al, u1_ap, if_neg (by omega), c20]
theorem iL_r5 {m : ab_M} (c18 : mc m 18 = 0) (c19 : mc m 19 = 0) (c20 : mc m 20 = 0) (c21 : mc m 21 = 0) : mr (iL m) 40 0 5 = some (21, 0) := by
  unfold iL mPlanner
  rw [mr_sR, u3_ap, if_neg (by omega), mr_sR, u3_ap, if_neg (by omega), mr_sR, u3_ap, if_neg (by omega), mr_fa, if_pos ⟨rfl, rfl, rfl⟩, mc_fa, if_neg (by omega), mc_fa, if_neg (by omega), mc_fa, if_neg (by omega), mc_al, u1_ap, if_neg (by omega), c21]
theorem iL_r1 {m : ab_M} (c18 : mc m 18 = 0) (c19 : mc m 19 = 0) (c20 : mc m 20 = 0) (c21 : mc m 21 = 0) : mr (iL m) 40 0 1 = some (35, 0) := by
  unfold iL mPlanner
  rw [mr_sR, u3_ap, if_neg (by omega), mr_sR, u3_ap, if_neg (by omega), mr_sR, u3_ap, if_pos ⟨rfl, rfl, rfl⟩]
theorem iL_r2 {m : ab_M} (c18 : mc m 18 = 0) (c19 : mc m 19 = 0) (c20 : mc m 20 = 0) (c21 : mc m 21 = 0) : mr (iL m) 40 0 2 = some (38, 0) := by
  unfold iL mPlanner
  rw [mr_sR, u3_ap, if_neg (by omega), mr_sR, u3_ap, if_pos ⟨rfl, rfl, rfl⟩]
theorem iL_n18 {m : ab_M} (c18 : mc m 18 = 0) (c19 : mc m 19 = 0) (c20 : mc m 20 = 0) (c21 : mc m 21 = 0) : mn (iL m) 18 0 = 4 := by
  have q : mc (al m 40 0 (NF 5)) 18 = 0 := by rw [mc_al, u1_ap, if_neg (by omega), c18]
  unfold iL mPlanner
  rw [mn_sR, mn_sR, mn_sR, mn_fa', if_neg (by omega), mn_fa', if_neg (by omega), mn_fa', if_neg (by omega), mn_fa', q, if_pos ⟨rfl, rfl⟩]
theorem iL_n19 {m : ab_M} (c18 : mc m 18 = 0) (c19 : mc m 19 = 0) (c20 : mc m 20 = 0) (c21 : mc m 21 = 0) : mn (iL m) 19 0 = 4 := by
  have q : mc (fa (al m 40 0 (NF 5)) 40 18 4 0) 19 = 0 := by rw [mc_fa, if_neg (by omega), mc_al, u1_ap, if_neg (by omega), c19]
  unfold iL mPlanner
  rw [mn_sR, mn_sR, mn_sR, mn_fa', if_neg (by omega), mn_fa', if_neg (by omega), mn_fa', q, if_pos ⟨rfl, rfl⟩]
theorem iL_n20 {m : ab_M} (c18 : mc m 18 = 0) (c19 : mc m 19 = 0) (c20 : mc m 20 = 0) (c21 : mc m 21 = 0) : mn (iL m) 20 0 = 12 := by
  have q : mc (fa (fa (al m 40 0 (NF 5)) 40 18 4 0) 40 19 4 3) 20 = 0 := by rw [mc_fa, if_neg (by omega), mc_fa, if_neg (by omega), mc_al, u1_ap, if_neg (by omega), c20]
  unfold iL mPlanner
  rw [mn_sR, mn_sR, mn_sR, mn_fa', if_neg (by omega), mn_fa', q, if_pos ⟨rfl, rfl⟩]
theorem iL_n21 {m : ab_M} (c18 : mc m 18 = 0) (c19 : mc m 19 = 0) (c20 : mc m 20 = 0) (c21 : mc m 21 = 0) : mn (iL m) 21 0 = 12 := by
  have q : mc (fa (fa (fa (al m 40 0 (NF 5)) 40 18 4 0) 40 19 4 3) 40 20 12 4) 21 = 0 := by rw [mc_fa, if_neg (by omega), mc_fa, if_neg (by omega), mc_fa, if_neg (by omega), mc_al, u1_ap, if_neg (by omega), c21]
  unfold iL mPlanner
  rw [mn_sR, mn_sR, mn_sR, mn_fa', q, if_pos ⟨rfl, rfl⟩]
theorem FS.wk {S S' : Nat → Bool} {m m' : ab_M} (h : FS S m m') (hs : ∀ s, S' s = false → S s = false) : FS S' m m' := fun s q => h s (hs s q)
theorem FS_ofP {m : ab_M} : FS (fun s => SH6 s || SS6 s || SU6 s || SF6 s || SL6 s) (iP m) (mHall m) := (((((FS_iH.wk (fun s q => by simp only [Bool.or_eq_false_iff] at q; simp only [q])).trans (FS_iS.wk (fun s q => by simp only [Bool.or_eq_false_iff] at q; simp only [q]))).trans (FS_iU.wk (fun s q => by simp only [Bool.or_eq_false_iff] at q; simp only [q]))).trans (FS_iF.wk (fun s q => by simp only [Bool.or_eq_false_iff] at q; simp only [q]))).trans (FS_iL.wk (fun s q => by simp only [Bool.or_eq_false_iff] at q; simp only [q])))
theorem FS_ofH {m : ab_M} : FS (fun s => SS6 s || SU6 s || SF6 s || SL6 s) (iH (iP m)) (mHall m) := ((((FS_iS.wk (fun s q => by simp only [Bool.or_eq_false_iff] at q; simp only [q])).trans (FS_iU.wk (fun s q => by simp only [Bool.or_eq_false_iff] at q; simp only [q]))).trans (FS_iF.wk (fun s q => by simp only [Bool.or_eq_false_iff] at q; simp only [q]))).trans (FS_iL.wk (fun s q => by simp only [Bool.or_eq_false_iff] at q; simp only [q])))
theorem FS_ofS {m : ab_M} : FS (fun s => SU6 s || SF6 s || SL6 s) (iS (iH (iP m))) (mHall m) := (((FS_iU.wk (fun s q => by simp only [Bool.or_eq_false_iff] at q; simp only [q])).trans (FS_iF.wk (fun s q => by simp only [Bool.or_eq_false_iff] at q; simp only [q]))).trans (FS_iL.wk (fun s q => by simp only [Bool.or_eq_false_iff] at q; simp only [q])))
theorem FS_ofU {m : ab_M} : FS (fun s => SF6 s || SL6 s) (iU (iS (iH (iP m)))) (mHall m) := ((FS_iF.wk (fun s q => by simp only [Bool.or_eq_false_iff] at q; simp only [q])).trans (FS_iL.wk (fun s q => by simp only [Bool.or_eq_false_iff] at q; simp only [q])))
theorem FS_ofF {m : ab_M} : FS (fun s => SL6 s) (iF (iU (iS (iH (iP m))))) (mHall m) := FS_iL
theorem CR_hall {m : ab_M} (hz : ∀ x, 2 ≤ x → x ≤ 40 → mc m x = 0) : CR (mHall m) := by
  have c5 : mc m 5 = 0 := hz 5 (by decide) (by decide)
  have c6 : mc m 6 = 0 := hz 6 (by decide) (by decide)
  have c7 : mc m 7 = 0 := hz 7 (by decide) (by decide)
  have c8 : mc m 8 = 0 := hz 8 (by decide) (by decide)
  have c9 : mc m 9 = 0 := hz 9 (by decide) (by decide)
  have c10 : mc m 10 = 0 := hz 10 (by decide) (by decide)
  have c11 : mc m 11 = 0 := hz 11 (by decide) (by decide)
  have c12 : mc m 12 = 0 := hz 12 (by decide) (by decide)
  have c13 : mc m 13 = 0 := hz 13 (by decide) (by decide)
  have c14 : mc m 14 = 0 := hz 14 (by decide) (by decide)
  have c15 : mc m 15 = 0 := hz 15 (by decide) (by decide)
  have c16 : mc m 16 = 0 := hz 16 (by decide) (by decide)
  have c17 : mc m 17 = 0 := hz 17 (by decide) (by decide)
  have c3 : mc (iP m) 3 = 0 := ((FS_iP (m := m) 3 rfl).2.2.trans (hz 3 (by decide) (by decide)))
  have c4 : mc (iP m) 4 = 0 := ((FS_iP (m := m) 4 rfl).2.2.trans (hz 4 (by decide) (by decide)))
  have c22 : mc (iH (iP m)) 22 = 0 := ((FS_iH (m := (iP m)) 22 rfl).2.2.trans (((FS_iP (m := m) 22 rfl).2.2.trans (hz 22 (by decide) (by decide)))))
  have c23 : mc (iH (iP m)) 23 = 0 := ((FS_iH (m := (iP m)) 23 rfl).2.2.trans (((FS_iP (m := m) 23 rfl).2.2.trans (hz 23 (by decide) (by decide)))))
  have c24 : mc (iH (iP m)) 24 = 0 := ((FS_iH (m := (iP m)) 24 rfl).2.2.trans (((FS_iP (m := m) 24 rfl).2.2.trans (hz 24 (by decide) (by decide)))))
  have c25 : mc (iH (iP m)) 25 = 0 := ((FS_iH (m := (iP m)) 25 rfl).2.2.trans (((FS_iP (m := m) 25 rfl).2.2.trans (hz 25 (by decide) (by decide)))))
  have c26 : mc (iS (iH (iP m))) 26 = 0 := ((FS_iS (m := (iH (iP m))) 26 rfl).2.2.trans (((FS_iH (m := (iP m)) 26 rfl).2.2.trans (((FS_iP (m := m) 26 rfl).2.2.trans (hz 26 (by decide) (by decide)))))))
  have c27 : mc (iS (iH (iP m))) 27 = 0 := ((FS_iS (m := (iH (iP m))) 27 rfl).2.2.trans (((FS_iH (m := (iP m)) 27 rfl).2.2.trans (((FS_iP (m := m) 27 rfl).2.2.trans (hz 27 (by decide) (by decide)))))))
  have c28 : mc (iS (iH (iP m))) 28 = 0 := ((FS_iS (m := (iH (iP m))) 28 rfl).2.2.trans (((FS_iH (m := (iP m)) 28 rfl).2.2.trans (((FS_iP (m := m) 28 rfl).2.2.trans (hz 28 (by decide) (by decide)))))))
  have c29 : mc (iS (iH (iP m))) 29 = 0 := ((FS_iS (m := (iH (iP m))) 29 rfl).2.2.trans (((FS_iH (m := (iP m)) 29 rfl).2.2.trans (((FS_iP (m := m) 29 rfl).2.2.trans (hz 29 (by decide) (by decide)))))))
  have c30 : mc (iS (iH (iP m))) 30 = 0 := ((FS_iS (m := (iH (iP m))) 30 rfl).2.2.trans (((FS_iH (m := (iP m)) 30 rfl).2.2.trans (((FS_iP (m := m) 30 rfl).2.2.trans (hz 30 (by decide) (by decide)))))))
  have c31 : mc (iS (iH (iP m))) 31 = 0 := ((FS_iS (m := (iH (iP m))) 31 rfl).2.2.trans (((FS_iH (m := (iP m)) 31 rfl).2.2.trans (((FS_iP (m := m) 31 rfl).2.2.trans (hz 31 (by decide) (by decide)))))))
  have c32 : mc (iS (iH (iP m))) 32 = 0 := ((FS_iS (m := (iH (iP m))) 32 rfl).2.2.trans (((FS_iH (m := (iP m)) 32 rfl).2.2.trans (((FS_iP (m := m) 32 rfl).2.2.trans (hz 32 (by decide) (by decide)))))))
  have c33 : mc (iS (iH (iP m))) 33 = 0 := ((FS_iS (m := (iH (iP m))) 33 rfl).2.2.trans (((FS_iH (m := (iP m)) 33 rfl).2.2.trans (((FS_iP (m := m) 33 rfl).2.2.trans (hz 33 (by decide) (by decide)))))))
  have c34 : mc (iS (iH (iP m))) 34 = 0 := ((FS_iS (m := (iH (iP m))) 34 rfl).2.2.trans (((FS_iH (m := (iP m)) 34 rfl).2.2.trans (((FS_iP (m := m) 34 rfl).2.2.trans (hz 34 (by decide) (by decide)))))))
  have c2 : mc (iU (iS (iH (iP m)))) 2 = 0 := ((FS_iU (m := (iS (iH (iP m)))) 2 rfl).2.2.trans (((FS_iS (m := (iH (iP m))) 2 rfl).2.2.trans (((FS_iH (m := (iP m)) 2 rfl).2.2.trans (((FS_iP (m := m) 2 rfl).2.2.trans (hz 2 (by decide) (by decide)))))))))
  have c18 : mc (iF (iU (iS (iH (iP m))))) 18 = 0 := ((FS_iF (m := (iU (iS (iH (iP m))))) 18 rfl).2.2.trans (((FS_iU (m := (iS (iH (iP m)))) 18 rfl).2.2.trans (((FS_iS (m := (iH (iP m))) 18 rfl).2.2.trans (((FS_iH (m := (iP m)) 18 rfl).2.2.trans (((FS_iP (m := m) 18 rfl).2.2.trans (hz 18 (by decide) (by decide)))))))))))
  have c19 : mc (iF (iU (iS (iH (iP m))))) 19 = 0 := ((FS_iF (m := (iU (iS (iH (iP m))))) 19 rfl).2.2.trans (((FS_iU (m := (iS (iH (iP m)))) 19 rfl).2.2.trans (((FS_iS (m := (iH (iP m))) 19 rfl).2.2.trans (((FS_iH (m := (iP m)) 19 rfl).2.2.trans (((FS_iP (m := m) 19 rfl).2.2.trans (hz 19 (by decide) (by decide)))))))))))
  have c20 : mc (iF (iU (iS (iH (iP m))))) 20 = 0 := ((FS_iF (m := (iU (iS (iH (iP m))))) 20 rfl).2.2.trans (((FS_iU (m := (iS (iH (iP m)))) 20 rfl).2.2.trans (((FS_iS (m := (iH (iP m))) 20 rfl).2.2.trans (((FS_iH (m := (iP m)) 20 rfl).2.2.trans (((FS_iP (m := m) 20 rfl).2.2.trans (hz 20 (by decide) (by decide)))))))))))
  have c21 : mc (iF (iU (iS (iH (iP m))))) 21 = 0 := ((FS_iF (m := (iU (iS (iH (iP m))))) 21 rfl).2.2.trans (((FS_iU (m := (iS (iH (iP m)))) 21 rfl).2.2.trans (((FS_iS (m := (iH (iP m))) 21 rfl).2.2.trans (((FS_iH (m := (iP m)) 21 rfl).2.2.trans (((FS_iP (m := m) 21 rfl).2.2.trans (hz 21 (by decide) (by decide)))))))))))
  have h61_0 : mr (mHall m) 61 0 0 = some (35, 0) := by
    unfold mHall
    rw [iL_mr, if_neg (by decide)]
    rw [iF_mr, if_neg (by decide)]
    rw [iU_mr, if_neg (by decide)]
    rw [iS_mr, if_neg (by decide)]
    rw [iH_mr, if_neg (by decide)]
    rw [iP_mr, if_pos rfl]
  have h61_1 : mr (mHall m) 61 0 1 = some (36, 0) := by
    unfold mHall
    rw [iL_mr, if_neg (by decide)]
    rw [iF_mr, if_neg (by decide)]
    rw [iU_mr, if_neg (by decide)]
    rw [iS_mr, if_neg (by decide)]
    rw [iH_mr, if_pos rfl]
  have h61_2 : mr (mHall m) 61 0 2 = some (37, 0) := by
    unfold mHall
    rw [iL_mr, if_neg (by decide)]
    rw [iF_mr, if_neg (by decide)]
    rw [iU_mr, if_neg (by decide)]
    rw [iS_mr, if_pos rfl]
  have h61_3 : mr (mHall m) 61 0 3 = some (38, 0) := by
    unfold mHall
    rw [iL_mr, if_neg (by decide)]
    rw [iF_mr, if_neg (by decide)]
    rw [iU_mr, if_pos rfl]
  have h61_4 : mr (mHall m) 61 0 4 = some (39, 0) := by
    unfold mHall
    rw [iL_mr, if_neg (by decide)]
    rw [iF_mr, if_pos rfl]
  have h61_5 : mr (mHall m) 61 0 5 = some (40, 0) := by
    unfold mHall
    rw [iL_mr, if_pos rfl]
  refine ⟨List.forall_mem_cons.mpr ⟨h61_0, List.forall_mem_cons.mpr ⟨h61_1, List.forall_mem_cons.mpr ⟨h61_2, List.forall_mem_cons.mpr ⟨h61_3, List.forall_mem_cons.mpr ⟨h61_4, List.forall_mem_cons.mpr ⟨h61_5, List.forall_mem_cons.mpr ⟨((congrFun (congrFun (FS_ofP (m := m) 35 rfl).1 0) _).trans (iP_r1 c5 c6 c7 c8 c9 c10 c11 c12 c13 c14 c15 c16 c17)), List.forall_mem_cons.mpr ⟨((congrFun (congrFun (FS_ofP (m := m) 35 rfl).1 0) _).trans (iP_r2 c5 c6 c7 c8 c9 c10 c11 c12 c13 c14 c15 c16 c17)), List.forall_mem_cons.mpr ⟨((congrFun (congrFun (FS_ofP (m := m) 35 rfl).1 0) _).trans (iP_r3 c5 c6 c7 c8 c9 c10 c11 c12 c13 c14 c15 c16 c17)), List.forall_mem_cons.mpr ⟨((congrFun (congrFun (FS_ofP (m := m) 35 rfl).1 0) _).trans (iP_r4 c5 c6 c7 c8 c9 c10 c11 c12 c13 c14 c15 c16 c17)), List.forall_mem_cons.mpr ⟨((congrFun (congrFun (FS_ofP (m := m) 35 rfl).1 0) _).trans (iP_r5 c5 c6 c7 c8 c9 c10 c11 c12 c13 c14 c15 c16 c17)), List.forall_mem_cons.mpr ⟨((congrFun (congrFun (FS_ofP (m := m) 35 rfl).1 0) _).trans (iP_r6 c5 c6 c7 c8 c9 c10 c11 c12 c13 c14 c15 c16 c17)), List.forall_mem_cons.mpr ⟨((congrFun (congrFun (FS_ofP (m := m) 35 rfl).1 0) _).trans (iP_r7 c5 c6 c7 c8 c9 c10 c11 c12 c13 c14 c15 c16 c17)), List.forall_mem_cons.mpr ⟨((congrFun (congrFun (FS_ofP (m := m) 35 rfl).1 0) _).trans (iP_r8 c5 c6 c7 c8 c9 c10 c11 c12 c13 c14 c15 c16 c17)), List.forall_mem_cons.mpr ⟨((congrFun (congrFun (FS_ofP (m := m) 35 rfl).1 0) _).trans (iP_r9 c5 c6 c7 c8 c9 c10 c11 c12 c13 c14 c15 c16 c17)), List.forall_mem_cons.mpr ⟨((congrFun (congrFun (FS_ofP (m := m) 35 rfl).1 0) _).trans (iP_r10 c5 c6 c7 c8 c9 c10 c11 c12 c13 c14 c15 c16 c17)), List.forall_mem_cons.mpr ⟨((congrFun (congrFun (FS_ofP (m := m) 35 rfl).1 0) _).trans (iP_r11 c5 c6 c7 c8 c9 c10 c11 c12 c13 c14 c15 c16 c17)), List.forall_mem_cons.mpr ⟨((congrFun (congrFun (FS_ofH (m := m) 36 rfl).1 0) _).trans (iH_r1 c3 c4)), List.forall_mem_cons.mpr ⟨((congrFun (congrFun (FS_ofH (m := m) 36 rfl).1 0) _).trans (iH_r2 c3 c4)), List.forall_mem_cons.mpr ⟨((congrFun (congrFun (FS_ofS (m := m) 37 rfl).1 0) _).trans (iS_r1 c22 c23 c24 c25)), List.forall_mem_cons.mpr ⟨((congrFun (congrFun (FS_ofS (m := m) 37 rfl).1 0) _).trans (iS_r2 c22 c23 c24 c25)), List.forall_mem_cons.mpr ⟨((congrFun (congrFun (FS_ofS (m := m) 37 rfl).1 0) _).trans (iS_r3 c22 c23 c24 c25)), List.forall_mem_cons.mpr ⟨((congrFun (congrFun (FS_ofS (m := m) 37 rfl).1 0) _).trans (iS_r4 c22 c23 c24 c25)), List.forall_mem_cons.mpr ⟨((congrFun (congrFun (FS_ofU (m := m) 38 rfl).1 0) _).trans (iU_r1 c26 c27 c28 c29 c30 c31 c32 c33 c34)), List.forall_mem_cons.mpr ⟨((congrFun (congrFun (FS_ofU (m := m) 38 rfl).1 0) _).trans (iU_r2 c26 c27 c28 c29 c30 c31 c32 c33 c34)), List.forall_mem_cons.mpr ⟨((congrFun (congrFun (FS_ofU (m := m) 38 rfl).1 0) _).trans (iU_r3 c26 c27 c28 c29 c30 c31 c32 c33 c34)), List.forall_mem_cons.mpr ⟨((congrFun (congrFun (FS_ofU (m := m) 38 rfl).1 0) _).trans (iU_r4 c26 c27 c28 c29 c30 c31 c32 c33 c34)), List.forall_mem_cons.mpr ⟨((congrFun (congrFun (FS_ofU (m := m) 38 rfl).1 0) _).trans (iU_r5 c26 c27 c28 c29 c30 c31 c32 c33 c34)), List.forall_mem_cons.mpr ⟨((congrFun (congrFun (FS_ofU (m := m) 38 rfl).1 0) _).trans (iU_r6 c26 c27 c28 c29 c30 c31 c32 c33 c34)), List.forall_mem_cons.mpr ⟨((congrFun (congrFun (FS_ofU (m := m) 38 rfl).1 0) _).trans (iU_r7 c26 c27 c28 c29 c30 c31 c32 c33 c34)), List.forall_mem_cons.mpr ⟨((congrFun (congrFun (FS_ofU (m := m) 38 rfl).1 0) _).trans (iU_r8 c26 c27 c28 c29 c30 c31 c32 c33 c34)), List.forall_mem_cons.mpr ⟨((congrFun (congrFun (FS_ofF (m := m) 39 rfl).1 0) _).trans (iF_r0 c2)), List.forall_mem_cons.mpr ⟨((congrFun (congrFun (FS_ofF (m := m) 39 rfl).1 0) _).trans (iF_r1 c2)), List.forall_mem_cons.mpr ⟨(iL_r0 c18 c19 c20 c21), List.forall_mem_cons.mpr ⟨(iL_r1 c18 c19 c20 c21), List.forall_mem_cons.mpr ⟨(iL_r2 c18 c19 c20 c21), List.forall_mem_cons.mpr ⟨(iL_r3 c18 c19 c20 c21), List.forall_mem_cons.mpr ⟨(iL_r4 c18 c19 c20 c21), List.forall_mem_cons.mpr ⟨(iL_r5 c18 c19 c20 c21), fun _ h => nomatch h⟩⟩⟩⟩⟩⟩⟩⟩⟩⟩⟩⟩⟩⟩⟩⟩⟩⟩⟩⟩⟩⟩⟩⟩⟩⟩⟩⟩⟩⟩⟩⟩⟩⟩⟩⟩⟩⟩⟩, List.forall_mem_cons.mpr ⟨((congrFun (FS_ofF (m := m) 2 rfl).2.1 0).trans (iF_n2 c2)), List.forall_mem_cons.mpr ⟨((congrFun (FS_ofH (m := m) 3 rfl).2.1 0).trans (iH_n3 c3 c4)), List.forall_mem_cons.mpr ⟨((congrFun (FS_ofH (m := m) 4 rfl).2.1 0).trans (iH_n4 c3 c4)), List.forall_mem_cons.mpr ⟨((congrFun (FS_ofP (m := m) 14 rfl).2.1 0).trans (iP_n14 c5 c6 c7 c8 c9 c10 c11 c12 c13 c14 c15 c16 c17)), List.forall_mem_cons.mpr ⟨((congrFun (FS_ofP (m := m) 16 rfl).2.1 0).trans (iP_n16 c5 c6 c7 c8 c9 c10 c11 c12 c13 c14 c15 c16 c17)), List.forall_mem_cons.mpr ⟨(iL_n18 c18 c19 c20 c21), List.forall_mem_cons.mpr ⟨(iL_n19 c18 c19 c20 c21), List.forall_mem_cons.mpr ⟨(iL_n20 c18 c19 c20 c21), List.forall_mem_cons.mpr ⟨(iL_n21 c18 c19 c20 c21), List.forall_mem_cons.mpr ⟨((congrFun (FS_ofU (m := m) 33 rfl).2.1 0).trans (iU_n33 c26 c27 c28 c29 c30 c31 c32 c33 c34)), List.forall_mem_cons.mpr ⟨((congrFun (FS_ofP (m := m) 5 rfl).2.1 0).trans (iP_n5 c5 c6 c7 c8 c9 c10 c11 c12 c13 c14 c15 c16 c17)), List.forall_mem_cons.mpr ⟨((congrFun (FS_ofP (m := m) 6 rfl).2.1 0).trans (iP_n6 c5 c6 c7 c8 c9 c10 c11 c12 c13 c14 c15 c16 c17)), List.forall_mem_cons.mpr ⟨((congrFun (FS_ofP (m := m) 7 rfl).2.1 0).trans (iP_n7 c5 c6 c7 c8 c9 c10 c11 c12 c13 c14 c15 c16 c17)), List.forall_mem_cons.mpr ⟨((congrFun (FS_ofP (m := m) 8 rfl).2.1 0).trans (iP_n8 c5 c6 c7 c8 c9 c10 c11 c12 c13 c14 c15 c16 c17)), List.forall_mem_cons.mpr ⟨((congrFun (FS_ofP (m := m) 9 rfl).2.1 0).trans (iP_n9 c5 c6 c7 c8 c9 c10 c11 c12 c13 c14 c15 c16 c17)), List.forall_mem_cons.mpr ⟨((congrFun (FS_ofP (m := m) 10 rfl).2.1 0).trans (iP_n10 c5 c6 c7 c8 c9 c10 c11 c12 c13 c14 c15 c16 c17)), List.forall_mem_cons.mpr ⟨((congrFun (FS_ofP (m := m) 11 rfl).2.1 0).trans (iP_n11 c5 c6 c7 c8 c9 c10 c11 c12 c13 c14 c15 c16 c17)), List.forall_mem_cons.mpr ⟨((congrFun (FS_ofP (m := m) 12 rfl).2.1 0).trans (iP_n12 c5 c6 c7 c8 c9 c10 c11 c12 c13 c14 c15 c16 c17)), List.forall_mem_cons.mpr ⟨((congrFun (FS_ofP (m := m) 13 rfl).2.1 0).trans (iP_n13 c5 c6 c7 c8 c9 c10 c11 c12 c13 c14 c15 c16 c17)), List.forall_mem_cons.mpr ⟨((congrFun (FS_ofS (m := m) 22 rfl).2.1 0).trans (iS_n22 c22 c23 c24 c25)), List.forall_mem_cons.mpr ⟨((congrFun (FS_ofS (m := m) 23 rfl).2.1 0).trans (iS_n23 c22 c23 c24 c25)), List.forall_mem_cons.mpr ⟨((congrFun (FS_ofS (m := m) 24 rfl).2.1 0).trans (iS_n24 c22 c23 c24 c25)), List.forall_mem_cons.mpr ⟨((congrFun (FS_ofS (m := m) 25 rfl).2.1 0).trans (iS_n25 c22 c23 c24 c25)), List.forall_mem_cons.mpr ⟨((congrFun (FS_ofU (m := m) 26 rfl).2.1 0).trans (iU_n26 c26 c27 c28 c29 c30 c31 c32 c33 c34)), List.forall_mem_cons.mpr ⟨((congrFun (FS_ofU (m := m) 27 rfl).2.1 0).trans (iU_n27 c26 c27 c28 c29 c30 c31 c32 c33 c34)), List.forall_mem_cons.mpr ⟨((congrFun (FS_ofU (m := m) 28 rfl).2.1 0).trans (iU_n28 c26 c27 c28 c29 c30 c31 c32 c33 c34)), List.forall_mem_cons.mpr ⟨((congrFun (FS_ofU (m := m) 29 rfl).2.1 0).trans (iU_n29 c26 c27 c28 c29 c30 c31 c32 c33 c34)), List.forall_mem_cons.mpr ⟨((congrFun (FS_ofU (m := m) 30 rfl).2.1 0).trans (iU_n30 c26 c27 c28 c29 c30 c31 c32 c33 c34)), List.forall_mem_cons.mpr ⟨((congrFun (FS_ofU (m := m) 31 rfl).2.1 0).trans (iU_n31 c26 c27 c28 c29 c30 c31 c32 c33 c34)), List.forall_mem_cons.mpr ⟨((congrFun (FS_ofU (m := m) 32 rfl).2.1 0).trans (iU_n32 c26 c27 c28 c29 c30 c31 c32 c33 c34)), fun _ h => nomatch h⟩⟩⟩⟩⟩⟩⟩⟩⟩⟩⟩⟩⟩⟩⟩⟩⟩⟩⟩⟩⟩⟩⟩⟩⟩⟩⟩⟩⟩⟩, fun i hi => ?_⟩
  obtain ⟨a1, a2⟩ := iP_m14 c5 c6 c7 c8 c9 c10 c11 c12 c13 c14 c15 c16 c17 hi
  obtain ⟨b1, b2⟩ := iP_m16 c5 c6 c7 c8 c9 c10 c11 c12 c13 c14 c15 c16 c17 hi
  obtain ⟨d1, d2⟩ := iU_m33 c26 c27 c28 c29 c30 c31 c32 c33 c34 hi
  exact ⟨(congrFun (congrFun (FS_ofP (m := m) 14 rfl).1 0) i).trans a1, (congrFun (congrFun (FS_ofP (m := m) 16 rfl).1 0) i).trans b1, (congrFun (congrFun (FS_ofU (m := m) 33 rfl).1 0) i).trans d1, (congrFun (FS_ofP (m := m) 15 rfl).2.1 i).trans a2, (congrFun (FS_ofP (m := m) 17 rfl).2.1 i).trans b2, (congrFun (FS_ofU (m := m) 34 rfl).2.1 i).trans d2⟩

