/-! small facts that the tables' rows name -/
theorem tu_X0 : ∀ w ∈ u_ws RX0 TX0 2, w ∈ TB := by
  intro w hw
  obtain ⟨k, hk, rfl⟩ := List.mem_map.mp hw
  exact match k, List.mem_range.mp hk with
  | 0, _ => tw_t1_189
  | 1, _ => tw_t1_191
  | k + 2, h => absurd h (by omega)
theorem dv_X0 : ∀ k, k < 2 → defaultValue (tyX0 k) = if FT 2 k = 2 then .null else .int 0 := by
  intro k hk
  exact match k, hk with
  | 0, _ => rfl
  | 1, _ => rfl
  | k + 2, h => absurd h (by omega)
theorem tu_X1 : ∀ w ∈ u_ws RX1 TX1 3, w ∈ TB := by
  intro w hw
  obtain ⟨k, hk, rfl⟩ := List.mem_map.mp hw
  exact match k, List.mem_range.mp hk with
  | 0, _ => tw_t1_97
  | 1, _ => tw_t1_99
  | 2, _ => tw_t1_101
  | k + 3, h => absurd h (by omega)
theorem dv_X1 : ∀ k, k < 3 → defaultValue (tyX1 k) = if FT 3 k = 2 then .null else .int 0 := by
  intro k hk
  exact match k, hk with
  | 0, _ => rfl
  | 1, _ => rfl
  | 2, _ => rfl
  | k + 3, h => absurd h (by omega)
theorem tu_X2 : ∀ w ∈ u_ws RX2 TX2 12, w ∈ TB := by
  intro w hw
  obtain ⟨k, hk, rfl⟩ := List.mem_map.mp hw
  exact match k, List.mem_range.mp hk with
  | 0, _ => tw_t1_58
  | 1, _ => tw_t1_60
  | 2, _ => tw_t1_62
  | 3, _ => tw_t1_64
  | 4, _ => tw_t1_66
  | 5, _ => tw_t1_68
  | 6, _ => tw_t1_70
  | 7, _ => tw_t1_72
  | 8, _ => tw_t1_74
  | 9, _ => tw_t1_76
  | 10, _ => tw_t1_78
  | 11, _ => tw_t1_80
  | k + 12, h => absurd h (by omega)
theorem dv_X2 : ∀ k, k < 12 → defaultValue (tyX2 k) = if FT 4 k = 2 then .null else .int 0 := by
  intro k hk
  exact match k, hk with
  | 0, _ => rfl
  | 1, _ => rfl
  | 2, _ => rfl
  | 3, _ => rfl
  | 4, _ => rfl
  | 5, _ => rfl
  | 6, _ => rfl
  | 7, _ => rfl
  | 8, _ => rfl
  | 9, _ => rfl
  | 10, _ => rfl
  | 11, _ => rfl
  | k + 12, h => absurd h (by omega)
theorem tu_X3 : ∀ w ∈ u_ws RX3 TX3 7, w ∈ TB := by
  intro w hw
  obtain ⟨k, hk, rfl⟩ := List.mem_map.mp hw
  exact match k, List.mem_range.mp hk with
  | 0, _ => tw_t1_208
  | 1, _ => tw_t1_210
  | 2, _ => tw_t1_212
  | 3, _ => tw_t1_214
  | 4, _ => tw_t1_216
  | 5, _ => tw_t1_218
  | 6, _ => tw_t1_220
  | k + 7, h => absurd h (by omega)
theorem dv_X3 : ∀ k, k < 7 → defaultValue (tyX3 k) = if FT 5 k = 2 then .null else .int 0 := by
  intro k hk
  exact match k, hk with
  | 0, _ => rfl
  | 1, _ => rfl
  | 2, _ => rfl
  | 3, _ => rfl
  | 4, _ => rfl
  | 5, _ => rfl
  | 6, _ => rfl
  | k + 7, h => absurd h (by omega)
theorem tu_X4 : ∀ w ∈ u_ws RX4 TX4 5, w ∈ TB := by
  intro w hw
  obtain ⟨k, hk, rfl⟩ := List.mem_map.mp hw
  exact match k, List.mem_range.mp hk with
  | 0, _ => tw_t1_120
  | 1, _ => tw_t1_122
  | 2, _ => tw_t1_124
  | 3, _ => tw_t1_126
  | 4, _ => tw_t1_128
  | k + 5, h => absurd h (by omega)
theorem dv_X4 : ∀ k, k < 5 → defaultValue (tyX4 k) = if FT 6 k = 2 then .null else .int 0 := by
  intro k hk
  exact match k, hk with
  | 0, _ => rfl
  | 1, _ => rfl
  | 2, _ => rfl
  | 3, _ => rfl
  | 4, _ => rfl
  | k + 5, h => absurd h (by omega)
theorem tu_X5 : ∀ w ∈ u_ws RX5 TX5 9, w ∈ TB := by
  intro w hw
  obtain ⟨k, hk, rfl⟩ := List.mem_map.mp hw
  exact match k, List.mem_range.mp hk with
  | 0, _ => tw_t1_162
  | 1, _ => tw_t1_164
  | 2, _ => tw_t1_166
  | 3, _ => tw_t1_168
  | 4, _ => tw_t1_170
  | 5, _ => tw_t1_172
  | 6, _ => tw_t1_174
  | 7, _ => tw_t1_176
  | 8, _ => tw_t1_178
  | k + 9, h => absurd h (by omega)
theorem dv_X5 : ∀ k, k < 9 → defaultValue (tyX5 k) = if FT 7 k = 2 then .null else .int 0 := by
  intro k hk
  exact match k, hk with
  | 0, _ => rfl
  | 1, _ => rfl
  | 2, _ => rfl
  | 3, _ => rfl
  | 4, _ => rfl
  | 5, _ => rfl
  | 6, _ => rfl
  | 7, _ => rfl
  | 8, _ => rfl
  | k + 9, h => absurd h (by omega)
theorem tu_X6 : ∀ w ∈ u_ws RX6 TX6 11, w ∈ TB := by
  intro w hw
  obtain ⟨k, hk, rfl⟩ := List.mem_map.mp hw
  exact match k, List.mem_range.mp hk with
  | 0, _ => tw_t1_234
  | 1, _ => tw_t1_236
  | 2, _ => tw_t1_238
  | 3, _ => tw_t2_0
  | 4, _ => tw_t2_2
  | 5, _ => tw_t2_4
  | 6, _ => tw_t2_6
  | 7, _ => tw_t2_8
  | 8, _ => tw_t2_10
  | 9, _ => tw_t2_12
  | 10, _ => tw_t2_14
  | k + 11, h => absurd h (by omega)
theorem dv_X6 : ∀ k, k < 11 → defaultValue (tyX6 k) = if FT 8 k = 2 then .null else .int 0 := by
  intro k hk
  exact match k, hk with
  | 0, _ => rfl
  | 1, _ => rfl
  | 2, _ => rfl
  | 3, _ => rfl
  | 4, _ => rfl
  | 5, _ => rfl
  | 6, _ => rfl
  | 7, _ => rfl
  | 8, _ => rfl
  | 9, _ => rfl
  | 10, _ => rfl
  | k + 11, h => absurd h (by omega)
theorem sk_lt {t c : Nat} (h : SK t = c) (hc : c ≠ 99) : t < 66 := by
  rcases Nat.lt_or_ge t 66 with q | q
  · exact q
  · exfalso
    unfold SK SKl at h
    rw [List.getD_eq_getElem?_getD, List.getElem?_eq_none (by simpa using q)] at h
    exact hc h.symm
theorem sk_all (P : Nat → Nat → Bool) (h : (List.range 66).all (fun t => P t (SK t)) = true) {t : Nat} (ht : t < 66) : P t (SK t) = true := List.all_eq_true.mp h t (List.mem_range.mpr ht)
theorem sk2_0 : ∀ t, SK t = 0 → 2 ≤ t := fun t h => by
  have := sk_all (fun t k => decide (k = 0 → 2 ≤ t)) (by decide +kernel) (sk_lt h (by decide))
  exact of_decide_eq_true this h
theorem sk2_1 : ∀ t, SK t = 1 → 2 ≤ t := fun t h => by
  have := sk_all (fun t k => decide (k = 1 → 2 ≤ t)) (by decide +kernel) (sk_lt h (by decide))
  exact of_decide_eq_true this h
theorem sk2_2 : ∀ t, SK t = 2 → 2 ≤ t := fun t h => by
  have := sk_all (fun t k => decide (k = 2 → 2 ≤ t)) (by decide +kernel) (sk_lt h (by decide))
  exact of_decide_eq_true this h
theorem sk2_3 : ∀ t, SK t = 3 → 2 ≤ t := fun t h => by
  have := sk_all (fun t k => decide (k = 3 → 2 ≤ t)) (by decide +kernel) (sk_lt h (by decide))
  exact of_decide_eq_true this h
theorem sk2_4 : ∀ t, SK t = 4 → 2 ≤ t := fun t h => by
  have := sk_all (fun t k => decide (k = 4 → 2 ≤ t)) (by decide +kernel) (sk_lt h (by decide))
  exact of_decide_eq_true this h
theorem sk2_5 : ∀ t, SK t = 5 → 2 ≤ t := fun t h => by
  have := sk_all (fun t k => decide (k = 5 → 2 ≤ t)) (by decide +kernel) (sk_lt h (by decide))
  exact of_decide_eq_true this h
theorem sk2_6 : ∀ t, SK t = 6 → 2 ≤ t := fun t h => by
  have := sk_all (fun t k => decide (k = 6 → 2 ≤ t)) (by decide +kernel) (sk_lt h (by decide))
  exact of_decide_eq_true this h
theorem sk2_7 : ∀ t, SK t = 7 → 2 ≤ t := fun t h => by
  have := sk_all (fun t k => decide (k = 7 → 2 ≤ t)) (by decide +kernel) (sk_lt h (by decide))
  exact of_decide_eq_true this h
theorem sk2_8 : ∀ t, SK t = 8 → 2 ≤ t := fun t h => by
  have := sk_all (fun t k => decide (k = 8 → 2 ≤ t)) (by decide +kernel) (sk_lt h (by decide))
  exact of_decide_eq_true this h
theorem sk6 : ∀ t, 100 ≤ SK t → SK t ≤ 105 := fun t h => by
  rcases Nat.lt_or_ge t 66 with q | q
  · have := sk_all (fun t k => decide (100 ≤ k → k ≤ 105)) (by decide +kernel) q
    exact of_decide_eq_true this h
  · unfold SK SKl; rw [List.getD_eq_getElem?_getD, List.getElem?_eq_none (by simpa using q)]; decide
theorem hd_nil {own : String} {pc : Nat} {tab : List ExceptionTableEntry} (h : tab = []) : hdA own pc tab [] := by subst h; trivial
set_option maxRecDepth 20000 in
theorem tx_S_78 : ∀ w ∈ (vx_atS "Iemotohall" 78 eS ["java/lang/RuntimeException", "java/lang/Exception"]).filter goodWord, w ∈ TB := fun w h => List.mem_filter.mpr ⟨(by decide +kernel : ∀ w ∈ (vx_atS "Iemotohall" 78 eS ["java/lang/RuntimeException", "java/lang/Exception"]).filter goodWord, w ∈ lw_tbl) w h, (List.mem_filter.mp h).2⟩
theorem tx2_S_78 : ∀ w ∈ (vx_atS "Iemotohall" 78 eS ["java/lang/RuntimeException", "java/lang/Exception"]).filter (fun w => !goodWord w), w ∈ Cond.castable eS eS :: DCL.map Cond.declares := by decide +kernel
theorem tg_S_78 : ∀ w ∈ Cond.classLink "Iemotohall" 74 eS :: Cond.initialized eS :: (vx_atS "Iemotohall" 78 eS ["java/lang/RuntimeException", "java/lang/Exception"]), vx_ot w = true := by decide +kernel
set_option maxRecDepth 20000 in
theorem tx_I_411 : ∀ w ∈ (vx_atS "Iemotohall" 411 eI ["java/lang/RuntimeException", "java/lang/Exception"]).filter goodWord, w ∈ TB := fun w h => List.mem_filter.mpr ⟨(by decide +kernel : ∀ w ∈ (vx_atS "Iemotohall" 411 eI ["java/lang/RuntimeException", "java/lang/Exception"]).filter goodWord, w ∈ lw_tbl) w h, (List.mem_filter.mp h).2⟩
theorem tx2_I_411 : ∀ w ∈ (vx_atS "Iemotohall" 411 eI ["java/lang/RuntimeException", "java/lang/Exception"]).filter (fun w => !goodWord w), w ∈ Cond.castable eI eI :: DCL.map Cond.declares := by decide +kernel
theorem tg_I_411 : ∀ w ∈ Cond.classLink "Iemotohall" 407 eI :: Cond.initialized eI :: (vx_atS "Iemotohall" 411 eI ["java/lang/RuntimeException", "java/lang/Exception"]), vx_ot w = true := by decide +kernel
set_option maxRecDepth 20000 in
theorem tx_A_253 : ∀ w ∈ (vx_atS "Iemotohall" 253 eA ["java/lang/RuntimeException", "java/lang/Exception"]).filter goodWord, w ∈ TB := fun w h => List.mem_filter.mpr ⟨(by decide +kernel : ∀ w ∈ (vx_atS "Iemotohall" 253 eA ["java/lang/RuntimeException", "java/lang/Exception"]).filter goodWord, w ∈ lw_tbl) w h, (List.mem_filter.mp h).2⟩
theorem tx2_A_253 : ∀ w ∈ (vx_atS "Iemotohall" 253 eA ["java/lang/RuntimeException", "java/lang/Exception"]).filter (fun w => !goodWord w), w ∈ Cond.castable eA eA :: DCL.map Cond.declares := by decide +kernel
theorem tg_A_253 : ∀ w ∈ Cond.classLink "Iemotohall" 249 eA :: Cond.initialized eA :: (vx_atS "Iemotohall" 253 eA ["java/lang/RuntimeException", "java/lang/Exception"]), vx_ot w = true := by decide +kernel
