/-! small facts that the tables' rows name -/
theorem tu_Jx35411 : ∀ w ∈ u_ws RJx35411 TJx35411 4, w ∈ TB := by
  intro w hw
  obtain ⟨k, hk, rfl⟩ := List.mem_map.mp hw
  exact match k, List.mem_range.mp hk with
  | 0, _ => tw_t5_233
  | 1, _ => tw_t5_235
  | 2, _ => tw_t5_237
  | 3, _ => tw_t5_239
  | k + 4, h => absurd h (by omega)
theorem dv_Jx35411 : ∀ k, k < 4 → defaultValue (tyJx35411 k) = if FT 0 k = 2 then .null else .int 0 := by
  intro k hk
  exact match k, hk with
  | 0, _ => rfl
  | 1, _ => rfl
  | 2, _ => rfl
  | 3, _ => rfl
  | k + 4, h => absurd h (by omega)
theorem tu_Jx4a65c : ∀ w ∈ u_ws RJx4a65c TJx4a65c 3, w ∈ TB := by
  intro w hw
  obtain ⟨k, hk, rfl⟩ := List.mem_map.mp hw
  exact match k, List.mem_range.mp hk with
  | 0, _ => tw_t4_188
  | 1, _ => tw_t4_184
  | 2, _ => tw_t4_186
  | k + 3, h => absurd h (by omega)
theorem dv_Jx4a65c : ∀ k, k < 3 → defaultValue (tyJx4a65c k) = if FT 1 k = 2 then .null else .int 0 := by
  intro k hk
  exact match k, hk with
  | 0, _ => rfl
  | 1, _ => rfl
  | 2, _ => rfl
  | k + 3, h => absurd h (by omega)
theorem tu_X0 : ∀ w ∈ u_ws RX0 TX0 2, w ∈ TB := by
  intro w hw
  obtain ⟨k, hk, rfl⟩ := List.mem_map.mp hw
  exact match k, List.mem_range.mp hk with
  | 0, _ => tw_t1_202
  | 1, _ => tw_t1_204
  | k + 2, h => absurd h (by omega)
theorem dv_X0 : ∀ k, k < 2 → defaultValue (tyX0 k) = if FT 2 k = 2 then .null else .int 0 := by
  intro k hk
  exact match k, hk with
  | 0, _ => rfl
  | 1, _ => rfl
  | k + 2, h => absurd h (by omega)
theorem tu_X1 : ∀ w ∈ u_ws RX1 TX1 3, w ∈ TB := by
  intro w hw
  obtain ⟨k, hk, rfl⟩ := List.mem_map.mp hw
  exact match k, List.mem_range.mp hk with
  | 0, _ => tw_t1_110
  | 1, _ => tw_t1_112
  | 2, _ => tw_t1_114
  | k + 3, h => absurd h (by omega)
theorem dv_X1 : ∀ k, k < 3 → defaultValue (tyX1 k) = if FT 3 k = 2 then .null else .int 0 := by
  intro k hk
  exact match k, hk with
  | 0, _ => rfl
  | 1, _ => rfl
  | 2, _ => rfl
  | k + 3, h => absurd h (by omega)
theorem tu_X2 : ∀ w ∈ u_ws RX2 TX2 12, w ∈ TB := by
  intro w hw
  obtain ⟨k, hk, rfl⟩ := List.mem_map.mp hw
  exact match k, List.mem_range.mp hk with
  | 0, _ => tw_t1_71
  | 1, _ => tw_t1_73
  | 2, _ => tw_t1_75
  | 3, _ => tw_t1_77
  | 4, _ => tw_t1_79
  | 5, _ => tw_t1_81
  | 6, _ => tw_t1_83
  | 7, _ => tw_t1_85
  | 8, _ => tw_t1_87
  | 9, _ => tw_t1_89
  | 10, _ => tw_t1_91
  | 11, _ => tw_t1_93
  | k + 12, h => absurd h (by omega)
theorem dv_X2 : ∀ k, k < 12 → defaultValue (tyX2 k) = if FT 4 k = 2 then .null else .int 0 := by
  intro k hk
  exact match k, hk with
  | 0, _ => rfl
  | 1, _ => rfl
  | 2, _ => rfl
  | 3, _ => rfl
  | 4, _ => rfl
  | 5, _ => rfl
  | 6, _ => rfl
  | 7, _ => rfl
  | 8, _ => rfl
  | 9, _ => rfl
  | 10, _ => rfl
  | 11, _ => rfl
  | k + 12, h => absurd h (by omega)
theorem tu_X3 : ∀ w ∈ u_ws RX3 TX3 7, w ∈ TB := by
  intro w hw
  obtain ⟨k, hk, rfl⟩ := List.mem_map.mp hw
  exact match k, List.mem_range.mp hk with
  | 0, _ => tw_t1_221
  | 1, _ => tw_t1_223
  | 2, _ => tw_t1_225
  | 3, _ => tw_t1_227
  | 4, _ => tw_t1_229
  | 5, _ => tw_t1_231
  | 6, _ => tw_t1_233
  | k + 7, h => absurd h (by omega)
theorem dv_X3 : ∀ k, k < 7 → defaultValue (tyX3 k) = if FT 5 k = 2 then .null else .int 0 := by
  intro k hk
  exact match k, hk with
  | 0, _ => rfl
  | 1, _ => rfl
  | 2, _ => rfl
  | 3, _ => rfl
  | 4, _ => rfl
  | 5, _ => rfl
  | 6, _ => rfl
  | k + 7, h => absurd h (by omega)
theorem tu_X4 : ∀ w ∈ u_ws RX4 TX4 5, w ∈ TB := by
  intro w hw
  obtain ⟨k, hk, rfl⟩ := List.mem_map.mp hw
  exact match k, List.mem_range.mp hk with
  | 0, _ => tw_t1_133
  | 1, _ => tw_t1_135
  | 2, _ => tw_t1_137
  | 3, _ => tw_t1_139
  | 4, _ => tw_t1_141
  | k + 5, h => absurd h (by omega)
theorem dv_X4 : ∀ k, k < 5 → defaultValue (tyX4 k) = if FT 6 k = 2 then .null else .int 0 := by
  intro k hk
  exact match k, hk with
  | 0, _ => rfl
  | 1, _ => rfl
  | 2, _ => rfl
  | 3, _ => rfl
  | 4, _ => rfl
  | k + 5, h => absurd h (by omega)
theorem tu_X5 : ∀ w ∈ u_ws RX5 TX5 9, w ∈ TB := by
  intro w hw
  obtain ⟨k, hk, rfl⟩ := List.mem_map.mp hw
  exact match k, List.mem_range.mp hk with
  | 0, _ => tw_t1_175
  | 1, _ => tw_t1_177
  | 2, _ => tw_t1_179
  | 3, _ => tw_t1_181
  | 4, _ => tw_t1_183
  | 5, _ => tw_t1_185
  | 6, _ => tw_t1_187
  | 7, _ => tw_t1_189
  | 8, _ => tw_t1_191
  | k + 9, h => absurd h (by omega)
theorem dv_X5 : ∀ k, k < 9 → defaultValue (tyX5 k) = if FT 7 k = 2 then .null else .int 0 := by
  intro k hk
  exact match k, hk with
  | 0, _ => rfl
  | 1, _ => rfl
  | 2, _ => rfl
  | 3, _ => rfl
  | 4, _ => rfl
  | 5, _ => rfl
  | 6, _ => rfl
  | 7, _ => rfl
  | 8, _ => rfl
  | k + 9, h => absurd h (by omega)
theorem tu_X6 : ∀ w ∈ u_ws RX6 TX6 11, w ∈ TB := by
  intro w hw
  obtain ⟨k, hk, rfl⟩ := List.mem_map.mp hw
  exact match k, List.mem_range.mp hk with
  | 0, _ => tw_t2_7
  | 1, _ => tw_t2_9
  | 2, _ => tw_t2_11
  | 3, _ => tw_t2_13
  | 4, _ => tw_t2_15
  | 5, _ => tw_t2_17
  | 6, _ => tw_t2_19
  | 7, _ => tw_t2_21
  | 8, _ => tw_t2_23
  | 9, _ => tw_t2_25
  | 10, _ => tw_t2_27
  | k + 11, h => absurd h (by omega)
theorem dv_X6 : ∀ k, k < 11 → defaultValue (tyX6 k) = if FT 8 k = 2 then .null else .int 0 := by
  intro k hk
  exact match k, hk with
  | 0, _ => rfl
  | 1, _ => rfl
  | 2, _ => rfl
  | 3, _ => rfl
  | 4, _ => rfl
  | 5, _ => rfl
  | 6, _ => rfl
  | 7, _ => rfl
  | 8, _ => rfl
  | 9, _ => rfl
  | 10, _ => rfl
  | k + 11, h => absurd h (by omega)
theorem tu_X7 : ∀ w ∈ u_ws RX7 TX7 11, w ∈ TB := by
  intro w hw
  obtain ⟨k, hk, rfl⟩ := List.mem_map.mp hw
  exact match k, List.mem_range.mp hk with
  | 0, _ => tw_t5_51
  | 1, _ => tw_t5_53
  | 2, _ => tw_t5_55
  | 3, _ => tw_t5_57
  | 4, _ => tw_t5_59
  | 5, _ => tw_t5_61
  | 6, _ => tw_t5_63
  | 7, _ => tw_t5_65
  | 8, _ => tw_t5_67
  | 9, _ => tw_t5_69
  | 10, _ => tw_t5_71
  | k + 11, h => absurd h (by omega)
theorem dv_X7 : ∀ k, k < 11 → defaultValue (tyX7 k) = if FT 9 k = 2 then .null else .int 0 := by
  intro k hk
  exact match k, hk with
  | 0, _ => rfl
  | 1, _ => rfl
  | 2, _ => rfl
  | 3, _ => rfl
  | 4, _ => rfl
  | 5, _ => rfl
  | 6, _ => rfl
  | 7, _ => rfl
  | 8, _ => rfl
  | 9, _ => rfl
  | 10, _ => rfl
  | k + 11, h => absurd h (by omega)
theorem tu_X8 : ∀ w ∈ u_ws RX8 TX8 8, w ∈ TB := by
  intro w hw
  obtain ⟨k, hk, rfl⟩ := List.mem_map.mp hw
  exact match k, List.mem_range.mp hk with
  | 0, _ => tw_t6_77
  | 1, _ => tw_t6_79
  | 2, _ => tw_t6_81
  | 3, _ => tw_t6_83
  | 4, _ => tw_t6_85
  | 5, _ => tw_t6_87
  | 6, _ => tw_t6_89
  | 7, _ => tw_t6_91
  | k + 8, h => absurd h (by omega)
theorem dv_X8 : ∀ k, k < 8 → defaultValue (tyX8 k) = if FT 10 k = 2 then .null else .int 0 := by
  intro k hk
  exact match k, hk with
  | 0, _ => rfl
  | 1, _ => rfl
  | 2, _ => rfl
  | 3, _ => rfl
  | 4, _ => rfl
  | 5, _ => rfl
  | 6, _ => rfl
  | 7, _ => rfl
  | k + 8, h => absurd h (by omega)
theorem tu_X9 : ∀ w ∈ u_ws RX9 TX9 10, w ∈ TB := by
  intro w hw
  obtain ⟨k, hk, rfl⟩ := List.mem_map.mp hw
  exact match k, List.mem_range.mp hk with
  | 0, _ => tw_t4_201
  | 1, _ => tw_t4_203
  | 2, _ => tw_t4_205
  | 3, _ => tw_t4_207
  | 4, _ => tw_t4_209
  | 5, _ => tw_t4_211
  | 6, _ => tw_t4_213
  | 7, _ => tw_t4_215
  | 8, _ => tw_t4_217
  | 9, _ => tw_t4_219
  | k + 10, h => absurd h (by omega)
theorem dv_X9 : ∀ k, k < 10 → defaultValue (tyX9 k) = if FT 11 k = 2 then .null else .int 0 := by
  intro k hk
  exact match k, hk with
  | 0, _ => rfl
  | 1, _ => rfl
  | 2, _ => rfl
  | 3, _ => rfl
  | 4, _ => rfl
  | 5, _ => rfl
  | 6, _ => rfl
  | 7, _ => rfl
  | 8, _ => rfl
  | 9, _ => rfl
  | k + 10, h => absurd h (by omega)
theorem sk_lt {t c : Nat} (h : SK t = c) (hc : c ≠ 99) : t < 66 := by
  rcases Nat.lt_or_ge t 66 with q | q
  · exact q
  · exfalso
    unfold SK SKl at h
    rw [List.getD_eq_getElem?_getD, List.getElem?_eq_none (by simpa using q)] at h
    exact hc h.symm
theorem sk_all (P : Nat → Nat → Bool) (h : (List.range 66).all (fun t => P t (SK t)) = true) {t : Nat} (ht : t < 66) : P t (SK t) = true := List.all_eq_true.mp h t (List.mem_range.mpr ht)
theorem sk2_0 : ∀ t, SK t = 0 → 2 ≤ t := fun t h => by
  have := sk_all (fun t k => decide (k = 0 → 2 ≤ t)) (by decide +kernel) (sk_lt h (by decide))
  exact of_decide_eq_true this h
theorem sk2_1 : ∀ t, SK t = 1 → 2 ≤ t := fun t h => by
  have := sk_all (fun t k => decide (k = 1 → 2 ≤ t)) (by decide +kernel) (sk_lt h (by decide))
  exact of_decide_eq_true this h
theorem sk2_2 : ∀ t, SK t = 2 → 2 ≤ t := fun t h => by
  have := sk_all (fun t k => decide (k = 2 → 2 ≤ t)) (by decide +kernel) (sk_lt h (by decide))
  exact of_decide_eq_true this h
theorem sk2_3 : ∀ t, SK t = 3 → 2 ≤ t := fun t h => by
  have := sk_all (fun t k => decide (k = 3 → 2 ≤ t)) (by decide +kernel) (sk_lt h (by decide))
  exact of_decide_eq_true this h
theorem sk2_4 : ∀ t, SK t = 4 → 2 ≤ t := fun t h => by
  have := sk_all (fun t k => decide (k = 4 → 2 ≤ t)) (by decide +kernel) (sk_lt h (by decide))
  exact of_decide_eq_true this h
theorem sk2_5 : ∀ t, SK t = 5 → 2 ≤ t := fun t h => by
  have := sk_all (fun t k => decide (k = 5 → 2 ≤ t)) (by decide +kernel) (sk_lt h (by decide))
  exact of_decide_eq_true this h
theorem sk2_6 : ∀ t, SK t = 6 → 2 ≤ t := fun t h => by
  have := sk_all (fun t k => decide (k = 6 → 2 ≤ t)) (by decide +kernel) (sk_lt h (by decide))
  exact of_decide_eq_true this h
theorem sk2_7 : ∀ t, SK t = 7 → 2 ≤ t := fun t h => by
  have := sk_all (fun t k => decide (k = 7 → 2 ≤ t)) (by decide +kernel) (sk_lt h (by decide))
  exact of_decide_eq_true this h
theorem sk2_8 : ∀ t, SK t = 8 → 2 ≤ t := fun t h => by
  have := sk_all (fun t k => decide (k = 8 → 2 ≤ t)) (by decide +kernel) (sk_lt h (by decide))
  exact of_decide_eq_true this h
theorem sk2_9 : ∀ t, SK t = 9 → 2 ≤ t := fun t h => by
  have := sk_all (fun t k => decide (k = 9 → 2 ≤ t)) (by decide +kernel) (sk_lt h (by decide))
  exact of_decide_eq_true this h
theorem sk2_10 : ∀ t, SK t = 10 → 2 ≤ t := fun t h => by
  have := sk_all (fun t k => decide (k = 10 → 2 ≤ t)) (by decide +kernel) (sk_lt h (by decide))
  exact of_decide_eq_true this h
theorem sk2_11 : ∀ t, SK t = 11 → 2 ≤ t := fun t h => by
  have := sk_all (fun t k => decide (k = 11 → 2 ≤ t)) (by decide +kernel) (sk_lt h (by decide))
  exact of_decide_eq_true this h
theorem sk6 : ∀ t, 100 ≤ SK t → SK t ≤ 105 := fun t h => by
  rcases Nat.lt_or_ge t 66 with q | q
  · have := sk_all (fun t k => decide (100 ≤ k → k ≤ 105)) (by decide +kernel) q
    exact of_decide_eq_true this h
  · unfold SK SKl; rw [List.getD_eq_getElem?_getD, List.getElem?_eq_none (by simpa using q)]; decide
theorem hd_nil {own : String} {pc : Nat} {tab : List ExceptionTableEntry} (h : tab = []) : hdA own pc tab [] := by subst h; trivial
set_option maxRecDepth 20000 in
theorem tx_S_78 : ∀ w ∈ (vx_atS "Iemotohall" 78 eS ["java/lang/RuntimeException", "java/lang/Exception"]).filter goodWord, w ∈ TB := fun w h => List.mem_filter.mpr ⟨(by decide +kernel : ∀ w ∈ (vx_atS "Iemotohall" 78 eS ["java/lang/RuntimeException", "java/lang/Exception"]).filter goodWord, w ∈ lw_tbl) w h, (List.mem_filter.mp h).2⟩
theorem tx2_S_78 : ∀ w ∈ (vx_atS "Iemotohall" 78 eS ["java/lang/RuntimeException", "java/lang/Exception"]).filter (fun w => !goodWord w), w ∈ Cond.castable eS eS :: DCL.map Cond.declares := by decide +kernel
theorem tg_S_78 : ∀ w ∈ Cond.classLink "Iemotohall" 74 eS :: Cond.initialized eS :: (vx_atS "Iemotohall" 78 eS ["java/lang/RuntimeException", "java/lang/Exception"]), vx_ot w = true := by decide +kernel
set_option maxRecDepth 20000 in
theorem tx_I_411 : ∀ w ∈ (vx_atS "Iemotohall" 411 eI ["java/lang/RuntimeException", "java/lang/Exception"]).filter goodWord, w ∈ TB := fun w h => List.mem_filter.mpr ⟨(by decide +kernel : ∀ w ∈ (vx_atS "Iemotohall" 411 eI ["java/lang/RuntimeException", "java/lang/Exception"]).filter goodWord, w ∈ lw_tbl) w h, (List.mem_filter.mp h).2⟩
theorem tx2_I_411 : ∀ w ∈ (vx_atS "Iemotohall" 411 eI ["java/lang/RuntimeException", "java/lang/Exception"]).filter (fun w => !goodWord w), w ∈ Cond.castable eI eI :: DCL.map Cond.declares := by decide +kernel
theorem tg_I_411 : ∀ w ∈ Cond.classLink "Iemotohall" 407 eI :: Cond.initialized eI :: (vx_atS "Iemotohall" 411 eI ["java/lang/RuntimeException", "java/lang/Exception"]), vx_ot w = true := by decide +kernel
set_option maxRecDepth 20000 in
theorem tx_A_253 : ∀ w ∈ (vx_atS "Iemotohall" 253 eA ["java/lang/RuntimeException", "java/lang/Exception"]).filter goodWord, w ∈ TB := fun w h => List.mem_filter.mpr ⟨(by decide +kernel : ∀ w ∈ (vx_atS "Iemotohall" 253 eA ["java/lang/RuntimeException", "java/lang/Exception"]).filter goodWord, w ∈ lw_tbl) w h, (List.mem_filter.mp h).2⟩
theorem tx2_A_253 : ∀ w ∈ (vx_atS "Iemotohall" 253 eA ["java/lang/RuntimeException", "java/lang/Exception"]).filter (fun w => !goodWord w), w ∈ Cond.castable eA eA :: DCL.map Cond.declares := by decide +kernel
theorem tg_A_253 : ∀ w ∈ Cond.classLink "Iemotohall" 249 eA :: Cond.initialized eA :: (vx_atS "Iemotohall" 253 eA ["java/lang/RuntimeException", "java/lang/Exception"]), vx_ot w = true := by decide +kernel
