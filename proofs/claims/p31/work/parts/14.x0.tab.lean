/-! decode rows and tables, by program: X0_init X0_count X0_apply X0_drop X1_init X1_add X2_init X2_add X2_has X2_all X2_holds X2_raise X2_nameOf X2_countPupils X2_countLiving X2_sumCoins X2_livesIn X2_livingOf X2_childrenOf X2_highestOf X2_isReader X2_countQuarrels X3_init X3_findBest X3_canBeChosen -/
theorem dX0_init_0 : decode cX0_init 0 = .ok (.aload_n 0, 1) := by decide +kernel
theorem dX0_init_1 : decode cX0_init 1 = .ok (.invokespecial 3, 3) := by decide +kernel
theorem dX0_init_4 : decode cX0_init 4 = .ok (.aload_n 0, 1) := by decide +kernel
theorem dX0_init_5 : decode cX0_init 5 = .ok (.bipush 12, 2) := by decide +kernel
theorem dX0_init_7 : decode cX0_init 7 = .ok (.newarray .int, 2) := by decide +kernel
theorem dX0_init_9 : decode cX0_init 9 = .ok (.putfield 9, 3) := by decide +kernel
theorem dX0_init_12 : decode cX0_init 12 = .ok (.aload_n 0, 1) := by decide +kernel
theorem dX0_init_13 : decode cX0_init 13 = .ok (.aload_n 1, 1) := by decide +kernel
theorem dX0_init_14 : decode cX0_init 14 = .ok (.putfield 15, 3) := by decide +kernel
theorem dX0_init_17 : decode cX0_init 17 = .ok (.return_, 1) := by decide +kernel
def T_X0_init : ab_T := [(0, some (s_aload 0 1)), (1, some (s_obj 4)), (4, some (s_aload 0 5)), (5, some (s_const (vI 12) 7)), (7, some (s_newa 2 9)), (9, some (s_putR 2 1 12)), (12, some (s_aload 0 13)), (13, some (s_aload 1 14)), (14, some (s_putR 2 0 17)), (17, some (s_retV))]
set_option maxRecDepth 20000 in
theorem mt_X0_init : MonoT (T_X0_init) := MA_mem (And.intro mono_aload (And.intro mono_obj (And.intro mono_aload (And.intro mono_const (And.intro mono_newa (And.intro mono_putR (And.intro mono_aload (And.intro mono_aload (And.intro mono_putR (And.intro mono_retV trivial))))))))))
set_option maxRecDepth 20000 in
set_option maxHeartbeats 4000000 in
theorem snd_X0_init {l : Launch} {D : va_G} {cA : Nat → ClassId} {d : Nat} : Sound l D cA d 2 yX0_init cX0_init none [] (T_X0_init) := by
  intro p e R s m args below meth c loc0 m0 r Q E hQ h0 hrt hnm htab
  exact SA_mem (And.intro (fun ls st mm h => so_aload_n E rfl dX0_init_0 h) (And.intro (fun ls st mm h => so_obj E tw_t1_186 tw_t1_22 tw_t1_23 dX0_init_1 h) (And.intro (fun ls st mm h => so_aload_n E rfl dX0_init_4 h) (And.intro (fun ls st mm h => so_bipush E (by decide) dX0_init_5 h) (And.intro (fun ls st mm h => so_newa100 E (t := 2) rfl tw_t1_83 dX0_init_7 h) (And.intro (fun ls st mm h => so_putRF E (C := RX0) (T := TX0) (N := 2) (ck := 2) rfl rfl (by decide) tu_X0 (k := 1) (ref := "Iemotohall$Falling") (by decide) (by decide) tyX0 tyX0_ok nmX0 tw_t1_188 (fun _ h => h) rfl hnm rfl (Or.inr ⟨_, rfl⟩) (tyX0_ok 1 (by decide)) dX0_init_9 sk2_2 h) (And.intro (fun ls st mm h => so_aload_n E rfl dX0_init_12 h) (And.intro (fun ls st mm h => so_aload_n E rfl dX0_init_13 h) (And.intro (fun ls st mm h => so_putRF E (C := RX0) (T := TX0) (N := 2) (ck := 2) rfl rfl (by decide) tu_X0 (k := 0) (ref := "Iemotohall$Falling") (by decide) (by decide) tyX0 tyX0_ok nmX0 tw_t1_187 (fun _ h => h) rfl hnm rfl (Or.inl ⟨_, rfl⟩) (tyX0_ok 0 (by decide)) dX0_init_14 sk2_2 h) (And.intro (fun ls st mm h => so_vreturn E hQ rfl (fun _ h => h) h0 hrt dX0_init_17 h) (trivial)))))))))))
theorem dX0_count_0 : decode cX0_count 0 = .ok (.iconst 0, 1) := by decide +kernel
theorem dX0_count_1 : decode cX0_count 1 = .ok (.istore_n 3, 1) := by decide +kernel
theorem dX0_count_2 : decode cX0_count 2 = .ok (.iload_n 3, 1) := by decide +kernel
theorem dX0_count_3 : decode cX0_count 3 = .ok (.aload_n 0, 1) := by decide +kernel
theorem dX0_count_4 : decode cX0_count 4 = .ok (.getfield 15, 3) := by decide +kernel
theorem dX0_count_7 : decode cX0_count 7 = .ok (.getfield 19, 3) := by decide +kernel
theorem dX0_count_10 : decode cX0_count 10 = .ok (.if_icmp .ge 24, 3) := by decide +kernel
theorem dX0_count_13 : decode cX0_count 13 = .ok (.aload_n 0, 1) := by decide +kernel
theorem dX0_count_14 : decode cX0_count 14 = .ok (.getfield 9, 3) := by decide +kernel
theorem dX0_count_17 : decode cX0_count 17 = .ok (.iload_n 3, 1) := by decide +kernel
theorem dX0_count_18 : decode cX0_count 18 = .ok (.aload_n 0, 1) := by decide +kernel
theorem dX0_count_19 : decode cX0_count 19 = .ok (.getfield 15, 3) := by decide +kernel
theorem dX0_count_22 : decode cX0_count 22 = .ok (.getfield 25, 3) := by decide +kernel
theorem dX0_count_25 : decode cX0_count 25 = .ok (.iload_n 3, 1) := by decide +kernel
theorem dX0_count_26 : decode cX0_count 26 = .ok (.iaload, 1) := by decide +kernel
theorem dX0_count_27 : decode cX0_count 27 = .ok (.iastore, 1) := by decide +kernel
theorem dX0_count_28 : decode cX0_count 28 = .ok (.iinc 3 1, 3) := by decide +kernel
theorem dX0_count_31 : decode cX0_count 31 = .ok (.goto (-29), 3) := by decide +kernel
theorem dX0_count_34 : decode cX0_count 34 = .ok (.aload_n 0, 1) := by decide +kernel
theorem dX0_count_35 : decode cX0_count 35 = .ok (.iload_n 1, 1) := by decide +kernel
theorem dX0_count_36 : decode cX0_count 36 = .ok (.iload_n 2, 1) := by decide +kernel
theorem dX0_count_37 : decode cX0_count 37 = .ok (.iconst 0, 1) := by decide +kernel
theorem dX0_count_38 : decode cX0_count 38 = .ok (.invokevirtual 28, 3) := by decide +kernel
theorem dX0_count_41 : decode cX0_count 41 = .ok (.ireturn, 1) := by decide +kernel
def T_X0_count_2 (sp_X0_drop : List ab_V → ab_M → ab_O) : ab_T := [(2, some (s_iload 3 3)), (3, some (s_aload 0 4)), (4, some (s_getR 2 0 7)), (7, some (s_getI 4 0 10)), (10, some (s_cmplt 13 34)), (13, some (s_aload 0 14)), (14, some (s_getR 2 1 17)), (17, some (s_iload 3 18)), (18, some (s_aload 0 19)), (19, some (s_getR 2 0 22)), (22, some (s_getR 4 3 25)), (25, some (s_iload 3 26)), (26, some (s_ald 100 27)), (27, some (s_ast 100 28)), (28, some (s_iinc 3 1 31)), (31, some (s_goto 2)), (34, some (s_aload 0 35)), (35, some (s_iload 1 36)), (36, some (s_iload 2 37)), (37, some (s_const (vI 0) 38)), (38, some (s_call 2 sp_X0_drop 4 [] 41)), (41, some (s_ret 0))]
def T_X0_count (sp_X0_drop : List ab_V → ab_M → ab_O) : ab_T := [(0, some (s_const (vI 0) 1)), (1, some (s_istore 3 2)), (2, none)] ++ T_X0_count_2 sp_X0_drop
set_option maxRecDepth 20000 in
theorem mt_X0_count {sp_X0_drop : List ab_V → ab_M → ab_O} : MonoT (T_X0_count sp_X0_drop) := MA_mem (And.intro mono_const (And.intro mono_istore (And.intro mono_iload (And.intro mono_aload (And.intro mono_getR (And.intro mono_getI (And.intro mono_cmplt (And.intro mono_aload (And.intro mono_getR (And.intro mono_iload (And.intro mono_aload (And.intro mono_getR (And.intro mono_getR (And.intro mono_iload (And.intro mono_ald (And.intro mono_ast (And.intro mono_iinc (And.intro mono_goto (And.intro mono_aload (And.intro mono_iload (And.intro mono_iload (And.intro mono_const (And.intro mono_call (And.intro mono_ret trivial))))))))))))))))))))))))
set_option maxRecDepth 20000 in
set_option maxHeartbeats 4000000 in
theorem snd_X0_count {l : Launch} {D : va_G} {cA : Nat → ClassId} {d : Nat} {sp_X0_drop : List ab_V → ab_M → ab_O} {d' : Nat} (hd9 : d' + 1 ≤ d) (hC_X0_drop : ∀ as m, Ctr l D cA d' yX0_drop (Cond.code yX0_drop cX0_drop 8 (some .int) :: TB) as m (sp_X0_drop as m)) : Sound l D cA d 4 yX0_count cX0_count (some .int) [] (T_X0_count sp_X0_drop) := by
  intro p e R s m args below meth c loc0 m0 r Q E hQ h0 hrt hnm htab
  exact SA_mem (And.intro (fun ls st mm h => so_iconst E (by decide) dX0_count_0 h) (And.intro (fun ls st mm h => so_istore_n E rfl dX0_count_1 h) (And.intro (fun ls st mm h => so_iload_n E rfl dX0_count_2 h) (And.intro (fun ls st mm h => so_aload_n E rfl dX0_count_3 h) (And.intro (fun ls st mm h => so_getR E (C := RX0) (T := TX0) (N := 2) (ck := 2) rfl rfl (by decide) tu_X0 (k := 0) (ref := "Iemotohall$Falling") (by decide) (by decide) tw_t1_187 (fun _ h => h) dX0_count_4 h) (And.intro (fun ls st mm h => so_getI E (C := RX2) (T := TX2) (N := 12) (ck := 4) rfl rfl (by decide) tu_X2 (k := 0) (ref := "Iemotohall$People") (by decide) (by decide) tw_t1_34 (fun _ h => h) dX0_count_7 h) (And.intro (fun ls st mm h => so_icmpge E (tgt := 34) (by decide) dX0_count_10 h) (And.intro (fun ls st mm h => so_aload_n E rfl dX0_count_13 h) (And.intro (fun ls st mm h => so_getR E (C := RX0) (T := TX0) (N := 2) (ck := 2) rfl rfl (by decide) tu_X0 (k := 1) (ref := "Iemotohall$Falling") (by decide) (by decide) tw_t1_188 (fun _ h => h) dX0_count_14 h) (And.intro (fun ls st mm h => so_iload_n E rfl dX0_count_17 h) (And.intro (fun ls st mm h => so_aload_n E rfl dX0_count_18 h) (And.intro (fun ls st mm h => so_getR E (C := RX0) (T := TX0) (N := 2) (ck := 2) rfl rfl (by decide) tu_X0 (k := 0) (ref := "Iemotohall$Falling") (by decide) (by decide) tw_t1_187 (fun _ h => h) dX0_count_19 h) (And.intro (fun ls st mm h => so_getR E (C := RX2) (T := TX2) (N := 12) (ck := 4) rfl rfl (by decide) tu_X2 (k := 3) (ref := "Iemotohall$People") (by decide) (by decide) tw_t1_40 (fun _ h => h) dX0_count_22 h) (And.intro (fun ls st mm h => so_iload_n E rfl dX0_count_25 h) (And.intro (fun ls st mm h => so_iald E dX0_count_26 h) (And.intro (fun ls st mm h => so_iast E dX0_count_27 h) (And.intro (fun ls st mm h => so_iinc E (by decide) dX0_count_28 h) (And.intro (fun ls st mm h => so_goto E (tgt := 2) (by decide) dX0_count_31 h) (And.intro (fun ls st mm h => so_aload_n E rfl dX0_count_34 h) (And.intro (fun ls st mm h => so_iload_n E rfl dX0_count_35 h) (And.intro (fun ls st mm h => so_iload_n E rfl dX0_count_36 h) (And.intro (fun ls st mm h => so_iconst E (by decide) dX0_count_37 h) (And.intro (fun ls st mm h => so_callV E hQ rfl (fun _ h => h) h0 (idx := 28) (C := RX0) (T := TX0) (N := 2) rfl (by decide) (by decide) rfl hd9 (by decide) hC_X0_drop (hd_nil htab) tw_t2_161 tw_t2_163 tw_p1_5 tw_t1_6 tw_t2_164 (by decide +kernel) dX0_count_38 h) (And.intro (fun ls st mm h => so_ireturn E hQ rfl (fun _ h => h) h0 (ty := .int) hrt (Or.inl ⟨rfl, rfl⟩) dX0_count_41 h) (trivial)))))))))))))))))))))))))
theorem dX0_apply_0 : decode cX0_apply 0 = .ok (.iconst 0, 1) := by decide +kernel
theorem dX0_apply_1 : decode cX0_apply 1 = .ok (.istore_n 1, 1) := by decide +kernel
theorem dX0_apply_2 : decode cX0_apply 2 = .ok (.iload_n 1, 1) := by decide +kernel
theorem dX0_apply_3 : decode cX0_apply 3 = .ok (.aload_n 0, 1) := by decide +kernel
theorem dX0_apply_4 : decode cX0_apply 4 = .ok (.getfield 15, 3) := by decide +kernel
theorem dX0_apply_7 : decode cX0_apply 7 = .ok (.getfield 19, 3) := by decide +kernel
theorem dX0_apply_10 : decode cX0_apply 10 = .ok (.if_icmp .ge 24, 3) := by decide +kernel
theorem dX0_apply_13 : decode cX0_apply 13 = .ok (.aload_n 0, 1) := by decide +kernel
theorem dX0_apply_14 : decode cX0_apply 14 = .ok (.getfield 15, 3) := by decide +kernel
theorem dX0_apply_17 : decode cX0_apply 17 = .ok (.getfield 25, 3) := by decide +kernel
theorem dX0_apply_20 : decode cX0_apply 20 = .ok (.iload_n 1, 1) := by decide +kernel
theorem dX0_apply_21 : decode cX0_apply 21 = .ok (.aload_n 0, 1) := by decide +kernel
theorem dX0_apply_22 : decode cX0_apply 22 = .ok (.getfield 9, 3) := by decide +kernel
theorem dX0_apply_25 : decode cX0_apply 25 = .ok (.iload_n 1, 1) := by decide +kernel
theorem dX0_apply_26 : decode cX0_apply 26 = .ok (.iaload, 1) := by decide +kernel
theorem dX0_apply_27 : decode cX0_apply 27 = .ok (.iastore, 1) := by decide +kernel
theorem dX0_apply_28 : decode cX0_apply 28 = .ok (.iinc 1 1, 3) := by decide +kernel
theorem dX0_apply_31 : decode cX0_apply 31 = .ok (.goto (-29), 3) := by decide +kernel
theorem dX0_apply_34 : decode cX0_apply 34 = .ok (.return_, 1) := by decide +kernel
def T_X0_apply_2 : ab_T := [(2, some (s_iload 1 3)), (3, some (s_aload 0 4)), (4, some (s_getR 2 0 7)), (7, some (s_getI 4 0 10)), (10, some (s_cmplt 13 34)), (13, some (s_aload 0 14)), (14, some (s_getR 2 0 17)), (17, some (s_getR 4 3 20)), (20, some (s_iload 1 21)), (21, some (s_aload 0 22)), (22, some (s_getR 2 1 25)), (25, some (s_iload 1 26)), (26, some (s_ald 100 27)), (27, some (s_ast 100 28)), (28, some (s_iinc 1 1 31)), (31, some (s_goto 2)), (34, some (s_retV))]
def T_X0_apply : ab_T := [(0, some (s_const (vI 0) 1)), (1, some (s_istore 1 2)), (2, none)] ++ T_X0_apply_2
set_option maxRecDepth 20000 in
theorem mt_X0_apply : MonoT (T_X0_apply) := MA_mem (And.intro mono_const (And.intro mono_istore (And.intro mono_iload (And.intro mono_aload (And.intro mono_getR (And.intro mono_getI (And.intro mono_cmplt (And.intro mono_aload (And.intro mono_getR (And.intro mono_getR (And.intro mono_iload (And.intro mono_aload (And.intro mono_getR (And.intro mono_iload (And.intro mono_ald (And.intro mono_ast (And.intro mono_iinc (And.intro mono_goto (And.intro mono_retV trivial)))))))))))))))))))
set_option maxRecDepth 20000 in
set_option maxHeartbeats 4000000 in
theorem snd_X0_apply {l : Launch} {D : va_G} {cA : Nat → ClassId} {d : Nat} : Sound l D cA d 2 yX0_apply cX0_apply none [] (T_X0_apply) := by
  intro p e R s m args below meth c loc0 m0 r Q E hQ h0 hrt hnm htab
  exact SA_mem (And.intro (fun ls st mm h => so_iconst E (by decide) dX0_apply_0 h) (And.intro (fun ls st mm h => so_istore_n E rfl dX0_apply_1 h) (And.intro (fun ls st mm h => so_iload_n E rfl dX0_apply_2 h) (And.intro (fun ls st mm h => so_aload_n E rfl dX0_apply_3 h) (And.intro (fun ls st mm h => so_getR E (C := RX0) (T := TX0) (N := 2) (ck := 2) rfl rfl (by decide) tu_X0 (k := 0) (ref := "Iemotohall$Falling") (by decide) (by decide) tw_t1_187 (fun _ h => h) dX0_apply_4 h) (And.intro (fun ls st mm h => so_getI E (C := RX2) (T := TX2) (N := 12) (ck := 4) rfl rfl (by decide) tu_X2 (k := 0) (ref := "Iemotohall$People") (by decide) (by decide) tw_t1_34 (fun _ h => h) dX0_apply_7 h) (And.intro (fun ls st mm h => so_icmpge E (tgt := 34) (by decide) dX0_apply_10 h) (And.intro (fun ls st mm h => so_aload_n E rfl dX0_apply_13 h) (And.intro (fun ls st mm h => so_getR E (C := RX0) (T := TX0) (N := 2) (ck := 2) rfl rfl (by decide) tu_X0 (k := 0) (ref := "Iemotohall$Falling") (by decide) (by decide) tw_t1_187 (fun _ h => h) dX0_apply_14 h) (And.intro (fun ls st mm h => so_getR E (C := RX2) (T := TX2) (N := 12) (ck := 4) rfl rfl (by decide) tu_X2 (k := 3) (ref := "Iemotohall$People") (by decide) (by decide) tw_t1_40 (fun _ h => h) dX0_apply_17 h) (And.intro (fun ls st mm h => so_iload_n E rfl dX0_apply_20 h) (And.intro (fun ls st mm h => so_aload_n E rfl dX0_apply_21 h) (And.intro (fun ls st mm h => so_getR E (C := RX0) (T := TX0) (N := 2) (ck := 2) rfl rfl (by decide) tu_X0 (k := 1) (ref := "Iemotohall$Falling") (by decide) (by decide) tw_t1_188 (fun _ h => h) dX0_apply_22 h) (And.intro (fun ls st mm h => so_iload_n E rfl dX0_apply_25 h) (And.intro (fun ls st mm h => so_iald E dX0_apply_26 h) (And.intro (fun ls st mm h => so_iast E dX0_apply_27 h) (And.intro (fun ls st mm h => so_iinc E (by decide) dX0_apply_28 h) (And.intro (fun ls st mm h => so_goto E (tgt := 2) (by decide) dX0_apply_31 h) (And.intro (fun ls st mm h => so_vreturn E hQ rfl (fun _ h => h) h0 hrt dX0_apply_34 h) (trivial))))))))))))))))))))
theorem dX0_drop_0 : decode cX0_drop 0 = .ok (.iload_n 3, 1) := by decide +kernel
theorem dX0_drop_1 : decode cX0_drop 1 = .ok (.bipush 12, 2) := by decide +kernel
theorem dX0_drop_3 : decode cX0_drop 3 = .ok (.if_icmp .lt 5, 3) := by decide +kernel
theorem dX0_drop_6 : decode cX0_drop 6 = .ok (.iconst 0, 1) := by decide +kernel
theorem dX0_drop_7 : decode cX0_drop 7 = .ok (.ireturn, 1) := by decide +kernel
theorem dX0_drop_8 : decode cX0_drop 8 = .ok (.aload_n 0, 1) := by decide +kernel
theorem dX0_drop_9 : decode cX0_drop 9 = .ok (.getfield 9, 3) := by decide +kernel
theorem dX0_drop_12 : decode cX0_drop 12 = .ok (.iload_n 1, 1) := by decide +kernel
theorem dX0_drop_13 : decode cX0_drop 13 = .ok (.iaload, 1) := by decide +kernel
theorem dX0_drop_14 : decode cX0_drop 14 = .ok (.istore 4, 2) := by decide +kernel
theorem dX0_drop_16 : decode cX0_drop 16 = .ok (.iload 4, 2) := by decide +kernel
theorem dX0_drop_18 : decode cX0_drop 18 = .ok (.iload_n 2, 1) := by decide +kernel
theorem dX0_drop_19 : decode cX0_drop 19 = .ok (.isub, 1) := by decide +kernel
theorem dX0_drop_20 : decode cX0_drop 20 = .ok (.iconst 1, 1) := by decide +kernel
theorem dX0_drop_21 : decode cX0_drop 21 = .ok (.iadd, 1) := by decide +kernel
theorem dX0_drop_22 : decode cX0_drop 22 = .ok (.istore 5, 2) := by decide +kernel
theorem dX0_drop_24 : decode cX0_drop 24 = .ok (.aload_n 0, 1) := by decide +kernel
theorem dX0_drop_25 : decode cX0_drop 25 = .ok (.getfield 9, 3) := by decide +kernel
theorem dX0_drop_28 : decode cX0_drop 28 = .ok (.iload_n 1, 1) := by decide +kernel
theorem dX0_drop_29 : decode cX0_drop 29 = .ok (.iload_n 2, 1) := by decide +kernel
theorem dX0_drop_30 : decode cX0_drop 30 = .ok (.iconst 1, 1) := by decide +kernel
theorem dX0_drop_31 : decode cX0_drop 31 = .ok (.isub, 1) := by decide +kernel
theorem dX0_drop_32 : decode cX0_drop 32 = .ok (.iastore, 1) := by decide +kernel
theorem dX0_drop_33 : decode cX0_drop 33 = .ok (.iload_n 2, 1) := by decide +kernel
theorem dX0_drop_34 : decode cX0_drop 34 = .ok (.istore 6, 2) := by decide +kernel
theorem dX0_drop_36 : decode cX0_drop 36 = .ok (.iload 6, 2) := by decide +kernel
theorem dX0_drop_38 : decode cX0_drop 38 = .ok (.iload 4, 2) := by decide +kernel
theorem dX0_drop_40 : decode cX0_drop 40 = .ok (.if_icmp .gt 75, 3) := by decide +kernel
theorem dX0_drop_43 : decode cX0_drop 43 = .ok (.iconst 0, 1) := by decide +kernel
theorem dX0_drop_44 : decode cX0_drop 44 = .ok (.istore 7, 2) := by decide +kernel
theorem dX0_drop_46 : decode cX0_drop 46 = .ok (.iload 7, 2) := by decide +kernel
theorem dX0_drop_48 : decode cX0_drop 48 = .ok (.aload_n 0, 1) := by decide +kernel
theorem dX0_drop_49 : decode cX0_drop 49 = .ok (.getfield 15, 3) := by decide +kernel
theorem dX0_drop_52 : decode cX0_drop 52 = .ok (.getfield 19, 3) := by decide +kernel
theorem dX0_drop_55 : decode cX0_drop 55 = .ok (.if_icmp .ge 54, 3) := by decide +kernel
theorem dX0_drop_58 : decode cX0_drop 58 = .ok (.aload_n 0, 1) := by decide +kernel
theorem dX0_drop_59 : decode cX0_drop 59 = .ok (.getfield 9, 3) := by decide +kernel
theorem dX0_drop_62 : decode cX0_drop 62 = .ok (.iload 7, 2) := by decide +kernel
theorem dX0_drop_64 : decode cX0_drop 64 = .ok (.iaload, 1) := by decide +kernel
theorem dX0_drop_65 : decode cX0_drop 65 = .ok (.iload 6, 2) := by decide +kernel
theorem dX0_drop_67 : decode cX0_drop 67 = .ok (.if_icmp .lt 36, 3) := by decide +kernel
theorem dX0_drop_70 : decode cX0_drop 70 = .ok (.aload_n 0, 1) := by decide +kernel
theorem dX0_drop_71 : decode cX0_drop 71 = .ok (.getfield 15, 3) := by decide +kernel
theorem dX0_drop_74 : decode cX0_drop 74 = .ok (.getfield 32, 3) := by decide +kernel
theorem dX0_drop_77 : decode cX0_drop 77 = .ok (.iload 7, 2) := by decide +kernel
theorem dX0_drop_79 : decode cX0_drop 79 = .ok (.aaload, 1) := by decide +kernel
theorem dX0_drop_80 : decode cX0_drop 80 = .ok (.iload 6, 2) := by decide +kernel
theorem dX0_drop_82 : decode cX0_drop 82 = .ok (.iaload, 1) := by decide +kernel
theorem dX0_drop_83 : decode cX0_drop 83 = .ok (.iload_n 1, 1) := by decide +kernel
theorem dX0_drop_84 : decode cX0_drop 84 = .ok (.if_icmp .ne 19, 3) := by decide +kernel
theorem dX0_drop_87 : decode cX0_drop 87 = .ok (.iload 5, 2) := by decide +kernel
theorem dX0_drop_89 : decode cX0_drop 89 = .ok (.aload_n 0, 1) := by decide +kernel
theorem dX0_drop_90 : decode cX0_drop 90 = .ok (.iload 7, 2) := by decide +kernel
theorem dX0_drop_92 : decode cX0_drop 92 = .ok (.iload 6, 2) := by decide +kernel
theorem dX0_drop_94 : decode cX0_drop 94 = .ok (.iload_n 3, 1) := by decide +kernel
theorem dX0_drop_95 : decode cX0_drop 95 = .ok (.iconst 1, 1) := by decide +kernel
theorem dX0_drop_96 : decode cX0_drop 96 = .ok (.iadd, 1) := by decide +kernel
theorem dX0_drop_97 : decode cX0_drop 97 = .ok (.invokevirtual 28, 3) := by decide +kernel
theorem dX0_drop_100 : decode cX0_drop 100 = .ok (.iadd, 1) := by decide +kernel
theorem dX0_drop_101 : decode cX0_drop 101 = .ok (.istore 5, 2) := by decide +kernel
theorem dX0_drop_103 : decode cX0_drop 103 = .ok (.iinc 7 1, 3) := by decide +kernel
theorem dX0_drop_106 : decode cX0_drop 106 = .ok (.goto (-60), 3) := by decide +kernel
theorem dX0_drop_109 : decode cX0_drop 109 = .ok (.iinc 6 1, 3) := by decide +kernel
theorem dX0_drop_112 : decode cX0_drop 112 = .ok (.goto (-76), 3) := by decide +kernel
theorem dX0_drop_115 : decode cX0_drop 115 = .ok (.iload 5, 2) := by decide +kernel
theorem dX0_drop_117 : decode cX0_drop 117 = .ok (.ireturn, 1) := by decide +kernel
def T_X0_drop_46 (sp_X0_drop : List ab_V → ab_M → ab_O) : ab_T := [(46, some (s_iload 7 48)), (48, some (s_aload 0 49)), (49, some (s_getR 2 0 52)), (52, some (s_getI 4 0 55)), (55, some (s_cmplt 58 109)), (58, some (s_aload 0 59)), (59, some (s_getR 2 1 62)), (62, some (s_iload 7 64)), (64, some (s_ald 100 65)), (65, some (s_iload 6 67)), (67, some (s_cmplt 103 70)), (70, some (s_aload 0 71)), (71, some (s_getR 2 0 74)), (74, some (s_getR 4 10 77)), (77, some (s_iload 7 79)), (79, some (s_aald 105 80)), (80, some (s_iload 6 82)), (82, some (s_ald 100 83)), (83, some (s_iload 1 84)), (84, some (s_cmpeq 87 103)), (87, some (s_iload 5 89)), (89, some (s_aload 0 90)), (90, some (s_iload 7 92)), (92, some (s_iload 6 94)), (94, some (s_iload 3 95)), (95, some (s_const (vI 1) 96)), (96, some (s_bin (· + ·) 97)), (97, some (s_call 2 sp_X0_drop 4 [] 100)), (100, some (s_bin (· + ·) 101)), (101, some (s_istore 5 103)), (103, some (s_iinc 7 1 106)), (106, some (s_goto 46)), (109, some (s_iinc 6 1 112)), (112, some (s_goto 36)), (115, some (s_iload 5 117)), (117, some (s_ret 0))]
def T_X0_drop_36 (sp_X0_drop : List ab_V → ab_M → ab_O) : ab_T := [(36, some (s_iload 6 38)), (38, some (s_iload 4 40)), (40, some (s_cmpgt 115 43)), (43, some (s_const (vI 0) 44)), (44, some (s_istore 7 46)), (46, none)] ++ T_X0_drop_46 sp_X0_drop
def T_X0_drop (sp_X0_drop : List ab_V → ab_M → ab_O) : ab_T := [(0, some (s_iload 3 1)), (1, some (s_const (vI 12) 3)), (3, some (s_cmplt 8 6)), (6, some (s_const (vI 0) 7)), (7, some (s_ret 0)), (8, some (s_aload 0 9)), (9, some (s_getR 2 1 12)), (12, some (s_iload 1 13)), (13, some (s_ald 100 14)), (14, some (s_istore 4 16)), (16, some (s_iload 4 18)), (18, some (s_iload 2 19)), (19, some (s_bin (· - ·) 20)), (20, some (s_const (vI 1) 21)), (21, some (s_bin (· + ·) 22)), (22, some (s_istore 5 24)), (24, some (s_aload 0 25)), (25, some (s_getR 2 1 28)), (28, some (s_iload 1 29)), (29, some (s_iload 2 30)), (30, some (s_const (vI 1) 31)), (31, some (s_bin (· - ·) 32)), (32, some (s_ast 100 33)), (33, some (s_iload 2 34)), (34, some (s_istore 6 36)), (36, none)] ++ T_X0_drop_36 sp_X0_drop
set_option maxRecDepth 20000 in
theorem mt_X0_drop {sp_X0_drop : List ab_V → ab_M → ab_O} : MonoT (T_X0_drop sp_X0_drop) := MA_mem (And.intro mono_iload (And.intro mono_const (And.intro mono_cmplt (And.intro mono_const (And.intro mono_ret (And.intro mono_aload (And.intro mono_getR (And.intro mono_iload (And.intro mono_ald (And.intro mono_istore (And.intro mono_iload (And.intro mono_iload (And.intro mono_bin (And.intro mono_const (And.intro mono_bin (And.intro mono_istore (And.intro mono_aload (And.intro mono_getR (And.intro mono_iload (And.intro mono_iload (And.intro mono_const (And.intro mono_bin (And.intro mono_ast (And.intro mono_iload (And.intro mono_istore (And.intro mono_iload (And.intro mono_iload (And.intro mono_cmpgt (And.intro mono_const (And.intro mono_istore (And.intro mono_iload (And.intro mono_aload (And.intro mono_getR (And.intro mono_getI (And.intro mono_cmplt (And.intro mono_aload (And.intro mono_getR (And.intro mono_iload (And.intro mono_ald (And.intro mono_iload (And.intro mono_cmplt (And.intro mono_aload (And.intro mono_getR (And.intro mono_getR (And.intro mono_iload (And.intro mono_aald (And.intro mono_iload (And.intro mono_ald (And.intro mono_iload (And.intro mono_cmpeq (And.intro mono_iload (And.intro mono_aload (And.intro mono_iload (And.intro mono_iload (And.intro mono_iload (And.intro mono_const (And.intro mono_bin (And.intro mono_call (And.intro mono_bin (And.intro mono_istore (And.intro mono_iinc (And.intro mono_goto (And.intro mono_iinc (And.intro mono_goto (And.intro mono_iload (And.intro mono_ret trivial))))))))))))))))))))))))))))))))))))))))))))))))))))))))))))))))))
set_option maxRecDepth 20000 in
set_option maxHeartbeats 4000000 in
theorem snd_X0_drop {l : Launch} {D : va_G} {cA : Nat → ClassId} {d : Nat} {sp_X0_drop : List ab_V → ab_M → ab_O} {d' : Nat} (hd9 : d' + 1 ≤ d) (hC_X0_drop : ∀ as m, Ctr l D cA d' yX0_drop (Cond.code yX0_drop cX0_drop 8 (some .int) :: TB) as m (sp_X0_drop as m)) : Sound l D cA d 8 yX0_drop cX0_drop (some .int) [] (T_X0_drop sp_X0_drop) := by
  intro p e R s m args below meth c loc0 m0 r Q E hQ h0 hrt hnm htab
  exact SA_mem (And.intro (fun ls st mm h => so_iload_n E rfl dX0_drop_0 h) (And.intro (fun ls st mm h => so_bipush E (by decide) dX0_drop_1 h) (And.intro (fun ls st mm h => so_icmplt E (tgt := 8) (by decide) dX0_drop_3 h) (And.intro (fun ls st mm h => so_iconst E (by decide) dX0_drop_6 h) (And.intro (fun ls st mm h => so_ireturn E hQ rfl (fun _ h => h) h0 (ty := .int) hrt (Or.inl ⟨rfl, rfl⟩) dX0_drop_7 h) (And.intro (fun ls st mm h => so_aload_n E rfl dX0_drop_8 h) (And.intro (fun ls st mm h => so_getR E (C := RX0) (T := TX0) (N := 2) (ck := 2) rfl rfl (by decide) tu_X0 (k := 1) (ref := "Iemotohall$Falling") (by decide) (by decide) tw_t1_188 (fun _ h => h) dX0_drop_9 h) (And.intro (fun ls st mm h => so_iload_n E rfl dX0_drop_12 h) (And.intro (fun ls st mm h => so_iald E dX0_drop_13 h) (And.intro (fun ls st mm h => so_istore E dX0_drop_14 h) (And.intro (fun ls st mm h => so_iload E dX0_drop_16 h) (And.intro (fun ls st mm h => so_iload_n E rfl dX0_drop_18 h) (And.intro (fun ls st mm h => so_isub E dX0_drop_19 h) (And.intro (fun ls st mm h => so_iconst E (by decide) dX0_drop_20 h) (And.intro (fun ls st mm h => so_iadd E dX0_drop_21 h) (And.intro (fun ls st mm h => so_istore E dX0_drop_22 h) (And.intro (fun ls st mm h => so_aload_n E rfl dX0_drop_24 h) (And.intro (fun ls st mm h => so_getR E (C := RX0) (T := TX0) (N := 2) (ck := 2) rfl rfl (by decide) tu_X0 (k := 1) (ref := "Iemotohall$Falling") (by decide) (by decide) tw_t1_188 (fun _ h => h) dX0_drop_25 h) (And.intro (fun ls st mm h => so_iload_n E rfl dX0_drop_28 h) (And.intro (fun ls st mm h => so_iload_n E rfl dX0_drop_29 h) (And.intro (fun ls st mm h => so_iconst E (by decide) dX0_drop_30 h) (And.intro (fun ls st mm h => so_isub E dX0_drop_31 h) (And.intro (fun ls st mm h => so_iast E dX0_drop_32 h) (And.intro (fun ls st mm h => so_iload_n E rfl dX0_drop_33 h) (And.intro (fun ls st mm h => so_istore E dX0_drop_34 h) (And.intro (fun ls st mm h => so_iload E dX0_drop_36 h) (And.intro (fun ls st mm h => so_iload E dX0_drop_38 h) (And.intro (fun ls st mm h => so_icmpgt E (tgt := 115) (by decide) dX0_drop_40 h) (And.intro (fun ls st mm h => so_iconst E (by decide) dX0_drop_43 h) (And.intro (fun ls st mm h => so_istore E dX0_drop_44 h) (And.intro (fun ls st mm h => so_iload E dX0_drop_46 h) (And.intro (fun ls st mm h => so_aload_n E rfl dX0_drop_48 h) (And.intro (fun ls st mm h => so_getR E (C := RX0) (T := TX0) (N := 2) (ck := 2) rfl rfl (by decide) tu_X0 (k := 0) (ref := "Iemotohall$Falling") (by decide) (by decide) tw_t1_187 (fun _ h => h) dX0_drop_49 h) (And.intro (fun ls st mm h => so_getI E (C := RX2) (T := TX2) (N := 12) (ck := 4) rfl rfl (by decide) tu_X2 (k := 0) (ref := "Iemotohall$People") (by decide) (by decide) tw_t1_34 (fun _ h => h) dX0_drop_52 h) (And.intro (fun ls st mm h => so_icmpge E (tgt := 109) (by decide) dX0_drop_55 h) (And.intro (fun ls st mm h => so_aload_n E rfl dX0_drop_58 h) (And.intro (fun ls st mm h => so_getR E (C := RX0) (T := TX0) (N := 2) (ck := 2) rfl rfl (by decide) tu_X0 (k := 1) (ref := "Iemotohall$Falling") (by decide) (by decide) tw_t1_188 (fun _ h => h) dX0_drop_59 h) (And.intro (fun ls st mm h => so_iload E dX0_drop_62 h) (And.intro (fun ls st mm h => so_iald E dX0_drop_64 h) (And.intro (fun ls st mm h => so_iload E dX0_drop_65 h) (And.intro (fun ls st mm h => so_icmplt E (tgt := 103) (by decide) dX0_drop_67 h) (And.intro (fun ls st mm h => so_aload_n E rfl dX0_drop_70 h) (And.intro (fun ls st mm h => so_getR E (C := RX0) (T := TX0) (N := 2) (ck := 2) rfl rfl (by decide) tu_X0 (k := 0) (ref := "Iemotohall$Falling") (by decide) (by decide) tw_t1_187 (fun _ h => h) dX0_drop_71 h) (And.intro (fun ls st mm h => so_getR E (C := RX2) (T := TX2) (N := 12) (ck := 4) rfl rfl (by decide) tu_X2 (k := 10) (ref := "Iemotohall$People") (by decide) (by decide) tw_t1_55 (fun _ h => h) dX0_drop_74 h) (And.intro (fun ls st mm h => so_iload E dX0_drop_77 h) (And.intro (fun ls st mm h => so_aald2 E dX0_drop_79 h) (And.intro (fun ls st mm h => so_iload E dX0_drop_80 h) (And.intro (fun ls st mm h => so_iald E dX0_drop_82 h) (And.intro (fun ls st mm h => so_iload_n E rfl dX0_drop_83 h) (And.intro (fun ls st mm h => so_icmpne E (tgt := 103) (by decide) dX0_drop_84 h) (And.intro (fun ls st mm h => so_iload E dX0_drop_87 h) (And.intro (fun ls st mm h => so_aload_n E rfl dX0_drop_89 h) (And.intro (fun ls st mm h => so_iload E dX0_drop_90 h) (And.intro (fun ls st mm h => so_iload E dX0_drop_92 h) (And.intro (fun ls st mm h => so_iload_n E rfl dX0_drop_94 h) (And.intro (fun ls st mm h => so_iconst E (by decide) dX0_drop_95 h) (And.intro (fun ls st mm h => so_iadd E dX0_drop_96 h) (And.intro (fun ls st mm h => so_callV E hQ rfl (fun _ h => h) h0 (idx := 28) (C := RX0) (T := TX0) (N := 2) rfl (by decide) (by decide) rfl hd9 (by decide) hC_X0_drop (hd_nil htab) tw_t2_161 tw_t2_163 tw_p1_5 tw_t1_6 tw_t2_164 (by decide +kernel) dX0_drop_97 h) (And.intro (fun ls st mm h => so_iadd E dX0_drop_100 h) (And.intro (fun ls st mm h => so_istore E dX0_drop_101 h) (And.intro (fun ls st mm h => so_iinc E (by decide) dX0_drop_103 h) (And.intro (fun ls st mm h => so_goto E (tgt := 46) (by decide) dX0_drop_106 h) (And.intro (fun ls st mm h => so_iinc E (by decide) dX0_drop_109 h) (And.intro (fun ls st mm h => so_goto E (tgt := 36) (by decide) dX0_drop_112 h) (And.intro (fun ls st mm h => so_iload E dX0_drop_115 h) (And.intro (fun ls st mm h => so_ireturn E hQ rfl (fun _ h => h) h0 (ty := .int) hrt (Or.inl ⟨rfl, rfl⟩) dX0_drop_117 h) (trivial)))))))))))))))))))))))))))))))))))))))))))))))))))))))))))))))))))
theorem dX1_init_0 : decode cX1_init 0 = .ok (.aload_n 0, 1) := by decide +kernel
theorem dX1_init_1 : decode cX1_init 1 = .ok (.invokespecial 3, 3) := by decide +kernel
theorem dX1_init_4 : decode cX1_init 4 = .ok (.aload_n 0, 1) := by decide +kernel
theorem dX1_init_5 : decode cX1_init 5 = .ok (.iconst 4, 1) := by decide +kernel
theorem dX1_init_6 : decode cX1_init 6 = .ok (.newarray .int, 2) := by decide +kernel
theorem dX1_init_8 : decode cX1_init 8 = .ok (.putfield 9, 3) := by decide +kernel
theorem dX1_init_11 : decode cX1_init 11 = .ok (.aload_n 0, 1) := by decide +kernel
theorem dX1_init_12 : decode cX1_init 12 = .ok (.iconst 4, 1) := by decide +kernel
theorem dX1_init_13 : decode cX1_init 13 = .ok (.newarray .int, 2) := by decide +kernel
theorem dX1_init_15 : decode cX1_init 15 = .ok (.putfield 15, 3) := by decide +kernel
theorem dX1_init_18 : decode cX1_init 18 = .ok (.return_, 1) := by decide +kernel
def T_X1_init : ab_T := [(0, some (s_aload 0 1)), (1, some (s_obj 4)), (4, some (s_aload 0 5)), (5, some (s_const (vI 4) 6)), (6, some (s_newa 3 8)), (8, some (s_putR 3 1 11)), (11, some (s_aload 0 12)), (12, some (s_const (vI 4) 13)), (13, some (s_newa 4 15)), (15, some (s_putR 3 2 18)), (18, some (s_retV))]
set_option maxRecDepth 20000 in
theorem mt_X1_init : MonoT (T_X1_init) := MA_mem (And.intro mono_aload (And.intro mono_obj (And.intro mono_aload (And.intro mono_const (And.intro mono_newa (And.intro mono_putR (And.intro mono_aload (And.intro mono_const (And.intro mono_newa (And.intro mono_putR (And.intro mono_retV trivial)))))))))))
set_option maxRecDepth 20000 in
set_option maxHeartbeats 4000000 in
theorem snd_X1_init {l : Launch} {D : va_G} {cA : Nat → ClassId} {d : Nat} : Sound l D cA d 1 yX1_init cX1_init none [] (T_X1_init) := by
  intro p e R s m args below meth c loc0 m0 r Q E hQ h0 hrt hnm htab
  exact SA_mem (And.intro (fun ls st mm h => so_aload_n E rfl dX1_init_0 h) (And.intro (fun ls st mm h => so_obj E tw_t1_90 tw_t1_22 tw_t1_23 dX1_init_1 h) (And.intro (fun ls st mm h => so_aload_n E rfl dX1_init_4 h) (And.intro (fun ls st mm h => so_iconst E (by decide) dX1_init_5 h) (And.intro (fun ls st mm h => so_newa100 E (t := 3) rfl tw_t1_83 dX1_init_6 h) (And.intro (fun ls st mm h => so_putRF E (C := RX1) (T := TX1) (N := 3) (ck := 3) rfl rfl (by decide) tu_X1 (k := 1) (ref := "Iemotohall$Houses") (by decide) (by decide) tyX1 tyX1_ok nmX1 tw_t1_93 (fun _ h => h) rfl hnm rfl (Or.inr ⟨_, rfl⟩) (tyX1_ok 1 (by decide)) dX1_init_8 sk2_3 h) (And.intro (fun ls st mm h => so_aload_n E rfl dX1_init_11 h) (And.intro (fun ls st mm h => so_iconst E (by decide) dX1_init_12 h) (And.intro (fun ls st mm h => so_newa100 E (t := 4) rfl tw_t1_83 dX1_init_13 h) (And.intro (fun ls st mm h => so_putRF E (C := RX1) (T := TX1) (N := 3) (ck := 3) rfl rfl (by decide) tu_X1 (k := 2) (ref := "Iemotohall$Houses") (by decide) (by decide) tyX1 tyX1_ok nmX1 tw_t1_95 (fun _ h => h) rfl hnm rfl (Or.inr ⟨_, rfl⟩) (tyX1_ok 2 (by decide)) dX1_init_15 sk2_3 h) (And.intro (fun ls st mm h => so_vreturn E hQ rfl (fun _ h => h) h0 hrt dX1_init_18 h) (trivial))))))))))))
theorem dX1_add_0 : decode cX1_add 0 = .ok (.aload_n 0, 1) := by decide +kernel
theorem dX1_add_1 : decode cX1_add 1 = .ok (.getfield 18, 3) := by decide +kernel
theorem dX1_add_4 : decode cX1_add 4 = .ok (.istore_n 2, 1) := by decide +kernel
theorem dX1_add_5 : decode cX1_add 5 = .ok (.aload_n 0, 1) := by decide +kernel
theorem dX1_add_6 : decode cX1_add 6 = .ok (.getfield 9, 3) := by decide +kernel
theorem dX1_add_9 : decode cX1_add 9 = .ok (.iload_n 2, 1) := by decide +kernel
theorem dX1_add_10 : decode cX1_add 10 = .ok (.iload_n 1, 1) := by decide +kernel
theorem dX1_add_11 : decode cX1_add 11 = .ok (.iastore, 1) := by decide +kernel
theorem dX1_add_12 : decode cX1_add 12 = .ok (.aload_n 0, 1) := by decide +kernel
theorem dX1_add_13 : decode cX1_add 13 = .ok (.getfield 15, 3) := by decide +kernel
theorem dX1_add_16 : decode cX1_add 16 = .ok (.iload_n 2, 1) := by decide +kernel
theorem dX1_add_17 : decode cX1_add 17 = .ok (.iconst (-1), 1) := by decide +kernel
theorem dX1_add_18 : decode cX1_add 18 = .ok (.iastore, 1) := by decide +kernel
theorem dX1_add_19 : decode cX1_add 19 = .ok (.aload_n 0, 1) := by decide +kernel
theorem dX1_add_20 : decode cX1_add 20 = .ok (.dup, 1) := by decide +kernel
theorem dX1_add_21 : decode cX1_add 21 = .ok (.getfield 18, 3) := by decide +kernel
theorem dX1_add_24 : decode cX1_add 24 = .ok (.iconst 1, 1) := by decide +kernel
theorem dX1_add_25 : decode cX1_add 25 = .ok (.iadd, 1) := by decide +kernel
theorem dX1_add_26 : decode cX1_add 26 = .ok (.putfield 18, 3) := by decide +kernel
theorem dX1_add_29 : decode cX1_add 29 = .ok (.iload_n 2, 1) := by decide +kernel
theorem dX1_add_30 : decode cX1_add 30 = .ok (.ireturn, 1) := by decide +kernel
def T_X1_add : ab_T := [(0, some (s_aload 0 1)), (1, some (s_getI 3 0 4)), (4, some (s_istore 2 5)), (5, some (s_aload 0 6)), (6, some (s_getR 3 1 9)), (9, some (s_iload 2 10)), (10, some (s_iload 1 11)), (11, some (s_ast 100 12)), (12, some (s_aload 0 13)), (13, some (s_getR 3 2 16)), (16, some (s_iload 2 17)), (17, some (s_const (vI (-1)) 18)), (18, some (s_ast 100 19)), (19, some (s_aload 0 20)), (20, some (s_dup 21)), (21, some (s_getI 3 0 24)), (24, some (s_const (vI 1) 25)), (25, some (s_bin (· + ·) 26)), (26, some (s_putI 3 0 29)), (29, some (s_iload 2 30)), (30, some (s_ret 0))]
set_option maxRecDepth 20000 in
theorem mt_X1_add : MonoT (T_X1_add) := MA_mem (And.intro mono_aload (And.intro mono_getI (And.intro mono_istore (And.intro mono_aload (And.intro mono_getR (And.intro mono_iload (And.intro mono_iload (And.intro mono_ast (And.intro mono_aload (And.intro mono_getR (And.intro mono_iload (And.intro mono_const (And.intro mono_ast (And.intro mono_aload (And.intro mono_dup (And.intro mono_getI (And.intro mono_const (And.intro mono_bin (And.intro mono_putI (And.intro mono_iload (And.intro mono_ret trivial)))))))))))))))))))))
set_option maxRecDepth 20000 in
set_option maxHeartbeats 4000000 in
theorem snd_X1_add {l : Launch} {D : va_G} {cA : Nat → ClassId} {d : Nat} : Sound l D cA d 3 yX1_add cX1_add (some .int) [] (T_X1_add) := by
  intro p e R s m args below meth c loc0 m0 r Q E hQ h0 hrt hnm htab
  exact SA_mem (And.intro (fun ls st mm h => so_aload_n E rfl dX1_add_0 h) (And.intro (fun ls st mm h => so_getI E (C := RX1) (T := TX1) (N := 3) (ck := 3) rfl rfl (by decide) tu_X1 (k := 0) (ref := "Iemotohall$Houses") (by decide) (by decide) tw_t1_91 (fun _ h => h) dX1_add_1 h) (And.intro (fun ls st mm h => so_istore_n E rfl dX1_add_4 h) (And.intro (fun ls st mm h => so_aload_n E rfl dX1_add_5 h) (And.intro (fun ls st mm h => so_getR E (C := RX1) (T := TX1) (N := 3) (ck := 3) rfl rfl (by decide) tu_X1 (k := 1) (ref := "Iemotohall$Houses") (by decide) (by decide) tw_t1_93 (fun _ h => h) dX1_add_6 h) (And.intro (fun ls st mm h => so_iload_n E rfl dX1_add_9 h) (And.intro (fun ls st mm h => so_iload_n E rfl dX1_add_10 h) (And.intro (fun ls st mm h => so_iast E dX1_add_11 h) (And.intro (fun ls st mm h => so_aload_n E rfl dX1_add_12 h) (And.intro (fun ls st mm h => so_getR E (C := RX1) (T := TX1) (N := 3) (ck := 3) rfl rfl (by decide) tu_X1 (k := 2) (ref := "Iemotohall$Houses") (by decide) (by decide) tw_t1_95 (fun _ h => h) dX1_add_13 h) (And.intro (fun ls st mm h => so_iload_n E rfl dX1_add_16 h) (And.intro (fun ls st mm h => so_iconst E (by decide) dX1_add_17 h) (And.intro (fun ls st mm h => so_iast E dX1_add_18 h) (And.intro (fun ls st mm h => so_aload_n E rfl dX1_add_19 h) (And.intro (fun ls st mm h => so_dup E dX1_add_20 h) (And.intro (fun ls st mm h => so_getI E (C := RX1) (T := TX1) (N := 3) (ck := 3) rfl rfl (by decide) tu_X1 (k := 0) (ref := "Iemotohall$Houses") (by decide) (by decide) tw_t1_91 (fun _ h => h) dX1_add_21 h) (And.intro (fun ls st mm h => so_iconst E (by decide) dX1_add_24 h) (And.intro (fun ls st mm h => so_iadd E dX1_add_25 h) (And.intro (fun ls st mm h => so_putI E (C := RX1) (T := TX1) (N := 3) (ck := 3) rfl rfl (by decide) tu_X1 (k := 0) (ref := "Iemotohall$Houses") (by decide) (by decide) tyX1 tyX1_ok nmX1 tw_t1_91 (fun _ h => h) rfl (tyX1_ok 0 (by decide)) dX1_add_26 sk2_3 h) (And.intro (fun ls st mm h => so_iload_n E rfl dX1_add_29 h) (And.intro (fun ls st mm h => so_ireturn E hQ rfl (fun _ h => h) h0 (ty := .int) hrt (Or.inl ⟨rfl, rfl⟩) dX1_add_30 h) (trivial))))))))))))))))))))))
theorem dX2_init_0 : decode cX2_init 0 = .ok (.aload_n 0, 1) := by decide +kernel
theorem dX2_init_1 : decode cX2_init 1 = .ok (.invokespecial 3, 3) := by decide +kernel
theorem dX2_init_4 : decode cX2_init 4 = .ok (.aload_n 0, 1) := by decide +kernel
theorem dX2_init_5 : decode cX2_init 5 = .ok (.bipush 12, 2) := by decide +kernel
theorem dX2_init_7 : decode cX2_init 7 = .ok (.newarray .int, 2) := by decide +kernel
theorem dX2_init_9 : decode cX2_init 9 = .ok (.putfield 9, 3) := by decide +kernel
theorem dX2_init_12 : decode cX2_init 12 = .ok (.aload_n 0, 1) := by decide +kernel
theorem dX2_init_13 : decode cX2_init 13 = .ok (.bipush 12, 2) := by decide +kernel
theorem dX2_init_15 : decode cX2_init 15 = .ok (.newarray .int, 2) := by decide +kernel
theorem dX2_init_17 : decode cX2_init 17 = .ok (.putfield 15, 3) := by decide +kernel
theorem dX2_init_20 : decode cX2_init 20 = .ok (.aload_n 0, 1) := by decide +kernel
theorem dX2_init_21 : decode cX2_init 21 = .ok (.bipush 12, 2) := by decide +kernel
theorem dX2_init_23 : decode cX2_init 23 = .ok (.newarray .int, 2) := by decide +kernel
theorem dX2_init_25 : decode cX2_init 25 = .ok (.putfield 18, 3) := by decide +kernel
theorem dX2_init_28 : decode cX2_init 28 = .ok (.aload_n 0, 1) := by decide +kernel
theorem dX2_init_29 : decode cX2_init 29 = .ok (.bipush 12, 2) := by decide +kernel
theorem dX2_init_31 : decode cX2_init 31 = .ok (.newarray .int, 2) := by decide +kernel
theorem dX2_init_33 : decode cX2_init 33 = .ok (.putfield 21, 3) := by decide +kernel
theorem dX2_init_36 : decode cX2_init 36 = .ok (.aload_n 0, 1) := by decide +kernel
theorem dX2_init_37 : decode cX2_init 37 = .ok (.bipush 12, 2) := by decide +kernel
theorem dX2_init_39 : decode cX2_init 39 = .ok (.newarray .int, 2) := by decide +kernel
theorem dX2_init_41 : decode cX2_init 41 = .ok (.putfield 24, 3) := by decide +kernel
theorem dX2_init_44 : decode cX2_init 44 = .ok (.aload_n 0, 1) := by decide +kernel
theorem dX2_init_45 : decode cX2_init 45 = .ok (.bipush 12, 2) := by decide +kernel
theorem dX2_init_47 : decode cX2_init 47 = .ok (.newarray .int, 2) := by decide +kernel
theorem dX2_init_49 : decode cX2_init 49 = .ok (.putfield 27, 3) := by decide +kernel
theorem dX2_init_52 : decode cX2_init 52 = .ok (.aload_n 0, 1) := by decide +kernel
theorem dX2_init_53 : decode cX2_init 53 = .ok (.bipush 12, 2) := by decide +kernel
theorem dX2_init_55 : decode cX2_init 55 = .ok (.newarray .int, 2) := by decide +kernel
theorem dX2_init_57 : decode cX2_init 57 = .ok (.putfield 30, 3) := by decide +kernel
theorem dX2_init_60 : decode cX2_init 60 = .ok (.aload_n 0, 1) := by decide +kernel
theorem dX2_init_61 : decode cX2_init 61 = .ok (.bipush 12, 2) := by decide +kernel
theorem dX2_init_63 : decode cX2_init 63 = .ok (.newarray .int, 2) := by decide +kernel
theorem dX2_init_65 : decode cX2_init 65 = .ok (.putfield 33, 3) := by decide +kernel
theorem dX2_init_68 : decode cX2_init 68 = .ok (.aload_n 0, 1) := by decide +kernel
theorem dX2_init_69 : decode cX2_init 69 = .ok (.bipush 12, 2) := by decide +kernel
theorem dX2_init_71 : decode cX2_init 71 = .ok (.newarray .boolean, 2) := by decide +kernel
theorem dX2_init_73 : decode cX2_init 73 = .ok (.putfield 36, 3) := by decide +kernel
theorem dX2_init_76 : decode cX2_init 76 = .ok (.aload_n 0, 1) := by decide +kernel
theorem dX2_init_77 : decode cX2_init 77 = .ok (.bipush 12, 2) := by decide +kernel
theorem dX2_init_79 : decode cX2_init 79 = .ok (.bipush 10, 2) := by decide +kernel
theorem dX2_init_81 : decode cX2_init 81 = .ok (.multianewarray 40 2, 4) := by decide +kernel
theorem dX2_init_85 : decode cX2_init 85 = .ok (.putfield 42, 3) := by decide +kernel
theorem dX2_init_88 : decode cX2_init 88 = .ok (.aload_n 0, 1) := by decide +kernel
theorem dX2_init_89 : decode cX2_init 89 = .ok (.bipush 12, 2) := by decide +kernel
theorem dX2_init_91 : decode cX2_init 91 = .ok (.bipush 10, 2) := by decide +kernel
theorem dX2_init_93 : decode cX2_init 93 = .ok (.multianewarray 40 2, 4) := by decide +kernel
theorem dX2_init_97 : decode cX2_init 97 = .ok (.putfield 45, 3) := by decide +kernel
theorem dX2_init_100 : decode cX2_init 100 = .ok (.return_, 1) := by decide +kernel
def T_X2_init : ab_T := [(0, some (s_aload 0 1)), (1, some (s_obj 4)), (4, some (s_aload 0 5)), (5, some (s_const (vI 12) 7)), (7, some (s_newa 5 9)), (9, some (s_putR 4 1 12)), (12, some (s_aload 0 13)), (13, some (s_const (vI 12) 15)), (15, some (s_newa 6 17)), (17, some (s_putR 4 2 20)), (20, some (s_aload 0 21)), (21, some (s_const (vI 12) 23)), (23, some (s_newa 7 25)), (25, some (s_putR 4 3 28)), (28, some (s_aload 0 29)), (29, some (s_const (vI 12) 31)), (31, some (s_newa 8 33)), (33, some (s_putR 4 4 36)), (36, some (s_aload 0 37)), (37, some (s_const (vI 12) 39)), (39, some (s_newa 9 41)), (41, some (s_putR 4 5 44)), (44, some (s_aload 0 45)), (45, some (s_const (vI 12) 47)), (47, some (s_newa 10 49)), (49, some (s_putR 4 6 52)), (52, some (s_aload 0 53)), (53, some (s_const (vI 12) 55)), (55, some (s_newa 11 57)), (57, some (s_putR 4 7 60)), (60, some (s_aload 0 61)), (61, some (s_const (vI 12) 63)), (63, some (s_newa 12 65)), (65, some (s_putR 4 8 68)), (68, some (s_aload 0 69)), (69, some (s_const (vI 12) 71)), (71, some (s_newa 13 73)), (73, some (s_putR 4 9 76)), (76, some (s_aload 0 77)), (77, some (s_const (vI 12) 79)), (79, some (s_const (vI 10) 81)), (81, some (s_multi 14 15 85)), (85, some (s_putR 4 10 88)), (88, some (s_aload 0 89)), (89, some (s_const (vI 12) 91)), (91, some (s_const (vI 10) 93)), (93, some (s_multi 16 17 97)), (97, some (s_putR 4 11 100)), (100, some (s_retV))]
set_option maxRecDepth 20000 in
theorem mt_X2_init : MonoT (T_X2_init) := MA_mem (And.intro mono_aload (And.intro mono_obj (And.intro mono_aload (And.intro mono_const (And.intro mono_newa (And.intro mono_putR (And.intro mono_aload (And.intro mono_const (And.intro mono_newa (And.intro mono_putR (And.intro mono_aload (And.intro mono_const (And.intro mono_newa (And.intro mono_putR (And.intro mono_aload (And.intro mono_const (And.intro mono_newa (And.intro mono_putR (And.intro mono_aload (And.intro mono_const (And.intro mono_newa (And.intro mono_putR (And.intro mono_aload (And.intro mono_const (And.intro mono_newa (And.intro mono_putR (And.intro mono_aload (And.intro mono_const (And.intro mono_newa (And.intro mono_putR (And.intro mono_aload (And.intro mono_const (And.intro mono_newa (And.intro mono_putR (And.intro mono_aload (And.intro mono_const (And.intro mono_newa (And.intro mono_putR (And.intro mono_aload (And.intro mono_const (And.intro mono_const (And.intro mono_multi (And.intro mono_putR (And.intro mono_aload (And.intro mono_const (And.intro mono_const (And.intro mono_multi (And.intro mono_putR (And.intro mono_retV trivial)))))))))))))))))))))))))))))))))))))))))))))))))
set_option maxRecDepth 20000 in
set_option maxHeartbeats 4000000 in
theorem snd_X2_init {l : Launch} {D : va_G} {cA : Nat → ClassId} {d : Nat} : Sound l D cA d 1 yX2_init cX2_init none [] (T_X2_init) := by
  intro p e R s m args below meth c loc0 m0 r Q E hQ h0 hrt hnm htab
  exact SA_mem (And.intro (fun ls st mm h => so_aload_n E rfl dX2_init_0 h) (And.intro (fun ls st mm h => so_obj E tw_t1_29 tw_t1_22 tw_t1_23 dX2_init_1 h) (And.intro (fun ls st mm h => so_aload_n E rfl dX2_init_4 h) (And.intro (fun ls st mm h => so_bipush E (by decide) dX2_init_5 h) (And.intro (fun ls st mm h => so_newa100 E (t := 5) rfl tw_t1_83 dX2_init_7 h) (And.intro (fun ls st mm h => so_putRF E (C := RX2) (T := TX2) (N := 12) (ck := 4) rfl rfl (by decide) tu_X2 (k := 1) (ref := "Iemotohall$People") (by decide) (by decide) tyX2 tyX2_ok nmX2 tw_t1_35 (fun _ h => h) rfl hnm rfl (Or.inr ⟨_, rfl⟩) (tyX2_ok 1 (by decide)) dX2_init_9 sk2_4 h) (And.intro (fun ls st mm h => so_aload_n E rfl dX2_init_12 h) (And.intro (fun ls st mm h => so_bipush E (by decide) dX2_init_13 h) (And.intro (fun ls st mm h => so_newa100 E (t := 6) rfl tw_t1_83 dX2_init_15 h) (And.intro (fun ls st mm h => so_putRF E (C := RX2) (T := TX2) (N := 12) (ck := 4) rfl rfl (by decide) tu_X2 (k := 2) (ref := "Iemotohall$People") (by decide) (by decide) tyX2 tyX2_ok nmX2 tw_t1_37 (fun _ h => h) rfl hnm rfl (Or.inr ⟨_, rfl⟩) (tyX2_ok 2 (by decide)) dX2_init_17 sk2_4 h) (And.intro (fun ls st mm h => so_aload_n E rfl dX2_init_20 h) (And.intro (fun ls st mm h => so_bipush E (by decide) dX2_init_21 h) (And.intro (fun ls st mm h => so_newa100 E (t := 7) rfl tw_t1_83 dX2_init_23 h) (And.intro (fun ls st mm h => so_putRF E (C := RX2) (T := TX2) (N := 12) (ck := 4) rfl rfl (by decide) tu_X2 (k := 3) (ref := "Iemotohall$People") (by decide) (by decide) tyX2 tyX2_ok nmX2 tw_t1_39 (fun _ h => h) rfl hnm rfl (Or.inr ⟨_, rfl⟩) (tyX2_ok 3 (by decide)) dX2_init_25 sk2_4 h) (And.intro (fun ls st mm h => so_aload_n E rfl dX2_init_28 h) (And.intro (fun ls st mm h => so_bipush E (by decide) dX2_init_29 h) (And.intro (fun ls st mm h => so_newa100 E (t := 8) rfl tw_t1_83 dX2_init_31 h) (And.intro (fun ls st mm h => so_putRF E (C := RX2) (T := TX2) (N := 12) (ck := 4) rfl rfl (by decide) tu_X2 (k := 4) (ref := "Iemotohall$People") (by decide) (by decide) tyX2 tyX2_ok nmX2 tw_t1_42 (fun _ h => h) rfl hnm rfl (Or.inr ⟨_, rfl⟩) (tyX2_ok 4 (by decide)) dX2_init_33 sk2_4 h) (And.intro (fun ls st mm h => so_aload_n E rfl dX2_init_36 h) (And.intro (fun ls st mm h => so_bipush E (by decide) dX2_init_37 h) (And.intro (fun ls st mm h => so_newa100 E (t := 9) rfl tw_t1_83 dX2_init_39 h) (And.intro (fun ls st mm h => so_putRF E (C := RX2) (T := TX2) (N := 12) (ck := 4) rfl rfl (by decide) tu_X2 (k := 5) (ref := "Iemotohall$People") (by decide) (by decide) tyX2 tyX2_ok nmX2 tw_t1_44 (fun _ h => h) rfl hnm rfl (Or.inr ⟨_, rfl⟩) (tyX2_ok 5 (by decide)) dX2_init_41 sk2_4 h) (And.intro (fun ls st mm h => so_aload_n E rfl dX2_init_44 h) (And.intro (fun ls st mm h => so_bipush E (by decide) dX2_init_45 h) (And.intro (fun ls st mm h => so_newa100 E (t := 10) rfl tw_t1_83 dX2_init_47 h) (And.intro (fun ls st mm h => so_putRF E (C := RX2) (T := TX2) (N := 12) (ck := 4) rfl rfl (by decide) tu_X2 (k := 6) (ref := "Iemotohall$People") (by decide) (by decide) tyX2 tyX2_ok nmX2 tw_t1_46 (fun _ h => h) rfl hnm rfl (Or.inr ⟨_, rfl⟩) (tyX2_ok 6 (by decide)) dX2_init_49 sk2_4 h) (And.intro (fun ls st mm h => so_aload_n E rfl dX2_init_52 h) (And.intro (fun ls st mm h => so_bipush E (by decide) dX2_init_53 h) (And.intro (fun ls st mm h => so_newa100 E (t := 11) rfl tw_t1_83 dX2_init_55 h) (And.intro (fun ls st mm h => so_putRF E (C := RX2) (T := TX2) (N := 12) (ck := 4) rfl rfl (by decide) tu_X2 (k := 7) (ref := "Iemotohall$People") (by decide) (by decide) tyX2 tyX2_ok nmX2 tw_t1_48 (fun _ h => h) rfl hnm rfl (Or.inr ⟨_, rfl⟩) (tyX2_ok 7 (by decide)) dX2_init_57 sk2_4 h) (And.intro (fun ls st mm h => so_aload_n E rfl dX2_init_60 h) (And.intro (fun ls st mm h => so_bipush E (by decide) dX2_init_61 h) (And.intro (fun ls st mm h => so_newa100 E (t := 12) rfl tw_t1_83 dX2_init_63 h) (And.intro (fun ls st mm h => so_putRF E (C := RX2) (T := TX2) (N := 12) (ck := 4) rfl rfl (by decide) tu_X2 (k := 8) (ref := "Iemotohall$People") (by decide) (by decide) tyX2 tyX2_ok nmX2 tw_t1_50 (fun _ h => h) rfl hnm rfl (Or.inr ⟨_, rfl⟩) (tyX2_ok 8 (by decide)) dX2_init_65 sk2_4 h) (And.intro (fun ls st mm h => so_aload_n E rfl dX2_init_68 h) (And.intro (fun ls st mm h => so_bipush E (by decide) dX2_init_69 h) (And.intro (fun ls st mm h => so_newa101 E (t := 13) rfl tw_t1_84 dX2_init_71 h) (And.intro (fun ls st mm h => so_putRF E (C := RX2) (T := TX2) (N := 12) (ck := 4) rfl rfl (by decide) tu_X2 (k := 9) (ref := "Iemotohall$People") (by decide) (by decide) tyX2 tyX2_ok nmX2 tw_t1_51 (fun _ h => h) rfl hnm rfl (Or.inr ⟨_, rfl⟩) (tyX2_ok 9 (by decide)) dX2_init_73 sk2_4 h) (And.intro (fun ls st mm h => so_aload_n E rfl dX2_init_76 h) (And.intro (fun ls st mm h => so_bipush E (by decide) dX2_init_77 h) (And.intro (fun ls st mm h => so_bipush E (by decide) dX2_init_79 h) (And.intro (fun ls st mm h => so_multi E (t := 14) (s9 := 15) rfl rfl tw_t1_30 tw_t1_83 dX2_init_81 h) (And.intro (fun ls st mm h => so_putRF E (C := RX2) (T := TX2) (N := 12) (ck := 4) rfl rfl (by decide) tu_X2 (k := 10) (ref := "Iemotohall$People") (by decide) (by decide) tyX2 tyX2_ok nmX2 tw_t1_53 (fun _ h => h) rfl hnm rfl (Or.inr ⟨_, rfl⟩) (tyX2_ok 10 (by decide)) dX2_init_85 sk2_4 h) (And.intro (fun ls st mm h => so_aload_n E rfl dX2_init_88 h) (And.intro (fun ls st mm h => so_bipush E (by decide) dX2_init_89 h) (And.intro (fun ls st mm h => so_bipush E (by decide) dX2_init_91 h) (And.intro (fun ls st mm h => so_multi E (t := 16) (s9 := 17) rfl rfl tw_t1_30 tw_t1_83 dX2_init_93 h) (And.intro (fun ls st mm h => so_putRF E (C := RX2) (T := TX2) (N := 12) (ck := 4) rfl rfl (by decide) tu_X2 (k := 11) (ref := "Iemotohall$People") (by decide) (by decide) tyX2 tyX2_ok nmX2 tw_t1_56 (fun _ h => h) rfl hnm rfl (Or.inr ⟨_, rfl⟩) (tyX2_ok 11 (by decide)) dX2_init_97 sk2_4 h) (And.intro (fun ls st mm h => so_vreturn E hQ rfl (fun _ h => h) h0 hrt dX2_init_100 h) (trivial))))))))))))))))))))))))))))))))))))))))))))))))))
theorem dX2_add_0 : decode cX2_add 0 = .ok (.aload_n 0, 1) := by decide +kernel
theorem dX2_add_1 : decode cX2_add 1 = .ok (.getfield 48, 3) := by decide +kernel
theorem dX2_add_4 : decode cX2_add 4 = .ok (.istore 5, 2) := by decide +kernel
theorem dX2_add_6 : decode cX2_add 6 = .ok (.aload_n 0, 1) := by decide +kernel
theorem dX2_add_7 : decode cX2_add 7 = .ok (.getfield 9, 3) := by decide +kernel
theorem dX2_add_10 : decode cX2_add 10 = .ok (.iload 5, 2) := by decide +kernel
theorem dX2_add_12 : decode cX2_add 12 = .ok (.iload_n 1, 1) := by decide +kernel
theorem dX2_add_13 : decode cX2_add 13 = .ok (.iastore, 1) := by decide +kernel
theorem dX2_add_14 : decode cX2_add 14 = .ok (.aload_n 0, 1) := by decide +kernel
theorem dX2_add_15 : decode cX2_add 15 = .ok (.getfield 15, 3) := by decide +kernel
theorem dX2_add_18 : decode cX2_add 18 = .ok (.iload 5, 2) := by decide +kernel
theorem dX2_add_20 : decode cX2_add 20 = .ok (.iload_n 2, 1) := by decide +kernel
theorem dX2_add_21 : decode cX2_add 21 = .ok (.iastore, 1) := by decide +kernel
theorem dX2_add_22 : decode cX2_add 22 = .ok (.aload_n 0, 1) := by decide +kernel
theorem dX2_add_23 : decode cX2_add 23 = .ok (.getfield 24, 3) := by decide +kernel
theorem dX2_add_26 : decode cX2_add 26 = .ok (.iload 5, 2) := by decide +kernel
theorem dX2_add_28 : decode cX2_add 28 = .ok (.iload_n 3, 1) := by decide +kernel
theorem dX2_add_29 : decode cX2_add 29 = .ok (.iastore, 1) := by decide +kernel
theorem dX2_add_30 : decode cX2_add 30 = .ok (.aload_n 0, 1) := by decide +kernel
theorem dX2_add_31 : decode cX2_add 31 = .ok (.getfield 18, 3) := by decide +kernel
theorem dX2_add_34 : decode cX2_add 34 = .ok (.iload 5, 2) := by decide +kernel
theorem dX2_add_36 : decode cX2_add 36 = .ok (.iload 4, 2) := by decide +kernel
theorem dX2_add_38 : decode cX2_add 38 = .ok (.iastore, 1) := by decide +kernel
theorem dX2_add_39 : decode cX2_add 39 = .ok (.aload_n 0, 1) := by decide +kernel
theorem dX2_add_40 : decode cX2_add 40 = .ok (.getfield 21, 3) := by decide +kernel
theorem dX2_add_43 : decode cX2_add 43 = .ok (.iload 5, 2) := by decide +kernel
theorem dX2_add_45 : decode cX2_add 45 = .ok (.bipush 60, 2) := by decide +kernel
theorem dX2_add_47 : decode cX2_add 47 = .ok (.iastore, 1) := by decide +kernel
theorem dX2_add_48 : decode cX2_add 48 = .ok (.aload_n 0, 1) := by decide +kernel
theorem dX2_add_49 : decode cX2_add 49 = .ok (.getfield 36, 3) := by decide +kernel
theorem dX2_add_52 : decode cX2_add 52 = .ok (.iload 5, 2) := by decide +kernel
theorem dX2_add_54 : decode cX2_add 54 = .ok (.iconst 1, 1) := by decide +kernel
theorem dX2_add_55 : decode cX2_add 55 = .ok (.bastore, 1) := by decide +kernel
theorem dX2_add_56 : decode cX2_add 56 = .ok (.iconst 0, 1) := by decide +kernel
theorem dX2_add_57 : decode cX2_add 57 = .ok (.istore 6, 2) := by decide +kernel
theorem dX2_add_59 : decode cX2_add 59 = .ok (.iload 6, 2) := by decide +kernel
theorem dX2_add_61 : decode cX2_add 61 = .ok (.bipush 9, 2) := by decide +kernel
theorem dX2_add_63 : decode cX2_add 63 = .ok (.if_icmp .gt 31, 3) := by decide +kernel
theorem dX2_add_66 : decode cX2_add 66 = .ok (.aload_n 0, 1) := by decide +kernel
theorem dX2_add_67 : decode cX2_add 67 = .ok (.getfield 42, 3) := by decide +kernel
theorem dX2_add_70 : decode cX2_add 70 = .ok (.iload 5, 2) := by decide +kernel
theorem dX2_add_72 : decode cX2_add 72 = .ok (.aaload, 1) := by decide +kernel
theorem dX2_add_73 : decode cX2_add 73 = .ok (.iload 6, 2) := by decide +kernel
theorem dX2_add_75 : decode cX2_add 75 = .ok (.iconst (-1), 1) := by decide +kernel
theorem dX2_add_76 : decode cX2_add 76 = .ok (.iastore, 1) := by decide +kernel
theorem dX2_add_77 : decode cX2_add 77 = .ok (.aload_n 0, 1) := by decide +kernel
theorem dX2_add_78 : decode cX2_add 78 = .ok (.getfield 45, 3) := by decide +kernel
theorem dX2_add_81 : decode cX2_add 81 = .ok (.iload 5, 2) := by decide +kernel
theorem dX2_add_83 : decode cX2_add 83 = .ok (.aaload, 1) := by decide +kernel
theorem dX2_add_84 : decode cX2_add 84 = .ok (.iload 6, 2) := by decide +kernel
theorem dX2_add_86 : decode cX2_add 86 = .ok (.iconst (-1), 1) := by decide +kernel
theorem dX2_add_87 : decode cX2_add 87 = .ok (.iastore, 1) := by decide +kernel
theorem dX2_add_88 : decode cX2_add 88 = .ok (.iinc 6 1, 3) := by decide +kernel
theorem dX2_add_91 : decode cX2_add 91 = .ok (.goto (-32), 3) := by decide +kernel
theorem dX2_add_94 : decode cX2_add 94 = .ok (.aload_n 0, 1) := by decide +kernel
theorem dX2_add_95 : decode cX2_add 95 = .ok (.dup, 1) := by decide +kernel
theorem dX2_add_96 : decode cX2_add 96 = .ok (.getfield 48, 3) := by decide +kernel
theorem dX2_add_99 : decode cX2_add 99 = .ok (.iconst 1, 1) := by decide +kernel
theorem dX2_add_100 : decode cX2_add 100 = .ok (.iadd, 1) := by decide +kernel
theorem dX2_add_101 : decode cX2_add 101 = .ok (.putfield 48, 3) := by decide +kernel
theorem dX2_add_104 : decode cX2_add 104 = .ok (.iload 5, 2) := by decide +kernel
theorem dX2_add_106 : decode cX2_add 106 = .ok (.ireturn, 1) := by decide +kernel
def T_X2_add_59 : ab_T := [(59, some (s_iload 6 61)), (61, some (s_const (vI 9) 63)), (63, some (s_cmpgt 94 66)), (66, some (s_aload 0 67)), (67, some (s_getR 4 10 70)), (70, some (s_iload 5 72)), (72, some (s_aald 105 73)), (73, some (s_iload 6 75)), (75, some (s_const (vI (-1)) 76)), (76, some (s_ast 100 77)), (77, some (s_aload 0 78)), (78, some (s_getR 4 11 81)), (81, some (s_iload 5 83)), (83, some (s_aald 105 84)), (84, some (s_iload 6 86)), (86, some (s_const (vI (-1)) 87)), (87, some (s_ast 100 88)), (88, some (s_iinc 6 1 91)), (91, some (s_goto 59)), (94, some (s_aload 0 95)), (95, some (s_dup 96)), (96, some (s_getI 4 0 99)), (99, some (s_const (vI 1) 100)), (100, some (s_bin (· + ·) 101)), (101, some (s_putI 4 0 104)), (104, some (s_iload 5 106)), (106, some (s_ret 0))]
def T_X2_add : ab_T := [(0, some (s_aload 0 1)), (1, some (s_getI 4 0 4)), (4, some (s_istore 5 6)), (6, some (s_aload 0 7)), (7, some (s_getR 4 1 10)), (10, some (s_iload 5 12)), (12, some (s_iload 1 13)), (13, some (s_ast 100 14)), (14, some (s_aload 0 15)), (15, some (s_getR 4 2 18)), (18, some (s_iload 5 20)), (20, some (s_iload 2 21)), (21, some (s_ast 100 22)), (22, some (s_aload 0 23)), (23, some (s_getR 4 5 26)), (26, some (s_iload 5 28)), (28, some (s_iload 3 29)), (29, some (s_ast 100 30)), (30, some (s_aload 0 31)), (31, some (s_getR 4 3 34)), (34, some (s_iload 5 36)), (36, some (s_iload 4 38)), (38, some (s_ast 100 39)), (39, some (s_aload 0 40)), (40, some (s_getR 4 4 43)), (43, some (s_iload 5 45)), (45, some (s_const (vI 60) 47)), (47, some (s_ast 100 48)), (48, some (s_aload 0 49)), (49, some (s_getR 4 9 52)), (52, some (s_iload 5 54)), (54, some (s_const (vI 1) 55)), (55, some (s_zast 56)), (56, some (s_const (vI 0) 57)), (57, some (s_istore 6 59)), (59, none)] ++ T_X2_add_59
set_option maxRecDepth 20000 in
theorem mt_X2_add : MonoT (T_X2_add) := MA_mem (And.intro mono_aload (And.intro mono_getI (And.intro mono_istore (And.intro mono_aload (And.intro mono_getR (And.intro mono_iload (And.intro mono_iload (And.intro mono_ast (And.intro mono_aload (And.intro mono_getR (And.intro mono_iload (And.intro mono_iload (And.intro mono_ast (And.intro mono_aload (And.intro mono_getR (And.intro mono_iload (And.intro mono_iload (And.intro mono_ast (And.intro mono_aload (And.intro mono_getR (And.intro mono_iload (And.intro mono_iload (And.intro mono_ast (And.intro mono_aload (And.intro mono_getR (And.intro mono_iload (And.intro mono_const (And.intro mono_ast (And.intro mono_aload (And.intro mono_getR (And.intro mono_iload (And.intro mono_const (And.intro mono_zast (And.intro mono_const (And.intro mono_istore (And.intro mono_iload (And.intro mono_const (And.intro mono_cmpgt (And.intro mono_aload (And.intro mono_getR (And.intro mono_iload (And.intro mono_aald (And.intro mono_iload (And.intro mono_const (And.intro mono_ast (And.intro mono_aload (And.intro mono_getR (And.intro mono_iload (And.intro mono_aald (And.intro mono_iload (And.intro mono_const (And.intro mono_ast (And.intro mono_iinc (And.intro mono_goto (And.intro mono_aload (And.intro mono_dup (And.intro mono_getI (And.intro mono_const (And.intro mono_bin (And.intro mono_putI (And.intro mono_iload (And.intro mono_ret trivial))))))))))))))))))))))))))))))))))))))))))))))))))))))))))))))
set_option maxRecDepth 20000 in
set_option maxHeartbeats 4000000 in
theorem snd_X2_add {l : Launch} {D : va_G} {cA : Nat → ClassId} {d : Nat} : Sound l D cA d 7 yX2_add cX2_add (some .int) [] (T_X2_add) := by
  intro p e R s m args below meth c loc0 m0 r Q E hQ h0 hrt hnm htab
  exact SA_mem (And.intro (fun ls st mm h => so_aload_n E rfl dX2_add_0 h) (And.intro (fun ls st mm h => so_getI E (C := RX2) (T := TX2) (N := 12) (ck := 4) rfl rfl (by decide) tu_X2 (k := 0) (ref := "Iemotohall$People") (by decide) (by decide) tw_t1_32 (fun _ h => h) dX2_add_1 h) (And.intro (fun ls st mm h => so_istore E dX2_add_4 h) (And.intro (fun ls st mm h => so_aload_n E rfl dX2_add_6 h) (And.intro (fun ls st mm h => so_getR E (C := RX2) (T := TX2) (N := 12) (ck := 4) rfl rfl (by decide) tu_X2 (k := 1) (ref := "Iemotohall$People") (by decide) (by decide) tw_t1_35 (fun _ h => h) dX2_add_7 h) (And.intro (fun ls st mm h => so_iload E dX2_add_10 h) (And.intro (fun ls st mm h => so_iload_n E rfl dX2_add_12 h) (And.intro (fun ls st mm h => so_iast E dX2_add_13 h) (And.intro (fun ls st mm h => so_aload_n E rfl dX2_add_14 h) (And.intro (fun ls st mm h => so_getR E (C := RX2) (T := TX2) (N := 12) (ck := 4) rfl rfl (by decide) tu_X2 (k := 2) (ref := "Iemotohall$People") (by decide) (by decide) tw_t1_37 (fun _ h => h) dX2_add_15 h) (And.intro (fun ls st mm h => so_iload E dX2_add_18 h) (And.intro (fun ls st mm h => so_iload_n E rfl dX2_add_20 h) (And.intro (fun ls st mm h => so_iast E dX2_add_21 h) (And.intro (fun ls st mm h => so_aload_n E rfl dX2_add_22 h) (And.intro (fun ls st mm h => so_getR E (C := RX2) (T := TX2) (N := 12) (ck := 4) rfl rfl (by decide) tu_X2 (k := 5) (ref := "Iemotohall$People") (by decide) (by decide) tw_t1_44 (fun _ h => h) dX2_add_23 h) (And.intro (fun ls st mm h => so_iload E dX2_add_26 h) (And.intro (fun ls st mm h => so_iload_n E rfl dX2_add_28 h) (And.intro (fun ls st mm h => so_iast E dX2_add_29 h) (And.intro (fun ls st mm h => so_aload_n E rfl dX2_add_30 h) (And.intro (fun ls st mm h => so_getR E (C := RX2) (T := TX2) (N := 12) (ck := 4) rfl rfl (by decide) tu_X2 (k := 3) (ref := "Iemotohall$People") (by decide) (by decide) tw_t1_39 (fun _ h => h) dX2_add_31 h) (And.intro (fun ls st mm h => so_iload E dX2_add_34 h) (And.intro (fun ls st mm h => so_iload E dX2_add_36 h) (And.intro (fun ls st mm h => so_iast E dX2_add_38 h) (And.intro (fun ls st mm h => so_aload_n E rfl dX2_add_39 h) (And.intro (fun ls st mm h => so_getR E (C := RX2) (T := TX2) (N := 12) (ck := 4) rfl rfl (by decide) tu_X2 (k := 4) (ref := "Iemotohall$People") (by decide) (by decide) tw_t1_42 (fun _ h => h) dX2_add_40 h) (And.intro (fun ls st mm h => so_iload E dX2_add_43 h) (And.intro (fun ls st mm h => so_bipush E (by decide) dX2_add_45 h) (And.intro (fun ls st mm h => so_iast E dX2_add_47 h) (And.intro (fun ls st mm h => so_aload_n E rfl dX2_add_48 h) (And.intro (fun ls st mm h => so_getR E (C := RX2) (T := TX2) (N := 12) (ck := 4) rfl rfl (by decide) tu_X2 (k := 9) (ref := "Iemotohall$People") (by decide) (by decide) tw_t1_51 (fun _ h => h) dX2_add_49 h) (And.intro (fun ls st mm h => so_iload E dX2_add_52 h) (And.intro (fun ls st mm h => so_iconst E (by decide) dX2_add_54 h) (And.intro (fun ls st mm h => so_zast E dX2_add_55 h) (And.intro (fun ls st mm h => so_iconst E (by decide) dX2_add_56 h) (And.intro (fun ls st mm h => so_istore E dX2_add_57 h) (And.intro (fun ls st mm h => so_iload E dX2_add_59 h) (And.intro (fun ls st mm h => so_bipush E (by decide) dX2_add_61 h) (And.intro (fun ls st mm h => so_icmpgt E (tgt := 94) (by decide) dX2_add_63 h) (And.intro (fun ls st mm h => so_aload_n E rfl dX2_add_66 h) (And.intro (fun ls st mm h => so_getR E (C := RX2) (T := TX2) (N := 12) (ck := 4) rfl rfl (by decide) tu_X2 (k := 10) (ref := "Iemotohall$People") (by decide) (by decide) tw_t1_53 (fun _ h => h) dX2_add_67 h) (And.intro (fun ls st mm h => so_iload E dX2_add_70 h) (And.intro (fun ls st mm h => so_aald2 E dX2_add_72 h) (And.intro (fun ls st mm h => so_iload E dX2_add_73 h) (And.intro (fun ls st mm h => so_iconst E (by decide) dX2_add_75 h) (And.intro (fun ls st mm h => so_iast E dX2_add_76 h) (And.intro (fun ls st mm h => so_aload_n E rfl dX2_add_77 h) (And.intro (fun ls st mm h => so_getR E (C := RX2) (T := TX2) (N := 12) (ck := 4) rfl rfl (by decide) tu_X2 (k := 11) (ref := "Iemotohall$People") (by decide) (by decide) tw_t1_56 (fun _ h => h) dX2_add_78 h) (And.intro (fun ls st mm h => so_iload E dX2_add_81 h) (And.intro (fun ls st mm h => so_aald2 E dX2_add_83 h) (And.intro (fun ls st mm h => so_iload E dX2_add_84 h) (And.intro (fun ls st mm h => so_iconst E (by decide) dX2_add_86 h) (And.intro (fun ls st mm h => so_iast E dX2_add_87 h) (And.intro (fun ls st mm h => so_iinc E (by decide) dX2_add_88 h) (And.intro (fun ls st mm h => so_goto E (tgt := 59) (by decide) dX2_add_91 h) (And.intro (fun ls st mm h => so_aload_n E rfl dX2_add_94 h) (And.intro (fun ls st mm h => so_dup E dX2_add_95 h) (And.intro (fun ls st mm h => so_getI E (C := RX2) (T := TX2) (N := 12) (ck := 4) rfl rfl (by decide) tu_X2 (k := 0) (ref := "Iemotohall$People") (by decide) (by decide) tw_t1_32 (fun _ h => h) dX2_add_96 h) (And.intro (fun ls st mm h => so_iconst E (by decide) dX2_add_99 h) (And.intro (fun ls st mm h => so_iadd E dX2_add_100 h) (And.intro (fun ls st mm h => so_putI E (C := RX2) (T := TX2) (N := 12) (ck := 4) rfl rfl (by decide) tu_X2 (k := 0) (ref := "Iemotohall$People") (by decide) (by decide) tyX2 tyX2_ok nmX2 tw_t1_32 (fun _ h => h) rfl (tyX2_ok 0 (by decide)) dX2_add_101 sk2_4 h) (And.intro (fun ls st mm h => so_iload E dX2_add_104 h) (And.intro (fun ls st mm h => so_ireturn E hQ rfl (fun _ h => h) h0 (ty := .int) hrt (Or.inl ⟨rfl, rfl⟩) dX2_add_106 h) (trivial)))))))))))))))))))))))))))))))))))))))))))))))))))))))))))))))
theorem dX2_has_0 : decode cX2_has 0 = .ok (.iload_n 1, 1) := by decide +kernel
theorem dX2_has_1 : decode cX2_has 1 = .ok (.ifCond .lt 15, 3) := by decide +kernel
theorem dX2_has_4 : decode cX2_has 4 = .ok (.iload_n 1, 1) := by decide +kernel
theorem dX2_has_5 : decode cX2_has 5 = .ok (.aload_n 0, 1) := by decide +kernel
theorem dX2_has_6 : decode cX2_has 6 = .ok (.getfield 48, 3) := by decide +kernel
theorem dX2_has_9 : decode cX2_has 9 = .ok (.if_icmp .ge 7, 3) := by decide +kernel
theorem dX2_has_12 : decode cX2_has 12 = .ok (.iconst 1, 1) := by decide +kernel
theorem dX2_has_13 : decode cX2_has 13 = .ok (.goto 4, 3) := by decide +kernel
theorem dX2_has_16 : decode cX2_has 16 = .ok (.iconst 0, 1) := by decide +kernel
theorem dX2_has_17 : decode cX2_has 17 = .ok (.ireturn, 1) := by decide +kernel
def T_X2_has : ab_T := [(0, some (s_iload 1 1)), (1, some (s_iflt 16 4)), (4, some (s_iload 1 5)), (5, some (s_aload 0 6)), (6, some (s_getI 4 0 9)), (9, some (s_cmplt 12 16)), (12, some (s_const (vI 1) 13)), (13, some (s_goto 17)), (16, some (s_const (vI 0) 17)), (17, some (s_ret 1))]
set_option maxRecDepth 20000 in
theorem mt_X2_has : MonoT (T_X2_has) := MA_mem (And.intro mono_iload (And.intro mono_iflt (And.intro mono_iload (And.intro mono_aload (And.intro mono_getI (And.intro mono_cmplt (And.intro mono_const (And.intro mono_goto (And.intro mono_const (And.intro mono_ret trivial))))))))))
set_option maxRecDepth 20000 in
set_option maxHeartbeats 4000000 in
theorem snd_X2_has {l : Launch} {D : va_G} {cA : Nat → ClassId} {d : Nat} : Sound l D cA d 2 yX2_has cX2_has (some .boolean) [] (T_X2_has) := by
  intro p e R s m args below meth c loc0 m0 r Q E hQ h0 hrt hnm htab
  exact SA_mem (And.intro (fun ls st mm h => so_iload_n E rfl dX2_has_0 h) (And.intro (fun ls st mm h => so_iflt E (tgt := 16) (by decide) dX2_has_1 h) (And.intro (fun ls st mm h => so_iload_n E rfl dX2_has_4 h) (And.intro (fun ls st mm h => so_aload_n E rfl dX2_has_5 h) (And.intro (fun ls st mm h => so_getI E (C := RX2) (T := TX2) (N := 12) (ck := 4) rfl rfl (by decide) tu_X2 (k := 0) (ref := "Iemotohall$People") (by decide) (by decide) tw_t1_32 (fun _ h => h) dX2_has_6 h) (And.intro (fun ls st mm h => so_icmpge E (tgt := 16) (by decide) dX2_has_9 h) (And.intro (fun ls st mm h => so_iconst E (by decide) dX2_has_12 h) (And.intro (fun ls st mm h => so_goto E (tgt := 17) (by decide) dX2_has_13 h) (And.intro (fun ls st mm h => so_iconst E (by decide) dX2_has_16 h) (And.intro (fun ls st mm h => so_ireturn E hQ rfl (fun _ h => h) h0 (ty := .boolean) hrt (Or.inr ⟨rfl, rfl⟩) dX2_has_17 h) (trivial)))))))))))
theorem dX2_all_0 : decode cX2_all 0 = .ok (.iconst 1, 1) := by decide +kernel
theorem dX2_all_1 : decode cX2_all 1 = .ok (.aload_n 0, 1) := by decide +kernel
theorem dX2_all_2 : decode cX2_all 2 = .ok (.getfield 48, 3) := by decide +kernel
theorem dX2_all_5 : decode cX2_all 5 = .ok (.ishl, 1) := by decide +kernel
theorem dX2_all_6 : decode cX2_all 6 = .ok (.iconst 1, 1) := by decide +kernel
theorem dX2_all_7 : decode cX2_all 7 = .ok (.isub, 1) := by decide +kernel
theorem dX2_all_8 : decode cX2_all 8 = .ok (.ireturn, 1) := by decide +kernel
def T_X2_all : ab_T := [(0, some (s_const (vI 1) 1)), (1, some (s_aload 0 2)), (2, some (s_getI 4 0 5)), (5, some (s_bin (fun x y => x <<< (y &&& 31)) 6)), (6, some (s_const (vI 1) 7)), (7, some (s_bin (· - ·) 8)), (8, some (s_ret 0))]
set_option maxRecDepth 20000 in
theorem mt_X2_all : MonoT (T_X2_all) := MA_mem (And.intro mono_const (And.intro mono_aload (And.intro mono_getI (And.intro mono_bin (And.intro mono_const (And.intro mono_bin (And.intro mono_ret trivial)))))))
set_option maxRecDepth 20000 in
set_option maxHeartbeats 4000000 in
theorem snd_X2_all {l : Launch} {D : va_G} {cA : Nat → ClassId} {d : Nat} : Sound l D cA d 1 yX2_all cX2_all (some .int) [] (T_X2_all) := by
  intro p e R s m args below meth c loc0 m0 r Q E hQ h0 hrt hnm htab
  exact SA_mem (And.intro (fun ls st mm h => so_iconst E (by decide) dX2_all_0 h) (And.intro (fun ls st mm h => so_aload_n E rfl dX2_all_1 h) (And.intro (fun ls st mm h => so_getI E (C := RX2) (T := TX2) (N := 12) (ck := 4) rfl rfl (by decide) tu_X2 (k := 0) (ref := "Iemotohall$People") (by decide) (by decide) tw_t1_32 (fun _ h => h) dX2_all_2 h) (And.intro (fun ls st mm h => so_ishl E dX2_all_5 h) (And.intro (fun ls st mm h => so_iconst E (by decide) dX2_all_6 h) (And.intro (fun ls st mm h => so_isub E dX2_all_7 h) (And.intro (fun ls st mm h => so_ireturn E hQ rfl (fun _ h => h) h0 (ty := .int) hrt (Or.inl ⟨rfl, rfl⟩) dX2_all_8 h) (trivial))))))))
theorem dX2_holds_0 : decode cX2_holds 0 = .ok (.aload_n 0, 1) := by decide +kernel
theorem dX2_holds_1 : decode cX2_holds 1 = .ok (.getfield 18, 3) := by decide +kernel
theorem dX2_holds_4 : decode cX2_holds 4 = .ok (.iload_n 1, 1) := by decide +kernel
theorem dX2_holds_5 : decode cX2_holds 5 = .ok (.iaload, 1) := by decide +kernel
theorem dX2_holds_6 : decode cX2_holds 6 = .ok (.iload_n 2, 1) := by decide +kernel
theorem dX2_holds_7 : decode cX2_holds 7 = .ok (.if_icmp .lt 7, 3) := by decide +kernel
theorem dX2_holds_10 : decode cX2_holds 10 = .ok (.iconst 1, 1) := by decide +kernel
theorem dX2_holds_11 : decode cX2_holds 11 = .ok (.goto 4, 3) := by decide +kernel
theorem dX2_holds_14 : decode cX2_holds 14 = .ok (.iconst 0, 1) := by decide +kernel
theorem dX2_holds_15 : decode cX2_holds 15 = .ok (.ireturn, 1) := by decide +kernel
def T_X2_holds : ab_T := [(0, some (s_aload 0 1)), (1, some (s_getR 4 3 4)), (4, some (s_iload 1 5)), (5, some (s_ald 100 6)), (6, some (s_iload 2 7)), (7, some (s_cmplt 14 10)), (10, some (s_const (vI 1) 11)), (11, some (s_goto 15)), (14, some (s_const (vI 0) 15)), (15, some (s_ret 1))]
set_option maxRecDepth 20000 in
theorem mt_X2_holds : MonoT (T_X2_holds) := MA_mem (And.intro mono_aload (And.intro mono_getR (And.intro mono_iload (And.intro mono_ald (And.intro mono_iload (And.intro mono_cmplt (And.intro mono_const (And.intro mono_goto (And.intro mono_const (And.intro mono_ret trivial))))))))))
set_option maxRecDepth 20000 in
set_option maxHeartbeats 4000000 in
theorem snd_X2_holds {l : Launch} {D : va_G} {cA : Nat → ClassId} {d : Nat} : Sound l D cA d 3 yX2_holds cX2_holds (some .boolean) [] (T_X2_holds) := by
  intro p e R s m args below meth c loc0 m0 r Q E hQ h0 hrt hnm htab
  exact SA_mem (And.intro (fun ls st mm h => so_aload_n E rfl dX2_holds_0 h) (And.intro (fun ls st mm h => so_getR E (C := RX2) (T := TX2) (N := 12) (ck := 4) rfl rfl (by decide) tu_X2 (k := 3) (ref := "Iemotohall$People") (by decide) (by decide) tw_t1_39 (fun _ h => h) dX2_holds_1 h) (And.intro (fun ls st mm h => so_iload_n E rfl dX2_holds_4 h) (And.intro (fun ls st mm h => so_iald E dX2_holds_5 h) (And.intro (fun ls st mm h => so_iload_n E rfl dX2_holds_6 h) (And.intro (fun ls st mm h => so_icmplt E (tgt := 14) (by decide) dX2_holds_7 h) (And.intro (fun ls st mm h => so_iconst E (by decide) dX2_holds_10 h) (And.intro (fun ls st mm h => so_goto E (tgt := 15) (by decide) dX2_holds_11 h) (And.intro (fun ls st mm h => so_iconst E (by decide) dX2_holds_14 h) (And.intro (fun ls st mm h => so_ireturn E hQ rfl (fun _ h => h) h0 (ty := .boolean) hrt (Or.inr ⟨rfl, rfl⟩) dX2_holds_15 h) (trivial)))))))))))
theorem dX2_raise_0 : decode cX2_raise 0 = .ok (.aload_n 0, 1) := by decide +kernel
theorem dX2_raise_1 : decode cX2_raise 1 = .ok (.getfield 18, 3) := by decide +kernel
theorem dX2_raise_4 : decode cX2_raise 4 = .ok (.iload_n 1, 1) := by decide +kernel
theorem dX2_raise_5 : decode cX2_raise 5 = .ok (.iaload, 1) := by decide +kernel
theorem dX2_raise_6 : decode cX2_raise 6 = .ok (.iconst 1, 1) := by decide +kernel
theorem dX2_raise_7 : decode cX2_raise 7 = .ok (.iadd, 1) := by decide +kernel
theorem dX2_raise_8 : decode cX2_raise 8 = .ok (.istore 4, 2) := by decide +kernel
theorem dX2_raise_10 : decode cX2_raise 10 = .ok (.aload_n 0, 1) := by decide +kernel
theorem dX2_raise_11 : decode cX2_raise 11 = .ok (.getfield 18, 3) := by decide +kernel
theorem dX2_raise_14 : decode cX2_raise 14 = .ok (.iload_n 1, 1) := by decide +kernel
theorem dX2_raise_15 : decode cX2_raise 15 = .ok (.iload 4, 2) := by decide +kernel
theorem dX2_raise_17 : decode cX2_raise 17 = .ok (.iastore, 1) := by decide +kernel
theorem dX2_raise_18 : decode cX2_raise 18 = .ok (.aload_n 0, 1) := by decide +kernel
theorem dX2_raise_19 : decode cX2_raise 19 = .ok (.getfield 42, 3) := by decide +kernel
theorem dX2_raise_22 : decode cX2_raise 22 = .ok (.iload_n 1, 1) := by decide +kernel
theorem dX2_raise_23 : decode cX2_raise 23 = .ok (.aaload, 1) := by decide +kernel
theorem dX2_raise_24 : decode cX2_raise 24 = .ok (.iload 4, 2) := by decide +kernel
theorem dX2_raise_26 : decode cX2_raise 26 = .ok (.iload_n 2, 1) := by decide +kernel
theorem dX2_raise_27 : decode cX2_raise 27 = .ok (.iastore, 1) := by decide +kernel
theorem dX2_raise_28 : decode cX2_raise 28 = .ok (.aload_n 0, 1) := by decide +kernel
theorem dX2_raise_29 : decode cX2_raise 29 = .ok (.getfield 45, 3) := by decide +kernel
theorem dX2_raise_32 : decode cX2_raise 32 = .ok (.iload_n 1, 1) := by decide +kernel
theorem dX2_raise_33 : decode cX2_raise 33 = .ok (.aaload, 1) := by decide +kernel
theorem dX2_raise_34 : decode cX2_raise 34 = .ok (.iload 4, 2) := by decide +kernel
theorem dX2_raise_36 : decode cX2_raise 36 = .ok (.iload_n 3, 1) := by decide +kernel
theorem dX2_raise_37 : decode cX2_raise 37 = .ok (.iastore, 1) := by decide +kernel
theorem dX2_raise_38 : decode cX2_raise 38 = .ok (.return_, 1) := by decide +kernel
def T_X2_raise : ab_T := [(0, some (s_aload 0 1)), (1, some (s_getR 4 3 4)), (4, some (s_iload 1 5)), (5, some (s_ald 100 6)), (6, some (s_const (vI 1) 7)), (7, some (s_bin (· + ·) 8)), (8, some (s_istore 4 10)), (10, some (s_aload 0 11)), (11, some (s_getR 4 3 14)), (14, some (s_iload 1 15)), (15, some (s_iload 4 17)), (17, some (s_ast 100 18)), (18, some (s_aload 0 19)), (19, some (s_getR 4 10 22)), (22, some (s_iload 1 23)), (23, some (s_aald 105 24)), (24, some (s_iload 4 26)), (26, some (s_iload 2 27)), (27, some (s_ast 100 28)), (28, some (s_aload 0 29)), (29, some (s_getR 4 11 32)), (32, some (s_iload 1 33)), (33, some (s_aald 105 34)), (34, some (s_iload 4 36)), (36, some (s_iload 3 37)), (37, some (s_ast 100 38)), (38, some (s_retV))]
set_option maxRecDepth 20000 in
theorem mt_X2_raise : MonoT (T_X2_raise) := MA_mem (And.intro mono_aload (And.intro mono_getR (And.intro mono_iload (And.intro mono_ald (And.intro mono_const (And.intro mono_bin (And.intro mono_istore (And.intro mono_aload (And.intro mono_getR (And.intro mono_iload (And.intro mono_iload (And.intro mono_ast (And.intro mono_aload (And.intro mono_getR (And.intro mono_iload (And.intro mono_aald (And.intro mono_iload (And.intro mono_iload (And.intro mono_ast (And.intro mono_aload (And.intro mono_getR (And.intro mono_iload (And.intro mono_aald (And.intro mono_iload (And.intro mono_iload (And.intro mono_ast (And.intro mono_retV trivial)))))))))))))))))))))))))))
set_option maxRecDepth 20000 in
set_option maxHeartbeats 4000000 in
theorem snd_X2_raise {l : Launch} {D : va_G} {cA : Nat → ClassId} {d : Nat} : Sound l D cA d 5 yX2_raise cX2_raise none [] (T_X2_raise) := by
  intro p e R s m args below meth c loc0 m0 r Q E hQ h0 hrt hnm htab
  exact SA_mem (And.intro (fun ls st mm h => so_aload_n E rfl dX2_raise_0 h) (And.intro (fun ls st mm h => so_getR E (C := RX2) (T := TX2) (N := 12) (ck := 4) rfl rfl (by decide) tu_X2 (k := 3) (ref := "Iemotohall$People") (by decide) (by decide) tw_t1_39 (fun _ h => h) dX2_raise_1 h) (And.intro (fun ls st mm h => so_iload_n E rfl dX2_raise_4 h) (And.intro (fun ls st mm h => so_iald E dX2_raise_5 h) (And.intro (fun ls st mm h => so_iconst E (by decide) dX2_raise_6 h) (And.intro (fun ls st mm h => so_iadd E dX2_raise_7 h) (And.intro (fun ls st mm h => so_istore E dX2_raise_8 h) (And.intro (fun ls st mm h => so_aload_n E rfl dX2_raise_10 h) (And.intro (fun ls st mm h => so_getR E (C := RX2) (T := TX2) (N := 12) (ck := 4) rfl rfl (by decide) tu_X2 (k := 3) (ref := "Iemotohall$People") (by decide) (by decide) tw_t1_39 (fun _ h => h) dX2_raise_11 h) (And.intro (fun ls st mm h => so_iload_n E rfl dX2_raise_14 h) (And.intro (fun ls st mm h => so_iload E dX2_raise_15 h) (And.intro (fun ls st mm h => so_iast E dX2_raise_17 h) (And.intro (fun ls st mm h => so_aload_n E rfl dX2_raise_18 h) (And.intro (fun ls st mm h => so_getR E (C := RX2) (T := TX2) (N := 12) (ck := 4) rfl rfl (by decide) tu_X2 (k := 10) (ref := "Iemotohall$People") (by decide) (by decide) tw_t1_53 (fun _ h => h) dX2_raise_19 h) (And.intro (fun ls st mm h => so_iload_n E rfl dX2_raise_22 h) (And.intro (fun ls st mm h => so_aald2 E dX2_raise_23 h) (And.intro (fun ls st mm h => so_iload E dX2_raise_24 h) (And.intro (fun ls st mm h => so_iload_n E rfl dX2_raise_26 h) (And.intro (fun ls st mm h => so_iast E dX2_raise_27 h) (And.intro (fun ls st mm h => so_aload_n E rfl dX2_raise_28 h) (And.intro (fun ls st mm h => so_getR E (C := RX2) (T := TX2) (N := 12) (ck := 4) rfl rfl (by decide) tu_X2 (k := 11) (ref := "Iemotohall$People") (by decide) (by decide) tw_t1_56 (fun _ h => h) dX2_raise_29 h) (And.intro (fun ls st mm h => so_iload_n E rfl dX2_raise_32 h) (And.intro (fun ls st mm h => so_aald2 E dX2_raise_33 h) (And.intro (fun ls st mm h => so_iload E dX2_raise_34 h) (And.intro (fun ls st mm h => so_iload_n E rfl dX2_raise_36 h) (And.intro (fun ls st mm h => so_iast E dX2_raise_37 h) (And.intro (fun ls st mm h => so_vreturn E hQ rfl (fun _ h => h) h0 hrt dX2_raise_38 h) (trivial))))))))))))))))))))))))))))
theorem dX2_nameOf_0 : decode cX2_nameOf 0 = .ok (.aload_n 0, 1) := by decide +kernel
theorem dX2_nameOf_1 : decode cX2_nameOf 1 = .ok (.iload_n 1, 1) := by decide +kernel
theorem dX2_nameOf_2 : decode cX2_nameOf 2 = .ok (.iconst 5, 1) := by decide +kernel
theorem dX2_nameOf_3 : decode cX2_nameOf 3 = .ok (.invokevirtual 52, 3) := by decide +kernel
theorem dX2_nameOf_6 : decode cX2_nameOf 6 = .ok (.ifCond .ne 5, 3) := by decide +kernel
theorem dX2_nameOf_9 : decode cX2_nameOf 9 = .ok (.iconst (-1), 1) := by decide +kernel
theorem dX2_nameOf_10 : decode cX2_nameOf 10 = .ok (.ireturn, 1) := by decide +kernel
theorem dX2_nameOf_11 : decode cX2_nameOf 11 = .ok (.aload_n 0, 1) := by decide +kernel
theorem dX2_nameOf_12 : decode cX2_nameOf 12 = .ok (.getfield 42, 3) := by decide +kernel
theorem dX2_nameOf_15 : decode cX2_nameOf 15 = .ok (.iload_n 1, 1) := by decide +kernel
theorem dX2_nameOf_16 : decode cX2_nameOf 16 = .ok (.aaload, 1) := by decide +kernel
theorem dX2_nameOf_17 : decode cX2_nameOf 17 = .ok (.iconst 5, 1) := by decide +kernel
theorem dX2_nameOf_18 : decode cX2_nameOf 18 = .ok (.iaload, 1) := by decide +kernel
theorem dX2_nameOf_19 : decode cX2_nameOf 19 = .ok (.istore_n 2, 1) := by decide +kernel
theorem dX2_nameOf_20 : decode cX2_nameOf 20 = .ok (.iload_n 2, 1) := by decide +kernel
theorem dX2_nameOf_21 : decode cX2_nameOf 21 = .ok (.iconst (-1), 1) := by decide +kernel
theorem dX2_nameOf_22 : decode cX2_nameOf 22 = .ok (.if_icmp .ne 7, 3) := by decide +kernel
theorem dX2_nameOf_25 : decode cX2_nameOf 25 = .ok (.iconst (-1), 1) := by decide +kernel
theorem dX2_nameOf_26 : decode cX2_nameOf 26 = .ok (.goto 9, 3) := by decide +kernel
theorem dX2_nameOf_29 : decode cX2_nameOf 29 = .ok (.bipush 12, 2) := by decide +kernel
theorem dX2_nameOf_31 : decode cX2_nameOf 31 = .ok (.iload_n 2, 1) := by decide +kernel
theorem dX2_nameOf_32 : decode cX2_nameOf 32 = .ok (.imul, 1) := by decide +kernel
theorem dX2_nameOf_33 : decode cX2_nameOf 33 = .ok (.iload_n 1, 1) := by decide +kernel
theorem dX2_nameOf_34 : decode cX2_nameOf 34 = .ok (.iadd, 1) := by decide +kernel
theorem dX2_nameOf_35 : decode cX2_nameOf 35 = .ok (.ireturn, 1) := by decide +kernel
def T_X2_nameOf (sp_X2_holds : List ab_V → ab_M → ab_O) : ab_T := [(0, some (s_aload 0 1)), (1, some (s_iload 1 2)), (2, some (s_const (vI 5) 3)), (3, some (s_call 4 sp_X2_holds 3 [] 6)), (6, some (s_ifeq 9 11)), (9, some (s_const (vI (-1)) 10)), (10, some (s_ret 0)), (11, some (s_aload 0 12)), (12, some (s_getR 4 10 15)), (15, some (s_iload 1 16)), (16, some (s_aald 105 17)), (17, some (s_const (vI 5) 18)), (18, some (s_ald 100 19)), (19, some (s_istore 2 20)), (20, some (s_iload 2 21)), (21, some (s_const (vI (-1)) 22)), (22, some (s_cmpeq 25 29)), (25, some (s_const (vI (-1)) 26)), (26, some (s_goto 35)), (29, some (s_const (vI 12) 31)), (31, some (s_iload 2 32)), (32, some (s_bin (· * ·) 33)), (33, some (s_iload 1 34)), (34, some (s_bin (· + ·) 35)), (35, some (s_ret 0))]
set_option maxRecDepth 20000 in
theorem mt_X2_nameOf {sp_X2_holds : List ab_V → ab_M → ab_O} : MonoT (T_X2_nameOf sp_X2_holds) := MA_mem (And.intro mono_aload (And.intro mono_iload (And.intro mono_const (And.intro mono_call (And.intro mono_ifeq (And.intro mono_const (And.intro mono_ret (And.intro mono_aload (And.intro mono_getR (And.intro mono_iload (And.intro mono_aald (And.intro mono_const (And.intro mono_ald (And.intro mono_istore (And.intro mono_iload (And.intro mono_const (And.intro mono_cmpeq (And.intro mono_const (And.intro mono_goto (And.intro mono_const (And.intro mono_iload (And.intro mono_bin (And.intro mono_iload (And.intro mono_bin (And.intro mono_ret trivial)))))))))))))))))))))))))
set_option maxRecDepth 20000 in
set_option maxHeartbeats 4000000 in
theorem snd_X2_nameOf {l : Launch} {D : va_G} {cA : Nat → ClassId} {d : Nat} {sp_X2_holds : List ab_V → ab_M → ab_O} {d' : Nat} (hd9 : d' + 1 ≤ d) (hC_X2_holds : ∀ as m, Ctr l D cA d' yX2_holds (Cond.code yX2_holds cX2_holds 3 (some .boolean) :: TB) as m (sp_X2_holds as m)) : Sound l D cA d 3 yX2_nameOf cX2_nameOf (some .int) [] (T_X2_nameOf sp_X2_holds) := by
  intro p e R s m args below meth c loc0 m0 r Q E hQ h0 hrt hnm htab
  exact SA_mem (And.intro (fun ls st mm h => so_aload_n E rfl dX2_nameOf_0 h) (And.intro (fun ls st mm h => so_iload_n E rfl dX2_nameOf_1 h) (And.intro (fun ls st mm h => so_iconst E (by decide) dX2_nameOf_2 h) (And.intro (fun ls st mm h => so_callV E hQ rfl (fun _ h => h) h0 (idx := 52) (C := RX2) (T := TX2) (N := 12) rfl (by decide) (by decide) rfl hd9 (by decide) hC_X2_holds (hd_nil htab) tw_t3_82 tw_t2_114 tw_t2_115 tw_t1_2 tw_t2_116 (by decide +kernel) dX2_nameOf_3 h) (And.intro (fun ls st mm h => so_ifne E (tgt := 11) (by decide) dX2_nameOf_6 h) (And.intro (fun ls st mm h => so_iconst E (by decide) dX2_nameOf_9 h) (And.intro (fun ls st mm h => so_ireturn E hQ rfl (fun _ h => h) h0 (ty := .int) hrt (Or.inl ⟨rfl, rfl⟩) dX2_nameOf_10 h) (And.intro (fun ls st mm h => so_aload_n E rfl dX2_nameOf_11 h) (And.intro (fun ls st mm h => so_getR E (C := RX2) (T := TX2) (N := 12) (ck := 4) rfl rfl (by decide) tu_X2 (k := 10) (ref := "Iemotohall$People") (by decide) (by decide) tw_t1_53 (fun _ h => h) dX2_nameOf_12 h) (And.intro (fun ls st mm h => so_iload_n E rfl dX2_nameOf_15 h) (And.intro (fun ls st mm h => so_aald2 E dX2_nameOf_16 h) (And.intro (fun ls st mm h => so_iconst E (by decide) dX2_nameOf_17 h) (And.intro (fun ls st mm h => so_iald E dX2_nameOf_18 h) (And.intro (fun ls st mm h => so_istore_n E rfl dX2_nameOf_19 h) (And.intro (fun ls st mm h => so_iload_n E rfl dX2_nameOf_20 h) (And.intro (fun ls st mm h => so_iconst E (by decide) dX2_nameOf_21 h) (And.intro (fun ls st mm h => so_icmpne E (tgt := 29) (by decide) dX2_nameOf_22 h) (And.intro (fun ls st mm h => so_iconst E (by decide) dX2_nameOf_25 h) (And.intro (fun ls st mm h => so_goto E (tgt := 35) (by decide) dX2_nameOf_26 h) (And.intro (fun ls st mm h => so_bipush E (by decide) dX2_nameOf_29 h) (And.intro (fun ls st mm h => so_iload_n E rfl dX2_nameOf_31 h) (And.intro (fun ls st mm h => so_imul E dX2_nameOf_32 h) (And.intro (fun ls st mm h => so_iload_n E rfl dX2_nameOf_33 h) (And.intro (fun ls st mm h => so_iadd E dX2_nameOf_34 h) (And.intro (fun ls st mm h => so_ireturn E hQ rfl (fun _ h => h) h0 (ty := .int) hrt (Or.inl ⟨rfl, rfl⟩) dX2_nameOf_35 h) (trivial))))))))))))))))))))))))))
theorem dX2_countPupils_0 : decode cX2_countPupils 0 = .ok (.iconst 0, 1) := by decide +kernel
theorem dX2_countPupils_1 : decode cX2_countPupils 1 = .ok (.istore_n 2, 1) := by decide +kernel
theorem dX2_countPupils_2 : decode cX2_countPupils 2 = .ok (.iconst 0, 1) := by decide +kernel
theorem dX2_countPupils_3 : decode cX2_countPupils 3 = .ok (.istore_n 3, 1) := by decide +kernel
theorem dX2_countPupils_4 : decode cX2_countPupils 4 = .ok (.iload_n 3, 1) := by decide +kernel
theorem dX2_countPupils_5 : decode cX2_countPupils 5 = .ok (.aload_n 0, 1) := by decide +kernel
theorem dX2_countPupils_6 : decode cX2_countPupils 6 = .ok (.getfield 48, 3) := by decide +kernel
theorem dX2_countPupils_9 : decode cX2_countPupils 9 = .ok (.if_icmp .ge 31, 3) := by decide +kernel
theorem dX2_countPupils_12 : decode cX2_countPupils 12 = .ok (.aload_n 0, 1) := by decide +kernel
theorem dX2_countPupils_13 : decode cX2_countPupils 13 = .ok (.getfield 36, 3) := by decide +kernel
theorem dX2_countPupils_16 : decode cX2_countPupils 16 = .ok (.iload_n 3, 1) := by decide +kernel
theorem dX2_countPupils_17 : decode cX2_countPupils 17 = .ok (.baload, 1) := by decide +kernel
theorem dX2_countPupils_18 : decode cX2_countPupils 18 = .ok (.ifCond .eq 16, 3) := by decide +kernel
theorem dX2_countPupils_21 : decode cX2_countPupils 21 = .ok (.aload_n 0, 1) := by decide +kernel
theorem dX2_countPupils_22 : decode cX2_countPupils 22 = .ok (.getfield 9, 3) := by decide +kernel
theorem dX2_countPupils_25 : decode cX2_countPupils 25 = .ok (.iload_n 3, 1) := by decide +kernel
theorem dX2_countPupils_26 : decode cX2_countPupils 26 = .ok (.iaload, 1) := by decide +kernel
theorem dX2_countPupils_27 : decode cX2_countPupils 27 = .ok (.iload_n 1, 1) := by decide +kernel
theorem dX2_countPupils_28 : decode cX2_countPupils 28 = .ok (.if_icmp .ne 6, 3) := by decide +kernel
theorem dX2_countPupils_31 : decode cX2_countPupils 31 = .ok (.iinc 2 1, 3) := by decide +kernel
theorem dX2_countPupils_34 : decode cX2_countPupils 34 = .ok (.iinc 3 1, 3) := by decide +kernel
theorem dX2_countPupils_37 : decode cX2_countPupils 37 = .ok (.goto (-33), 3) := by decide +kernel
theorem dX2_countPupils_40 : decode cX2_countPupils 40 = .ok (.iload_n 2, 1) := by decide +kernel
theorem dX2_countPupils_41 : decode cX2_countPupils 41 = .ok (.ireturn, 1) := by decide +kernel
def T_X2_countPupils_4 : ab_T := [(4, some (s_iload 3 5)), (5, some (s_aload 0 6)), (6, some (s_getI 4 0 9)), (9, some (s_cmplt 12 40)), (12, some (s_aload 0 13)), (13, some (s_getR 4 9 16)), (16, some (s_iload 3 17)), (17, some (s_ald 101 18)), (18, some (s_ifeq 34 21)), (21, some (s_aload 0 22)), (22, some (s_getR 4 1 25)), (25, some (s_iload 3 26)), (26, some (s_ald 100 27)), (27, some (s_iload 1 28)), (28, some (s_cmpeq 31 34)), (31, some (s_iinc 2 1 34)), (34, some (s_iinc 3 1 37)), (37, some (s_goto 4)), (40, some (s_iload 2 41)), (41, some (s_ret 0))]
def T_X2_countPupils : ab_T := [(0, some (s_const (vI 0) 1)), (1, some (s_istore 2 2)), (2, some (s_const (vI 0) 3)), (3, some (s_istore 3 4)), (4, none)] ++ T_X2_countPupils_4
set_option maxRecDepth 20000 in
theorem mt_X2_countPupils : MonoT (T_X2_countPupils) := MA_mem (And.intro mono_const (And.intro mono_istore (And.intro mono_const (And.intro mono_istore (And.intro mono_iload (And.intro mono_aload (And.intro mono_getI (And.intro mono_cmplt (And.intro mono_aload (And.intro mono_getR (And.intro mono_iload (And.intro mono_ald (And.intro mono_ifeq (And.intro mono_aload (And.intro mono_getR (And.intro mono_iload (And.intro mono_ald (And.intro mono_iload (And.intro mono_cmpeq (And.intro mono_iinc (And.intro mono_iinc (And.intro mono_goto (And.intro mono_iload (And.intro mono_ret trivial))))))))))))))))))))))))
set_option maxRecDepth 20000 in
set_option maxHeartbeats 4000000 in
theorem snd_X2_countPupils {l : Launch} {D : va_G} {cA : Nat → ClassId} {d : Nat} : Sound l D cA d 4 yX2_countPupils cX2_countPupils (some .int) [] (T_X2_countPupils) := by
  intro p e R s m args below meth c loc0 m0 r Q E hQ h0 hrt hnm htab
  exact SA_mem (And.intro (fun ls st mm h => so_iconst E (by decide) dX2_countPupils_0 h) (And.intro (fun ls st mm h => so_istore_n E rfl dX2_countPupils_1 h) (And.intro (fun ls st mm h => so_iconst E (by decide) dX2_countPupils_2 h) (And.intro (fun ls st mm h => so_istore_n E rfl dX2_countPupils_3 h) (And.intro (fun ls st mm h => so_iload_n E rfl dX2_countPupils_4 h) (And.intro (fun ls st mm h => so_aload_n E rfl dX2_countPupils_5 h) (And.intro (fun ls st mm h => so_getI E (C := RX2) (T := TX2) (N := 12) (ck := 4) rfl rfl (by decide) tu_X2 (k := 0) (ref := "Iemotohall$People") (by decide) (by decide) tw_t1_32 (fun _ h => h) dX2_countPupils_6 h) (And.intro (fun ls st mm h => so_icmpge E (tgt := 40) (by decide) dX2_countPupils_9 h) (And.intro (fun ls st mm h => so_aload_n E rfl dX2_countPupils_12 h) (And.intro (fun ls st mm h => so_getR E (C := RX2) (T := TX2) (N := 12) (ck := 4) rfl rfl (by decide) tu_X2 (k := 9) (ref := "Iemotohall$People") (by decide) (by decide) tw_t1_51 (fun _ h => h) dX2_countPupils_13 h) (And.intro (fun ls st mm h => so_iload_n E rfl dX2_countPupils_16 h) (And.intro (fun ls st mm h => so_zald E dX2_countPupils_17 h) (And.intro (fun ls st mm h => so_ifeq E (tgt := 34) (by decide) dX2_countPupils_18 h) (And.intro (fun ls st mm h => so_aload_n E rfl dX2_countPupils_21 h) (And.intro (fun ls st mm h => so_getR E (C := RX2) (T := TX2) (N := 12) (ck := 4) rfl rfl (by decide) tu_X2 (k := 1) (ref := "Iemotohall$People") (by decide) (by decide) tw_t1_35 (fun _ h => h) dX2_countPupils_22 h) (And.intro (fun ls st mm h => so_iload_n E rfl dX2_countPupils_25 h) (And.intro (fun ls st mm h => so_iald E dX2_countPupils_26 h) (And.intro (fun ls st mm h => so_iload_n E rfl dX2_countPupils_27 h) (And.intro (fun ls st mm h => so_icmpne E (tgt := 34) (by decide) dX2_countPupils_28 h) (And.intro (fun ls st mm h => so_iinc E (by decide) dX2_countPupils_31 h) (And.intro (fun ls st mm h => so_iinc E (by decide) dX2_countPupils_34 h) (And.intro (fun ls st mm h => so_goto E (tgt := 4) (by decide) dX2_countPupils_37 h) (And.intro (fun ls st mm h => so_iload_n E rfl dX2_countPupils_40 h) (And.intro (fun ls st mm h => so_ireturn E hQ rfl (fun _ h => h) h0 (ty := .int) hrt (Or.inl ⟨rfl, rfl⟩) dX2_countPupils_41 h) (trivial)))))))))))))))))))))))))
theorem dX2_countLiving_0 : decode cX2_countLiving 0 = .ok (.iconst 0, 1) := by decide +kernel
theorem dX2_countLiving_1 : decode cX2_countLiving 1 = .ok (.istore_n 1, 1) := by decide +kernel
theorem dX2_countLiving_2 : decode cX2_countLiving 2 = .ok (.iconst 0, 1) := by decide +kernel
theorem dX2_countLiving_3 : decode cX2_countLiving 3 = .ok (.istore_n 2, 1) := by decide +kernel
theorem dX2_countLiving_4 : decode cX2_countLiving 4 = .ok (.iload_n 2, 1) := by decide +kernel
theorem dX2_countLiving_5 : decode cX2_countLiving 5 = .ok (.aload_n 0, 1) := by decide +kernel
theorem dX2_countLiving_6 : decode cX2_countLiving 6 = .ok (.getfield 48, 3) := by decide +kernel
theorem dX2_countLiving_9 : decode cX2_countLiving 9 = .ok (.if_icmp .ge 21, 3) := by decide +kernel
theorem dX2_countLiving_12 : decode cX2_countLiving 12 = .ok (.aload_n 0, 1) := by decide +kernel
theorem dX2_countLiving_13 : decode cX2_countLiving 13 = .ok (.getfield 36, 3) := by decide +kernel
theorem dX2_countLiving_16 : decode cX2_countLiving 16 = .ok (.iload_n 2, 1) := by decide +kernel
theorem dX2_countLiving_17 : decode cX2_countLiving 17 = .ok (.baload, 1) := by decide +kernel
theorem dX2_countLiving_18 : decode cX2_countLiving 18 = .ok (.ifCond .eq 6, 3) := by decide +kernel
theorem dX2_countLiving_21 : decode cX2_countLiving 21 = .ok (.iinc 1 1, 3) := by decide +kernel
theorem dX2_countLiving_24 : decode cX2_countLiving 24 = .ok (.iinc 2 1, 3) := by decide +kernel
theorem dX2_countLiving_27 : decode cX2_countLiving 27 = .ok (.goto (-23), 3) := by decide +kernel
theorem dX2_countLiving_30 : decode cX2_countLiving 30 = .ok (.iload_n 1, 1) := by decide +kernel
theorem dX2_countLiving_31 : decode cX2_countLiving 31 = .ok (.ireturn, 1) := by decide +kernel
def T_X2_countLiving_4 : ab_T := [(4, some (s_iload 2 5)), (5, some (s_aload 0 6)), (6, some (s_getI 4 0 9)), (9, some (s_cmplt 12 30)), (12, some (s_aload 0 13)), (13, some (s_getR 4 9 16)), (16, some (s_iload 2 17)), (17, some (s_ald 101 18)), (18, some (s_ifeq 24 21)), (21, some (s_iinc 1 1 24)), (24, some (s_iinc 2 1 27)), (27, some (s_goto 4)), (30, some (s_iload 1 31)), (31, some (s_ret 0))]
def T_X2_countLiving : ab_T := [(0, some (s_const (vI 0) 1)), (1, some (s_istore 1 2)), (2, some (s_const (vI 0) 3)), (3, some (s_istore 2 4)), (4, none)] ++ T_X2_countLiving_4
set_option maxRecDepth 20000 in
theorem mt_X2_countLiving : MonoT (T_X2_countLiving) := MA_mem (And.intro mono_const (And.intro mono_istore (And.intro mono_const (And.intro mono_istore (And.intro mono_iload (And.intro mono_aload (And.intro mono_getI (And.intro mono_cmplt (And.intro mono_aload (And.intro mono_getR (And.intro mono_iload (And.intro mono_ald (And.intro mono_ifeq (And.intro mono_iinc (And.intro mono_iinc (And.intro mono_goto (And.intro mono_iload (And.intro mono_ret trivial))))))))))))))))))
set_option maxRecDepth 20000 in
set_option maxHeartbeats 4000000 in
theorem snd_X2_countLiving {l : Launch} {D : va_G} {cA : Nat → ClassId} {d : Nat} : Sound l D cA d 3 yX2_countLiving cX2_countLiving (some .int) [] (T_X2_countLiving) := by
  intro p e R s m args below meth c loc0 m0 r Q E hQ h0 hrt hnm htab
  exact SA_mem (And.intro (fun ls st mm h => so_iconst E (by decide) dX2_countLiving_0 h) (And.intro (fun ls st mm h => so_istore_n E rfl dX2_countLiving_1 h) (And.intro (fun ls st mm h => so_iconst E (by decide) dX2_countLiving_2 h) (And.intro (fun ls st mm h => so_istore_n E rfl dX2_countLiving_3 h) (And.intro (fun ls st mm h => so_iload_n E rfl dX2_countLiving_4 h) (And.intro (fun ls st mm h => so_aload_n E rfl dX2_countLiving_5 h) (And.intro (fun ls st mm h => so_getI E (C := RX2) (T := TX2) (N := 12) (ck := 4) rfl rfl (by decide) tu_X2 (k := 0) (ref := "Iemotohall$People") (by decide) (by decide) tw_t1_32 (fun _ h => h) dX2_countLiving_6 h) (And.intro (fun ls st mm h => so_icmpge E (tgt := 30) (by decide) dX2_countLiving_9 h) (And.intro (fun ls st mm h => so_aload_n E rfl dX2_countLiving_12 h) (And.intro (fun ls st mm h => so_getR E (C := RX2) (T := TX2) (N := 12) (ck := 4) rfl rfl (by decide) tu_X2 (k := 9) (ref := "Iemotohall$People") (by decide) (by decide) tw_t1_51 (fun _ h => h) dX2_countLiving_13 h) (And.intro (fun ls st mm h => so_iload_n E rfl dX2_countLiving_16 h) (And.intro (fun ls st mm h => so_zald E dX2_countLiving_17 h) (And.intro (fun ls st mm h => so_ifeq E (tgt := 24) (by decide) dX2_countLiving_18 h) (And.intro (fun ls st mm h => so_iinc E (by decide) dX2_countLiving_21 h) (And.intro (fun ls st mm h => so_iinc E (by decide) dX2_countLiving_24 h) (And.intro (fun ls st mm h => so_goto E (tgt := 4) (by decide) dX2_countLiving_27 h) (And.intro (fun ls st mm h => so_iload_n E rfl dX2_countLiving_30 h) (And.intro (fun ls st mm h => so_ireturn E hQ rfl (fun _ h => h) h0 (ty := .int) hrt (Or.inl ⟨rfl, rfl⟩) dX2_countLiving_31 h) (trivial)))))))))))))))))))
theorem dX2_sumCoins_0 : decode cX2_sumCoins 0 = .ok (.iconst 0, 1) := by decide +kernel
theorem dX2_sumCoins_1 : decode cX2_sumCoins 1 = .ok (.istore_n 1, 1) := by decide +kernel
theorem dX2_sumCoins_2 : decode cX2_sumCoins 2 = .ok (.iconst 0, 1) := by decide +kernel
theorem dX2_sumCoins_3 : decode cX2_sumCoins 3 = .ok (.istore_n 2, 1) := by decide +kernel
theorem dX2_sumCoins_4 : decode cX2_sumCoins 4 = .ok (.iload_n 2, 1) := by decide +kernel
theorem dX2_sumCoins_5 : decode cX2_sumCoins 5 = .ok (.aload_n 0, 1) := by decide +kernel
theorem dX2_sumCoins_6 : decode cX2_sumCoins 6 = .ok (.getfield 48, 3) := by decide +kernel
theorem dX2_sumCoins_9 : decode cX2_sumCoins 9 = .ok (.if_icmp .ge 18, 3) := by decide +kernel
theorem dX2_sumCoins_12 : decode cX2_sumCoins 12 = .ok (.iload_n 1, 1) := by decide +kernel
theorem dX2_sumCoins_13 : decode cX2_sumCoins 13 = .ok (.aload_n 0, 1) := by decide +kernel
theorem dX2_sumCoins_14 : decode cX2_sumCoins 14 = .ok (.getfield 21, 3) := by decide +kernel
theorem dX2_sumCoins_17 : decode cX2_sumCoins 17 = .ok (.iload_n 2, 1) := by decide +kernel
theorem dX2_sumCoins_18 : decode cX2_sumCoins 18 = .ok (.iaload, 1) := by decide +kernel
theorem dX2_sumCoins_19 : decode cX2_sumCoins 19 = .ok (.iadd, 1) := by decide +kernel
theorem dX2_sumCoins_20 : decode cX2_sumCoins 20 = .ok (.istore_n 1, 1) := by decide +kernel
theorem dX2_sumCoins_21 : decode cX2_sumCoins 21 = .ok (.iinc 2 1, 3) := by decide +kernel
theorem dX2_sumCoins_24 : decode cX2_sumCoins 24 = .ok (.goto (-20), 3) := by decide +kernel
theorem dX2_sumCoins_27 : decode cX2_sumCoins 27 = .ok (.iload_n 1, 1) := by decide +kernel
theorem dX2_sumCoins_28 : decode cX2_sumCoins 28 = .ok (.ireturn, 1) := by decide +kernel
def T_X2_sumCoins_4 : ab_T := [(4, some (s_iload 2 5)), (5, some (s_aload 0 6)), (6, some (s_getI 4 0 9)), (9, some (s_cmplt 12 27)), (12, some (s_iload 1 13)), (13, some (s_aload 0 14)), (14, some (s_getR 4 4 17)), (17, some (s_iload 2 18)), (18, some (s_ald 100 19)), (19, some (s_bin (· + ·) 20)), (20, some (s_istore 1 21)), (21, some (s_iinc 2 1 24)), (24, some (s_goto 4)), (27, some (s_iload 1 28)), (28, some (s_ret 0))]
def T_X2_sumCoins : ab_T := [(0, some (s_const (vI 0) 1)), (1, some (s_istore 1 2)), (2, some (s_const (vI 0) 3)), (3, some (s_istore 2 4)), (4, none)] ++ T_X2_sumCoins_4
set_option maxRecDepth 20000 in
theorem mt_X2_sumCoins : MonoT (T_X2_sumCoins) := MA_mem (And.intro mono_const (And.intro mono_istore (And.intro mono_const (And.intro mono_istore (And.intro mono_iload (And.intro mono_aload (And.intro mono_getI (And.intro mono_cmplt (And.intro mono_iload (And.intro mono_aload (And.intro mono_getR (And.intro mono_iload (And.intro mono_ald (And.intro mono_bin (And.intro mono_istore (And.intro mono_iinc (And.intro mono_goto (And.intro mono_iload (And.intro mono_ret trivial)))))))))))))))))))
set_option maxRecDepth 20000 in
set_option maxHeartbeats 4000000 in
theorem snd_X2_sumCoins {l : Launch} {D : va_G} {cA : Nat → ClassId} {d : Nat} : Sound l D cA d 3 yX2_sumCoins cX2_sumCoins (some .int) [] (T_X2_sumCoins) := by
  intro p e R s m args below meth c loc0 m0 r Q E hQ h0 hrt hnm htab
  exact SA_mem (And.intro (fun ls st mm h => so_iconst E (by decide) dX2_sumCoins_0 h) (And.intro (fun ls st mm h => so_istore_n E rfl dX2_sumCoins_1 h) (And.intro (fun ls st mm h => so_iconst E (by decide) dX2_sumCoins_2 h) (And.intro (fun ls st mm h => so_istore_n E rfl dX2_sumCoins_3 h) (And.intro (fun ls st mm h => so_iload_n E rfl dX2_sumCoins_4 h) (And.intro (fun ls st mm h => so_aload_n E rfl dX2_sumCoins_5 h) (And.intro (fun ls st mm h => so_getI E (C := RX2) (T := TX2) (N := 12) (ck := 4) rfl rfl (by decide) tu_X2 (k := 0) (ref := "Iemotohall$People") (by decide) (by decide) tw_t1_32 (fun _ h => h) dX2_sumCoins_6 h) (And.intro (fun ls st mm h => so_icmpge E (tgt := 27) (by decide) dX2_sumCoins_9 h) (And.intro (fun ls st mm h => so_iload_n E rfl dX2_sumCoins_12 h) (And.intro (fun ls st mm h => so_aload_n E rfl dX2_sumCoins_13 h) (And.intro (fun ls st mm h => so_getR E (C := RX2) (T := TX2) (N := 12) (ck := 4) rfl rfl (by decide) tu_X2 (k := 4) (ref := "Iemotohall$People") (by decide) (by decide) tw_t1_42 (fun _ h => h) dX2_sumCoins_14 h) (And.intro (fun ls st mm h => so_iload_n E rfl dX2_sumCoins_17 h) (And.intro (fun ls st mm h => so_iald E dX2_sumCoins_18 h) (And.intro (fun ls st mm h => so_iadd E dX2_sumCoins_19 h) (And.intro (fun ls st mm h => so_istore_n E rfl dX2_sumCoins_20 h) (And.intro (fun ls st mm h => so_iinc E (by decide) dX2_sumCoins_21 h) (And.intro (fun ls st mm h => so_goto E (tgt := 4) (by decide) dX2_sumCoins_24 h) (And.intro (fun ls st mm h => so_iload_n E rfl dX2_sumCoins_27 h) (And.intro (fun ls st mm h => so_ireturn E hQ rfl (fun _ h => h) h0 (ty := .int) hrt (Or.inl ⟨rfl, rfl⟩) dX2_sumCoins_28 h) (trivial))))))))))))))))))))
theorem dX2_livesIn_0 : decode cX2_livesIn 0 = .ok (.aload_n 0, 1) := by decide +kernel
theorem dX2_livesIn_1 : decode cX2_livesIn 1 = .ok (.getfield 36, 3) := by decide +kernel
theorem dX2_livesIn_4 : decode cX2_livesIn 4 = .ok (.iload_n 1, 1) := by decide +kernel
theorem dX2_livesIn_5 : decode cX2_livesIn 5 = .ok (.baload, 1) := by decide +kernel
theorem dX2_livesIn_6 : decode cX2_livesIn 6 = .ok (.ifCond .eq 17, 3) := by decide +kernel
theorem dX2_livesIn_9 : decode cX2_livesIn 9 = .ok (.aload_n 0, 1) := by decide +kernel
theorem dX2_livesIn_10 : decode cX2_livesIn 10 = .ok (.getfield 24, 3) := by decide +kernel
theorem dX2_livesIn_13 : decode cX2_livesIn 13 = .ok (.iload_n 1, 1) := by decide +kernel
theorem dX2_livesIn_14 : decode cX2_livesIn 14 = .ok (.iaload, 1) := by decide +kernel
theorem dX2_livesIn_15 : decode cX2_livesIn 15 = .ok (.iload_n 2, 1) := by decide +kernel
theorem dX2_livesIn_16 : decode cX2_livesIn 16 = .ok (.if_icmp .ne 7, 3) := by decide +kernel
theorem dX2_livesIn_19 : decode cX2_livesIn 19 = .ok (.iconst 1, 1) := by decide +kernel
theorem dX2_livesIn_20 : decode cX2_livesIn 20 = .ok (.goto 4, 3) := by decide +kernel
theorem dX2_livesIn_23 : decode cX2_livesIn 23 = .ok (.iconst 0, 1) := by decide +kernel
theorem dX2_livesIn_24 : decode cX2_livesIn 24 = .ok (.ireturn, 1) := by decide +kernel
def T_X2_livesIn : ab_T := [(0, some (s_aload 0 1)), (1, some (s_getR 4 9 4)), (4, some (s_iload 1 5)), (5, some (s_ald 101 6)), (6, some (s_ifeq 23 9)), (9, some (s_aload 0 10)), (10, some (s_getR 4 5 13)), (13, some (s_iload 1 14)), (14, some (s_ald 100 15)), (15, some (s_iload 2 16)), (16, some (s_cmpeq 19 23)), (19, some (s_const (vI 1) 20)), (20, some (s_goto 24)), (23, some (s_const (vI 0) 24)), (24, some (s_ret 1))]
set_option maxRecDepth 20000 in
theorem mt_X2_livesIn : MonoT (T_X2_livesIn) := MA_mem (And.intro mono_aload (And.intro mono_getR (And.intro mono_iload (And.intro mono_ald (And.intro mono_ifeq (And.intro mono_aload (And.intro mono_getR (And.intro mono_iload (And.intro mono_ald (And.intro mono_iload (And.intro mono_cmpeq (And.intro mono_const (And.intro mono_goto (And.intro mono_const (And.intro mono_ret trivial)))))))))))))))
set_option maxRecDepth 20000 in
set_option maxHeartbeats 4000000 in
theorem snd_X2_livesIn {l : Launch} {D : va_G} {cA : Nat → ClassId} {d : Nat} : Sound l D cA d 3 yX2_livesIn cX2_livesIn (some .boolean) [] (T_X2_livesIn) := by
  intro p e R s m args below meth c loc0 m0 r Q E hQ h0 hrt hnm htab
  exact SA_mem (And.intro (fun ls st mm h => so_aload_n E rfl dX2_livesIn_0 h) (And.intro (fun ls st mm h => so_getR E (C := RX2) (T := TX2) (N := 12) (ck := 4) rfl rfl (by decide) tu_X2 (k := 9) (ref := "Iemotohall$People") (by decide) (by decide) tw_t1_51 (fun _ h => h) dX2_livesIn_1 h) (And.intro (fun ls st mm h => so_iload_n E rfl dX2_livesIn_4 h) (And.intro (fun ls st mm h => so_zald E dX2_livesIn_5 h) (And.intro (fun ls st mm h => so_ifeq E (tgt := 23) (by decide) dX2_livesIn_6 h) (And.intro (fun ls st mm h => so_aload_n E rfl dX2_livesIn_9 h) (And.intro (fun ls st mm h => so_getR E (C := RX2) (T := TX2) (N := 12) (ck := 4) rfl rfl (by decide) tu_X2 (k := 5) (ref := "Iemotohall$People") (by decide) (by decide) tw_t1_44 (fun _ h => h) dX2_livesIn_10 h) (And.intro (fun ls st mm h => so_iload_n E rfl dX2_livesIn_13 h) (And.intro (fun ls st mm h => so_iald E dX2_livesIn_14 h) (And.intro (fun ls st mm h => so_iload_n E rfl dX2_livesIn_15 h) (And.intro (fun ls st mm h => so_icmpne E (tgt := 23) (by decide) dX2_livesIn_16 h) (And.intro (fun ls st mm h => so_iconst E (by decide) dX2_livesIn_19 h) (And.intro (fun ls st mm h => so_goto E (tgt := 24) (by decide) dX2_livesIn_20 h) (And.intro (fun ls st mm h => so_iconst E (by decide) dX2_livesIn_23 h) (And.intro (fun ls st mm h => so_ireturn E hQ rfl (fun _ h => h) h0 (ty := .boolean) hrt (Or.inr ⟨rfl, rfl⟩) dX2_livesIn_24 h) (trivial))))))))))))))))
theorem dX2_livingOf_0 : decode cX2_livingOf 0 = .ok (.iconst 0, 1) := by decide +kernel
theorem dX2_livingOf_1 : decode cX2_livingOf 1 = .ok (.istore_n 2, 1) := by decide +kernel
theorem dX2_livingOf_2 : decode cX2_livingOf 2 = .ok (.iconst 0, 1) := by decide +kernel
theorem dX2_livingOf_3 : decode cX2_livingOf 3 = .ok (.istore_n 3, 1) := by decide +kernel
theorem dX2_livingOf_4 : decode cX2_livingOf 4 = .ok (.iload_n 3, 1) := by decide +kernel
theorem dX2_livingOf_5 : decode cX2_livingOf 5 = .ok (.aload_n 0, 1) := by decide +kernel
theorem dX2_livingOf_6 : decode cX2_livingOf 6 = .ok (.getfield 48, 3) := by decide +kernel
theorem dX2_livingOf_9 : decode cX2_livingOf 9 = .ok (.if_icmp .ge 24, 3) := by decide +kernel
theorem dX2_livingOf_12 : decode cX2_livingOf 12 = .ok (.aload_n 0, 1) := by decide +kernel
theorem dX2_livingOf_13 : decode cX2_livingOf 13 = .ok (.iload_n 3, 1) := by decide +kernel
theorem dX2_livingOf_14 : decode cX2_livingOf 14 = .ok (.iload_n 1, 1) := by decide +kernel
theorem dX2_livingOf_15 : decode cX2_livingOf 15 = .ok (.invokevirtual 56, 3) := by decide +kernel
theorem dX2_livingOf_18 : decode cX2_livingOf 18 = .ok (.ifCond .eq 9, 3) := by decide +kernel
theorem dX2_livingOf_21 : decode cX2_livingOf 21 = .ok (.iload_n 2, 1) := by decide +kernel
theorem dX2_livingOf_22 : decode cX2_livingOf 22 = .ok (.iconst 1, 1) := by decide +kernel
theorem dX2_livingOf_23 : decode cX2_livingOf 23 = .ok (.iload_n 3, 1) := by decide +kernel
theorem dX2_livingOf_24 : decode cX2_livingOf 24 = .ok (.ishl, 1) := by decide +kernel
theorem dX2_livingOf_25 : decode cX2_livingOf 25 = .ok (.ior, 1) := by decide +kernel
theorem dX2_livingOf_26 : decode cX2_livingOf 26 = .ok (.istore_n 2, 1) := by decide +kernel
theorem dX2_livingOf_27 : decode cX2_livingOf 27 = .ok (.iinc 3 1, 3) := by decide +kernel
theorem dX2_livingOf_30 : decode cX2_livingOf 30 = .ok (.goto (-26), 3) := by decide +kernel
theorem dX2_livingOf_33 : decode cX2_livingOf 33 = .ok (.iload_n 2, 1) := by decide +kernel
theorem dX2_livingOf_34 : decode cX2_livingOf 34 = .ok (.ireturn, 1) := by decide +kernel
def T_X2_livingOf_4 (sp_X2_livesIn : List ab_V → ab_M → ab_O) : ab_T := [(4, some (s_iload 3 5)), (5, some (s_aload 0 6)), (6, some (s_getI 4 0 9)), (9, some (s_cmplt 12 33)), (12, some (s_aload 0 13)), (13, some (s_iload 3 14)), (14, some (s_iload 1 15)), (15, some (s_call 4 sp_X2_livesIn 3 [] 18)), (18, some (s_ifeq 27 21)), (21, some (s_iload 2 22)), (22, some (s_const (vI 1) 23)), (23, some (s_iload 3 24)), (24, some (s_bin (fun x y => x <<< (y &&& 31)) 25)), (25, some (s_bin (· ||| ·) 26)), (26, some (s_istore 2 27)), (27, some (s_iinc 3 1 30)), (30, some (s_goto 4)), (33, some (s_iload 2 34)), (34, some (s_ret 0))]
def T_X2_livingOf (sp_X2_livesIn : List ab_V → ab_M → ab_O) : ab_T := [(0, some (s_const (vI 0) 1)), (1, some (s_istore 2 2)), (2, some (s_const (vI 0) 3)), (3, some (s_istore 3 4)), (4, none)] ++ T_X2_livingOf_4 sp_X2_livesIn
set_option maxRecDepth 20000 in
theorem mt_X2_livingOf {sp_X2_livesIn : List ab_V → ab_M → ab_O} : MonoT (T_X2_livingOf sp_X2_livesIn) := MA_mem (And.intro mono_const (And.intro mono_istore (And.intro mono_const (And.intro mono_istore (And.intro mono_iload (And.intro mono_aload (And.intro mono_getI (And.intro mono_cmplt (And.intro mono_aload (And.intro mono_iload (And.intro mono_iload (And.intro mono_call (And.intro mono_ifeq (And.intro mono_iload (And.intro mono_const (And.intro mono_iload (And.intro mono_bin (And.intro mono_bin (And.intro mono_istore (And.intro mono_iinc (And.intro mono_goto (And.intro mono_iload (And.intro mono_ret trivial)))))))))))))))))))))))
set_option maxRecDepth 20000 in
set_option maxHeartbeats 4000000 in
theorem snd_X2_livingOf {l : Launch} {D : va_G} {cA : Nat → ClassId} {d : Nat} {sp_X2_livesIn : List ab_V → ab_M → ab_O} {d' : Nat} (hd9 : d' + 1 ≤ d) (hC_X2_livesIn : ∀ as m, Ctr l D cA d' yX2_livesIn (Cond.code yX2_livesIn cX2_livesIn 3 (some .boolean) :: TB) as m (sp_X2_livesIn as m)) : Sound l D cA d 4 yX2_livingOf cX2_livingOf (some .int) [] (T_X2_livingOf sp_X2_livesIn) := by
  intro p e R s m args below meth c loc0 m0 r Q E hQ h0 hrt hnm htab
  exact SA_mem (And.intro (fun ls st mm h => so_iconst E (by decide) dX2_livingOf_0 h) (And.intro (fun ls st mm h => so_istore_n E rfl dX2_livingOf_1 h) (And.intro (fun ls st mm h => so_iconst E (by decide) dX2_livingOf_2 h) (And.intro (fun ls st mm h => so_istore_n E rfl dX2_livingOf_3 h) (And.intro (fun ls st mm h => so_iload_n E rfl dX2_livingOf_4 h) (And.intro (fun ls st mm h => so_aload_n E rfl dX2_livingOf_5 h) (And.intro (fun ls st mm h => so_getI E (C := RX2) (T := TX2) (N := 12) (ck := 4) rfl rfl (by decide) tu_X2 (k := 0) (ref := "Iemotohall$People") (by decide) (by decide) tw_t1_32 (fun _ h => h) dX2_livingOf_6 h) (And.intro (fun ls st mm h => so_icmpge E (tgt := 33) (by decide) dX2_livingOf_9 h) (And.intro (fun ls st mm h => so_aload_n E rfl dX2_livingOf_12 h) (And.intro (fun ls st mm h => so_iload_n E rfl dX2_livingOf_13 h) (And.intro (fun ls st mm h => so_iload_n E rfl dX2_livingOf_14 h) (And.intro (fun ls st mm h => so_callV E hQ rfl (fun _ h => h) h0 (idx := 56) (C := RX2) (T := TX2) (N := 12) rfl (by decide) (by decide) rfl hd9 (by decide) hC_X2_livesIn (hd_nil htab) tw_t2_210 tw_t2_203 tw_t2_204 tw_t1_2 tw_t2_205 (by decide +kernel) dX2_livingOf_15 h) (And.intro (fun ls st mm h => so_ifeq E (tgt := 27) (by decide) dX2_livingOf_18 h) (And.intro (fun ls st mm h => so_iload_n E rfl dX2_livingOf_21 h) (And.intro (fun ls st mm h => so_iconst E (by decide) dX2_livingOf_22 h) (And.intro (fun ls st mm h => so_iload_n E rfl dX2_livingOf_23 h) (And.intro (fun ls st mm h => so_ishl E dX2_livingOf_24 h) (And.intro (fun ls st mm h => so_ior E dX2_livingOf_25 h) (And.intro (fun ls st mm h => so_istore_n E rfl dX2_livingOf_26 h) (And.intro (fun ls st mm h => so_iinc E (by decide) dX2_livingOf_27 h) (And.intro (fun ls st mm h => so_goto E (tgt := 4) (by decide) dX2_livingOf_30 h) (And.intro (fun ls st mm h => so_iload_n E rfl dX2_livingOf_33 h) (And.intro (fun ls st mm h => so_ireturn E hQ rfl (fun _ h => h) h0 (ty := .int) hrt (Or.inl ⟨rfl, rfl⟩) dX2_livingOf_34 h) (trivial))))))))))))))))))))))))
theorem dX2_childrenOf_0 : decode cX2_childrenOf 0 = .ok (.iconst 0, 1) := by decide +kernel
theorem dX2_childrenOf_1 : decode cX2_childrenOf 1 = .ok (.istore_n 2, 1) := by decide +kernel
theorem dX2_childrenOf_2 : decode cX2_childrenOf 2 = .ok (.iconst 0, 1) := by decide +kernel
theorem dX2_childrenOf_3 : decode cX2_childrenOf 3 = .ok (.istore_n 3, 1) := by decide +kernel
theorem dX2_childrenOf_4 : decode cX2_childrenOf 4 = .ok (.iload_n 3, 1) := by decide +kernel
theorem dX2_childrenOf_5 : decode cX2_childrenOf 5 = .ok (.aload_n 0, 1) := by decide +kernel
theorem dX2_childrenOf_6 : decode cX2_childrenOf 6 = .ok (.getfield 48, 3) := by decide +kernel
theorem dX2_childrenOf_9 : decode cX2_childrenOf 9 = .ok (.if_icmp .ge 25, 3) := by decide +kernel
theorem dX2_childrenOf_12 : decode cX2_childrenOf 12 = .ok (.aload_n 0, 1) := by decide +kernel
theorem dX2_childrenOf_13 : decode cX2_childrenOf 13 = .ok (.getfield 15, 3) := by decide +kernel
theorem dX2_childrenOf_16 : decode cX2_childrenOf 16 = .ok (.iload_n 3, 1) := by decide +kernel
theorem dX2_childrenOf_17 : decode cX2_childrenOf 17 = .ok (.iaload, 1) := by decide +kernel
theorem dX2_childrenOf_18 : decode cX2_childrenOf 18 = .ok (.iload_n 1, 1) := by decide +kernel
theorem dX2_childrenOf_19 : decode cX2_childrenOf 19 = .ok (.if_icmp .ne 9, 3) := by decide +kernel
theorem dX2_childrenOf_22 : decode cX2_childrenOf 22 = .ok (.iload_n 2, 1) := by decide +kernel
theorem dX2_childrenOf_23 : decode cX2_childrenOf 23 = .ok (.iconst 1, 1) := by decide +kernel
theorem dX2_childrenOf_24 : decode cX2_childrenOf 24 = .ok (.iload_n 3, 1) := by decide +kernel
theorem dX2_childrenOf_25 : decode cX2_childrenOf 25 = .ok (.ishl, 1) := by decide +kernel
theorem dX2_childrenOf_26 : decode cX2_childrenOf 26 = .ok (.ior, 1) := by decide +kernel
theorem dX2_childrenOf_27 : decode cX2_childrenOf 27 = .ok (.istore_n 2, 1) := by decide +kernel
theorem dX2_childrenOf_28 : decode cX2_childrenOf 28 = .ok (.iinc 3 1, 3) := by decide +kernel
theorem dX2_childrenOf_31 : decode cX2_childrenOf 31 = .ok (.goto (-27), 3) := by decide +kernel
theorem dX2_childrenOf_34 : decode cX2_childrenOf 34 = .ok (.iload_n 2, 1) := by decide +kernel
theorem dX2_childrenOf_35 : decode cX2_childrenOf 35 = .ok (.ireturn, 1) := by decide +kernel
def T_X2_childrenOf_4 : ab_T := [(4, some (s_iload 3 5)), (5, some (s_aload 0 6)), (6, some (s_getI 4 0 9)), (9, some (s_cmplt 12 34)), (12, some (s_aload 0 13)), (13, some (s_getR 4 2 16)), (16, some (s_iload 3 17)), (17, some (s_ald 100 18)), (18, some (s_iload 1 19)), (19, some (s_cmpeq 22 28)), (22, some (s_iload 2 23)), (23, some (s_const (vI 1) 24)), (24, some (s_iload 3 25)), (25, some (s_bin (fun x y => x <<< (y &&& 31)) 26)), (26, some (s_bin (· ||| ·) 27)), (27, some (s_istore 2 28)), (28, some (s_iinc 3 1 31)), (31, some (s_goto 4)), (34, some (s_iload 2 35)), (35, some (s_ret 0))]
def T_X2_childrenOf : ab_T := [(0, some (s_const (vI 0) 1)), (1, some (s_istore 2 2)), (2, some (s_const (vI 0) 3)), (3, some (s_istore 3 4)), (4, none)] ++ T_X2_childrenOf_4
set_option maxRecDepth 20000 in
theorem mt_X2_childrenOf : MonoT (T_X2_childrenOf) := MA_mem (And.intro mono_const (And.intro mono_istore (And.intro mono_const (And.intro mono_istore (And.intro mono_iload (And.intro mono_aload (And.intro mono_getI (And.intro mono_cmplt (And.intro mono_aload (And.intro mono_getR (And.intro mono_iload (And.intro mono_ald (And.intro mono_iload (And.intro mono_cmpeq (And.intro mono_iload (And.intro mono_const (And.intro mono_iload (And.intro mono_bin (And.intro mono_bin (And.intro mono_istore (And.intro mono_iinc (And.intro mono_goto (And.intro mono_iload (And.intro mono_ret trivial))))))))))))))))))))))))
set_option maxRecDepth 20000 in
set_option maxHeartbeats 4000000 in
theorem snd_X2_childrenOf {l : Launch} {D : va_G} {cA : Nat → ClassId} {d : Nat} : Sound l D cA d 4 yX2_childrenOf cX2_childrenOf (some .int) [] (T_X2_childrenOf) := by
  intro p e R s m args below meth c loc0 m0 r Q E hQ h0 hrt hnm htab
  exact SA_mem (And.intro (fun ls st mm h => so_iconst E (by decide) dX2_childrenOf_0 h) (And.intro (fun ls st mm h => so_istore_n E rfl dX2_childrenOf_1 h) (And.intro (fun ls st mm h => so_iconst E (by decide) dX2_childrenOf_2 h) (And.intro (fun ls st mm h => so_istore_n E rfl dX2_childrenOf_3 h) (And.intro (fun ls st mm h => so_iload_n E rfl dX2_childrenOf_4 h) (And.intro (fun ls st mm h => so_aload_n E rfl dX2_childrenOf_5 h) (And.intro (fun ls st mm h => so_getI E (C := RX2) (T := TX2) (N := 12) (ck := 4) rfl rfl (by decide) tu_X2 (k := 0) (ref := "Iemotohall$People") (by decide) (by decide) tw_t1_32 (fun _ h => h) dX2_childrenOf_6 h) (And.intro (fun ls st mm h => so_icmpge E (tgt := 34) (by decide) dX2_childrenOf_9 h) (And.intro (fun ls st mm h => so_aload_n E rfl dX2_childrenOf_12 h) (And.intro (fun ls st mm h => so_getR E (C := RX2) (T := TX2) (N := 12) (ck := 4) rfl rfl (by decide) tu_X2 (k := 2) (ref := "Iemotohall$People") (by decide) (by decide) tw_t1_37 (fun _ h => h) dX2_childrenOf_13 h) (And.intro (fun ls st mm h => so_iload_n E rfl dX2_childrenOf_16 h) (And.intro (fun ls st mm h => so_iald E dX2_childrenOf_17 h) (And.intro (fun ls st mm h => so_iload_n E rfl dX2_childrenOf_18 h) (And.intro (fun ls st mm h => so_icmpne E (tgt := 28) (by decide) dX2_childrenOf_19 h) (And.intro (fun ls st mm h => so_iload_n E rfl dX2_childrenOf_22 h) (And.intro (fun ls st mm h => so_iconst E (by decide) dX2_childrenOf_23 h) (And.intro (fun ls st mm h => so_iload_n E rfl dX2_childrenOf_24 h) (And.intro (fun ls st mm h => so_ishl E dX2_childrenOf_25 h) (And.intro (fun ls st mm h => so_ior E dX2_childrenOf_26 h) (And.intro (fun ls st mm h => so_istore_n E rfl dX2_childrenOf_27 h) (And.intro (fun ls st mm h => so_iinc E (by decide) dX2_childrenOf_28 h) (And.intro (fun ls st mm h => so_goto E (tgt := 4) (by decide) dX2_childrenOf_31 h) (And.intro (fun ls st mm h => so_iload_n E rfl dX2_childrenOf_34 h) (And.intro (fun ls st mm h => so_ireturn E hQ rfl (fun _ h => h) h0 (ty := .int) hrt (Or.inl ⟨rfl, rfl⟩) dX2_childrenOf_35 h) (trivial)))))))))))))))))))))))))
theorem dX2_highestOf_0 : decode cX2_highestOf 0 = .ok (.iconst (-1), 1) := by decide +kernel
theorem dX2_highestOf_1 : decode cX2_highestOf 1 = .ok (.istore_n 2, 1) := by decide +kernel
theorem dX2_highestOf_2 : decode cX2_highestOf 2 = .ok (.iconst 0, 1) := by decide +kernel
theorem dX2_highestOf_3 : decode cX2_highestOf 3 = .ok (.istore_n 3, 1) := by decide +kernel
theorem dX2_highestOf_4 : decode cX2_highestOf 4 = .ok (.iload_n 3, 1) := by decide +kernel
theorem dX2_highestOf_5 : decode cX2_highestOf 5 = .ok (.aload_n 0, 1) := by decide +kernel
theorem dX2_highestOf_6 : decode cX2_highestOf 6 = .ok (.getfield 48, 3) := by decide +kernel
theorem dX2_highestOf_9 : decode cX2_highestOf 9 = .ok (.if_icmp .ge 39, 3) := by decide +kernel
theorem dX2_highestOf_12 : decode cX2_highestOf 12 = .ok (.iload_n 1, 1) := by decide +kernel
theorem dX2_highestOf_13 : decode cX2_highestOf 13 = .ok (.iload_n 3, 1) := by decide +kernel
theorem dX2_highestOf_14 : decode cX2_highestOf 14 = .ok (.invokestatic 59, 3) := by decide +kernel
theorem dX2_highestOf_17 : decode cX2_highestOf 17 = .ok (.ifCond .eq 25, 3) := by decide +kernel
theorem dX2_highestOf_20 : decode cX2_highestOf 20 = .ok (.iload_n 2, 1) := by decide +kernel
theorem dX2_highestOf_21 : decode cX2_highestOf 21 = .ok (.iconst (-1), 1) := by decide +kernel
theorem dX2_highestOf_22 : decode cX2_highestOf 22 = .ok (.if_icmp .eq 18, 3) := by decide +kernel
theorem dX2_highestOf_25 : decode cX2_highestOf 25 = .ok (.aload_n 0, 1) := by decide +kernel
theorem dX2_highestOf_26 : decode cX2_highestOf 26 = .ok (.getfield 18, 3) := by decide +kernel
theorem dX2_highestOf_29 : decode cX2_highestOf 29 = .ok (.iload_n 3, 1) := by decide +kernel
theorem dX2_highestOf_30 : decode cX2_highestOf 30 = .ok (.iaload, 1) := by decide +kernel
theorem dX2_highestOf_31 : decode cX2_highestOf 31 = .ok (.aload_n 0, 1) := by decide +kernel
theorem dX2_highestOf_32 : decode cX2_highestOf 32 = .ok (.getfield 18, 3) := by decide +kernel
theorem dX2_highestOf_35 : decode cX2_highestOf 35 = .ok (.iload_n 2, 1) := by decide +kernel
theorem dX2_highestOf_36 : decode cX2_highestOf 36 = .ok (.iaload, 1) := by decide +kernel
theorem dX2_highestOf_37 : decode cX2_highestOf 37 = .ok (.if_icmp .le 5, 3) := by decide +kernel
theorem dX2_highestOf_40 : decode cX2_highestOf 40 = .ok (.iload_n 3, 1) := by decide +kernel
theorem dX2_highestOf_41 : decode cX2_highestOf 41 = .ok (.istore_n 2, 1) := by decide +kernel
theorem dX2_highestOf_42 : decode cX2_highestOf 42 = .ok (.iinc 3 1, 3) := by decide +kernel
theorem dX2_highestOf_45 : decode cX2_highestOf 45 = .ok (.goto (-41), 3) := by decide +kernel
theorem dX2_highestOf_48 : decode cX2_highestOf 48 = .ok (.iload_n 2, 1) := by decide +kernel
theorem dX2_highestOf_49 : decode cX2_highestOf 49 = .ok (.ireturn, 1) := by decide +kernel
def T_X2_highestOf_4 (sp_X6_contains : List ab_V → ab_M → ab_O) : ab_T := [(4, some (s_iload 3 5)), (5, some (s_aload 0 6)), (6, some (s_getI 4 0 9)), (9, some (s_cmplt 12 48)), (12, some (s_iload 1 13)), (13, some (s_iload 3 14)), (14, some (s_call 999 sp_X6_contains 2 [] 17)), (17, some (s_ifeq 42 20)), (20, some (s_iload 2 21)), (21, some (s_const (vI (-1)) 22)), (22, some (s_cmpeq 40 25)), (25, some (s_aload 0 26)), (26, some (s_getR 4 3 29)), (29, some (s_iload 3 30)), (30, some (s_ald 100 31)), (31, some (s_aload 0 32)), (32, some (s_getR 4 3 35)), (35, some (s_iload 2 36)), (36, some (s_ald 100 37)), (37, some (s_cmpgt 40 42)), (40, some (s_iload 3 41)), (41, some (s_istore 2 42)), (42, some (s_iinc 3 1 45)), (45, some (s_goto 4)), (48, some (s_iload 2 49)), (49, some (s_ret 0))]
def T_X2_highestOf (sp_X6_contains : List ab_V → ab_M → ab_O) : ab_T := [(0, some (s_const (vI (-1)) 1)), (1, some (s_istore 2 2)), (2, some (s_const (vI 0) 3)), (3, some (s_istore 3 4)), (4, none)] ++ T_X2_highestOf_4 sp_X6_contains
set_option maxRecDepth 20000 in
theorem mt_X2_highestOf {sp_X6_contains : List ab_V → ab_M → ab_O} : MonoT (T_X2_highestOf sp_X6_contains) := MA_mem (And.intro mono_const (And.intro mono_istore (And.intro mono_const (And.intro mono_istore (And.intro mono_iload (And.intro mono_aload (And.intro mono_getI (And.intro mono_cmplt (And.intro mono_iload (And.intro mono_iload (And.intro mono_call (And.intro mono_ifeq (And.intro mono_iload (And.intro mono_const (And.intro mono_cmpeq (And.intro mono_aload (And.intro mono_getR (And.intro mono_iload (And.intro mono_ald (And.intro mono_aload (And.intro mono_getR (And.intro mono_iload (And.intro mono_ald (And.intro mono_cmpgt (And.intro mono_iload (And.intro mono_istore (And.intro mono_iinc (And.intro mono_goto (And.intro mono_iload (And.intro mono_ret trivial))))))))))))))))))))))))))))))
set_option maxRecDepth 20000 in
set_option maxHeartbeats 4000000 in
theorem snd_X2_highestOf {l : Launch} {D : va_G} {cA : Nat → ClassId} {d : Nat} {sp_X6_contains : List ab_V → ab_M → ab_O} {d' : Nat} (hd9 : d' + 1 ≤ d) (hC_X6_contains : ∀ as m, Ctr l D cA d' yX6_contains (Cond.code yX6_contains cX6_contains 2 (some .boolean) :: TB) as m (sp_X6_contains as m)) : Sound l D cA d 4 yX2_highestOf cX2_highestOf (some .int) [] (T_X2_highestOf sp_X6_contains) := by
  intro p e R s m args below meth c loc0 m0 r Q E hQ h0 hrt hnm htab
  exact SA_mem (And.intro (fun ls st mm h => so_iconst E (by decide) dX2_highestOf_0 h) (And.intro (fun ls st mm h => so_istore_n E rfl dX2_highestOf_1 h) (And.intro (fun ls st mm h => so_iconst E (by decide) dX2_highestOf_2 h) (And.intro (fun ls st mm h => so_istore_n E rfl dX2_highestOf_3 h) (And.intro (fun ls st mm h => so_iload_n E rfl dX2_highestOf_4 h) (And.intro (fun ls st mm h => so_aload_n E rfl dX2_highestOf_5 h) (And.intro (fun ls st mm h => so_getI E (C := RX2) (T := TX2) (N := 12) (ck := 4) rfl rfl (by decide) tu_X2 (k := 0) (ref := "Iemotohall$People") (by decide) (by decide) tw_t1_32 (fun _ h => h) dX2_highestOf_6 h) (And.intro (fun ls st mm h => so_icmpge E (tgt := 48) (by decide) dX2_highestOf_9 h) (And.intro (fun ls st mm h => so_iload_n E rfl dX2_highestOf_12 h) (And.intro (fun ls st mm h => so_iload_n E rfl dX2_highestOf_13 h) (And.intro (fun ls st mm h => so_callSN E hQ rfl (fun _ h => h) h0 (idx := 59) (host := "Iemotohall") (by decide +kernel) hd9 (by decide) hC_X6_contains (hd_nil htab) tw_t2_183 tw_t1_1 tw_t2_184 (by decide +kernel) dX2_highestOf_14 h) (And.intro (fun ls st mm h => so_ifeq E (tgt := 42) (by decide) dX2_highestOf_17 h) (And.intro (fun ls st mm h => so_iload_n E rfl dX2_highestOf_20 h) (And.intro (fun ls st mm h => so_iconst E (by decide) dX2_highestOf_21 h) (And.intro (fun ls st mm h => so_icmpeq E (tgt := 40) (by decide) dX2_highestOf_22 h) (And.intro (fun ls st mm h => so_aload_n E rfl dX2_highestOf_25 h) (And.intro (fun ls st mm h => so_getR E (C := RX2) (T := TX2) (N := 12) (ck := 4) rfl rfl (by decide) tu_X2 (k := 3) (ref := "Iemotohall$People") (by decide) (by decide) tw_t1_39 (fun _ h => h) dX2_highestOf_26 h) (And.intro (fun ls st mm h => so_iload_n E rfl dX2_highestOf_29 h) (And.intro (fun ls st mm h => so_iald E dX2_highestOf_30 h) (And.intro (fun ls st mm h => so_aload_n E rfl dX2_highestOf_31 h) (And.intro (fun ls st mm h => so_getR E (C := RX2) (T := TX2) (N := 12) (ck := 4) rfl rfl (by decide) tu_X2 (k := 3) (ref := "Iemotohall$People") (by decide) (by decide) tw_t1_39 (fun _ h => h) dX2_highestOf_32 h) (And.intro (fun ls st mm h => so_iload_n E rfl dX2_highestOf_35 h) (And.intro (fun ls st mm h => so_iald E dX2_highestOf_36 h) (And.intro (fun ls st mm h => so_icmple E (tgt := 42) (by decide) dX2_highestOf_37 h) (And.intro (fun ls st mm h => so_iload_n E rfl dX2_highestOf_40 h) (And.intro (fun ls st mm h => so_istore_n E rfl dX2_highestOf_41 h) (And.intro (fun ls st mm h => so_iinc E (by decide) dX2_highestOf_42 h) (And.intro (fun ls st mm h => so_goto E (tgt := 4) (by decide) dX2_highestOf_45 h) (And.intro (fun ls st mm h => so_iload_n E rfl dX2_highestOf_48 h) (And.intro (fun ls st mm h => so_ireturn E hQ rfl (fun _ h => h) h0 (ty := .int) hrt (Or.inl ⟨rfl, rfl⟩) dX2_highestOf_49 h) (trivial)))))))))))))))))))))))))))))))
theorem dX2_isReader_0 : decode cX2_isReader 0 = .ok (.aload_n 0, 1) := by decide +kernel
theorem dX2_isReader_1 : decode cX2_isReader 1 = .ok (.getfield 30, 3) := by decide +kernel
theorem dX2_isReader_4 : decode cX2_isReader 4 = .ok (.iload_n 1, 1) := by decide +kernel
theorem dX2_isReader_5 : decode cX2_isReader 5 = .ok (.iaload, 1) := by decide +kernel
theorem dX2_isReader_6 : decode cX2_isReader 6 = .ok (.iload_n 2, 1) := by decide +kernel
theorem dX2_isReader_7 : decode cX2_isReader 7 = .ok (.invokestatic 59, 3) := by decide +kernel
theorem dX2_isReader_10 : decode cX2_isReader 10 = .ok (.ireturn, 1) := by decide +kernel
def T_X2_isReader (sp_X6_contains : List ab_V → ab_M → ab_O) : ab_T := [(0, some (s_aload 0 1)), (1, some (s_getR 4 7 4)), (4, some (s_iload 1 5)), (5, some (s_ald 100 6)), (6, some (s_iload 2 7)), (7, some (s_call 999 sp_X6_contains 2 [] 10)), (10, some (s_ret 1))]
set_option maxRecDepth 20000 in
theorem mt_X2_isReader {sp_X6_contains : List ab_V → ab_M → ab_O} : MonoT (T_X2_isReader sp_X6_contains) := MA_mem (And.intro mono_aload (And.intro mono_getR (And.intro mono_iload (And.intro mono_ald (And.intro mono_iload (And.intro mono_call (And.intro mono_ret trivial)))))))
set_option maxRecDepth 20000 in
set_option maxHeartbeats 4000000 in
theorem snd_X2_isReader {l : Launch} {D : va_G} {cA : Nat → ClassId} {d : Nat} {sp_X6_contains : List ab_V → ab_M → ab_O} {d' : Nat} (hd9 : d' + 1 ≤ d) (hC_X6_contains : ∀ as m, Ctr l D cA d' yX6_contains (Cond.code yX6_contains cX6_contains 2 (some .boolean) :: TB) as m (sp_X6_contains as m)) : Sound l D cA d 3 yX2_isReader cX2_isReader (some .boolean) [] (T_X2_isReader sp_X6_contains) := by
  intro p e R s m args below meth c loc0 m0 r Q E hQ h0 hrt hnm htab
  exact SA_mem (And.intro (fun ls st mm h => so_aload_n E rfl dX2_isReader_0 h) (And.intro (fun ls st mm h => so_getR E (C := RX2) (T := TX2) (N := 12) (ck := 4) rfl rfl (by decide) tu_X2 (k := 7) (ref := "Iemotohall$People") (by decide) (by decide) tw_t1_48 (fun _ h => h) dX2_isReader_1 h) (And.intro (fun ls st mm h => so_iload_n E rfl dX2_isReader_4 h) (And.intro (fun ls st mm h => so_iald E dX2_isReader_5 h) (And.intro (fun ls st mm h => so_iload_n E rfl dX2_isReader_6 h) (And.intro (fun ls st mm h => so_callSN E hQ rfl (fun _ h => h) h0 (idx := 59) (host := "Iemotohall") (by decide +kernel) hd9 (by decide) hC_X6_contains (hd_nil htab) tw_t2_183 tw_t1_1 tw_t2_184 (by decide +kernel) dX2_isReader_7 h) (And.intro (fun ls st mm h => so_ireturn E hQ rfl (fun _ h => h) h0 (ty := .boolean) hrt (Or.inr ⟨rfl, rfl⟩) dX2_isReader_10 h) (trivial))))))))
theorem dX2_countQuarrels_0 : decode cX2_countQuarrels 0 = .ok (.iconst 0, 1) := by decide +kernel
theorem dX2_countQuarrels_1 : decode cX2_countQuarrels 1 = .ok (.istore_n 2, 1) := by decide +kernel
theorem dX2_countQuarrels_2 : decode cX2_countQuarrels 2 = .ok (.iconst 0, 1) := by decide +kernel
theorem dX2_countQuarrels_3 : decode cX2_countQuarrels 3 = .ok (.istore_n 3, 1) := by decide +kernel
theorem dX2_countQuarrels_4 : decode cX2_countQuarrels 4 = .ok (.iload_n 3, 1) := by decide +kernel
theorem dX2_countQuarrels_5 : decode cX2_countQuarrels 5 = .ok (.aload_n 0, 1) := by decide +kernel
theorem dX2_countQuarrels_6 : decode cX2_countQuarrels 6 = .ok (.getfield 48, 3) := by decide +kernel
theorem dX2_countQuarrels_9 : decode cX2_countQuarrels 9 = .ok (.if_icmp .ge 31, 3) := by decide +kernel
theorem dX2_countQuarrels_12 : decode cX2_countQuarrels 12 = .ok (.iload_n 1, 1) := by decide +kernel
theorem dX2_countQuarrels_13 : decode cX2_countQuarrels 13 = .ok (.iload_n 3, 1) := by decide +kernel
theorem dX2_countQuarrels_14 : decode cX2_countQuarrels 14 = .ok (.invokestatic 59, 3) := by decide +kernel
theorem dX2_countQuarrels_17 : decode cX2_countQuarrels 17 = .ok (.ifCond .eq 17, 3) := by decide +kernel
theorem dX2_countQuarrels_20 : decode cX2_countQuarrels 20 = .ok (.iload_n 2, 1) := by decide +kernel
theorem dX2_countQuarrels_21 : decode cX2_countQuarrels 21 = .ok (.aload_n 0, 1) := by decide +kernel
theorem dX2_countQuarrels_22 : decode cX2_countQuarrels 22 = .ok (.getfield 33, 3) := by decide +kernel
theorem dX2_countQuarrels_25 : decode cX2_countQuarrels 25 = .ok (.iload_n 3, 1) := by decide +kernel
theorem dX2_countQuarrels_26 : decode cX2_countQuarrels 26 = .ok (.iaload, 1) := by decide +kernel
theorem dX2_countQuarrels_27 : decode cX2_countQuarrels 27 = .ok (.iload_n 1, 1) := by decide +kernel
theorem dX2_countQuarrels_28 : decode cX2_countQuarrels 28 = .ok (.iand, 1) := by decide +kernel
theorem dX2_countQuarrels_29 : decode cX2_countQuarrels 29 = .ok (.invokestatic 62, 3) := by decide +kernel
theorem dX2_countQuarrels_32 : decode cX2_countQuarrels 32 = .ok (.iadd, 1) := by decide +kernel
theorem dX2_countQuarrels_33 : decode cX2_countQuarrels 33 = .ok (.istore_n 2, 1) := by decide +kernel
theorem dX2_countQuarrels_34 : decode cX2_countQuarrels 34 = .ok (.iinc 3 1, 3) := by decide +kernel
theorem dX2_countQuarrels_37 : decode cX2_countQuarrels 37 = .ok (.goto (-33), 3) := by decide +kernel
theorem dX2_countQuarrels_40 : decode cX2_countQuarrels 40 = .ok (.iload_n 2, 1) := by decide +kernel
theorem dX2_countQuarrels_41 : decode cX2_countQuarrels 41 = .ok (.iconst 2, 1) := by decide +kernel
theorem dX2_countQuarrels_42 : decode cX2_countQuarrels 42 = .ok (.idiv, 1) := by decide +kernel
theorem dX2_countQuarrels_43 : decode cX2_countQuarrels 43 = .ok (.ireturn, 1) := by decide +kernel
def T_X2_countQuarrels_4 (sp_X6_contains sp_J6_bitCount_0f7a4 : List ab_V → ab_M → ab_O) : ab_T := [(4, some (s_iload 3 5)), (5, some (s_aload 0 6)), (6, some (s_getI 4 0 9)), (9, some (s_cmplt 12 40)), (12, some (s_iload 1 13)), (13, some (s_iload 3 14)), (14, some (s_call 999 sp_X6_contains 2 [] 17)), (17, some (s_ifeq 34 20)), (20, some (s_iload 2 21)), (21, some (s_aload 0 22)), (22, some (s_getR 4 8 25)), (25, some (s_iload 3 26)), (26, some (s_ald 100 27)), (27, some (s_iload 1 28)), (28, some (s_bin (· &&& ·) 29)), (29, some (s_call 999 sp_J6_bitCount_0f7a4 1 [] 32)), (32, some (s_bin (· + ·) 33)), (33, some (s_istore 2 34)), (34, some (s_iinc 3 1 37)), (37, some (s_goto 4)), (40, some (s_iload 2 41)), (41, some (s_const (vI 2) 42)), (42, some (s_div (· / ·) 43)), (43, some (s_ret 0))]
def T_X2_countQuarrels (sp_X6_contains sp_J6_bitCount_0f7a4 : List ab_V → ab_M → ab_O) : ab_T := [(0, some (s_const (vI 0) 1)), (1, some (s_istore 2 2)), (2, some (s_const (vI 0) 3)), (3, some (s_istore 3 4)), (4, none)] ++ T_X2_countQuarrels_4 sp_X6_contains sp_J6_bitCount_0f7a4
set_option maxRecDepth 20000 in
theorem mt_X2_countQuarrels {sp_X6_contains sp_J6_bitCount_0f7a4 : List ab_V → ab_M → ab_O} : MonoT (T_X2_countQuarrels sp_X6_contains sp_J6_bitCount_0f7a4) := MA_mem (And.intro mono_const (And.intro mono_istore (And.intro mono_const (And.intro mono_istore (And.intro mono_iload (And.intro mono_aload (And.intro mono_getI (And.intro mono_cmplt (And.intro mono_iload (And.intro mono_iload (And.intro mono_call (And.intro mono_ifeq (And.intro mono_iload (And.intro mono_aload (And.intro mono_getR (And.intro mono_iload (And.intro mono_ald (And.intro mono_iload (And.intro mono_bin (And.intro mono_call (And.intro mono_bin (And.intro mono_istore (And.intro mono_iinc (And.intro mono_goto (And.intro mono_iload (And.intro mono_const (And.intro mono_div (And.intro mono_ret trivial))))))))))))))))))))))))))))
set_option maxRecDepth 20000 in
set_option maxHeartbeats 4000000 in
theorem snd_X2_countQuarrels {l : Launch} {D : va_G} {cA : Nat → ClassId} {d : Nat} {sp_X6_contains sp_J6_bitCount_0f7a4 : List ab_V → ab_M → ab_O} {d' : Nat} (hd9 : d' + 1 ≤ d) (hC_X6_contains : ∀ as m, Ctr l D cA d' yX6_contains (Cond.code yX6_contains cX6_contains 2 (some .boolean) :: TB) as m (sp_X6_contains as m)) (hC_J6_bitCount_0f7a4 : ∀ as m, Ctr l D cA d' yJ6_bitCount_0f7a4 (Cond.code yJ6_bitCount_0f7a4 cJ6_bitCount_0f7a4 1 (some .int) :: TB) as m (sp_J6_bitCount_0f7a4 as m)) : Sound l D cA d 4 yX2_countQuarrels cX2_countQuarrels (some .int) [] (T_X2_countQuarrels sp_X6_contains sp_J6_bitCount_0f7a4) := by
  intro p e R s m args below meth c loc0 m0 r Q E hQ h0 hrt hnm htab
  exact SA_mem (And.intro (fun ls st mm h => so_iconst E (by decide) dX2_countQuarrels_0 h) (And.intro (fun ls st mm h => so_istore_n E rfl dX2_countQuarrels_1 h) (And.intro (fun ls st mm h => so_iconst E (by decide) dX2_countQuarrels_2 h) (And.intro (fun ls st mm h => so_istore_n E rfl dX2_countQuarrels_3 h) (And.intro (fun ls st mm h => so_iload_n E rfl dX2_countQuarrels_4 h) (And.intro (fun ls st mm h => so_aload_n E rfl dX2_countQuarrels_5 h) (And.intro (fun ls st mm h => so_getI E (C := RX2) (T := TX2) (N := 12) (ck := 4) rfl rfl (by decide) tu_X2 (k := 0) (ref := "Iemotohall$People") (by decide) (by decide) tw_t1_32 (fun _ h => h) dX2_countQuarrels_6 h) (And.intro (fun ls st mm h => so_icmpge E (tgt := 40) (by decide) dX2_countQuarrels_9 h) (And.intro (fun ls st mm h => so_iload_n E rfl dX2_countQuarrels_12 h) (And.intro (fun ls st mm h => so_iload_n E rfl dX2_countQuarrels_13 h) (And.intro (fun ls st mm h => so_callSN E hQ rfl (fun _ h => h) h0 (idx := 59) (host := "Iemotohall") (by decide +kernel) hd9 (by decide) hC_X6_contains (hd_nil htab) tw_t2_183 tw_t1_1 tw_t2_184 (by decide +kernel) dX2_countQuarrels_14 h) (And.intro (fun ls st mm h => so_ifeq E (tgt := 34) (by decide) dX2_countQuarrels_17 h) (And.intro (fun ls st mm h => so_iload_n E rfl dX2_countQuarrels_20 h) (And.intro (fun ls st mm h => so_aload_n E rfl dX2_countQuarrels_21 h) (And.intro (fun ls st mm h => so_getR E (C := RX2) (T := TX2) (N := 12) (ck := 4) rfl rfl (by decide) tu_X2 (k := 8) (ref := "Iemotohall$People") (by decide) (by decide) tw_t1_50 (fun _ h => h) dX2_countQuarrels_22 h) (And.intro (fun ls st mm h => so_iload_n E rfl dX2_countQuarrels_25 h) (And.intro (fun ls st mm h => so_iald E dX2_countQuarrels_26 h) (And.intro (fun ls st mm h => so_iload_n E rfl dX2_countQuarrels_27 h) (And.intro (fun ls st mm h => so_iand E dX2_countQuarrels_28 h) (And.intro (fun ls st mm h => so_callS E hQ rfl (fun _ h => h) h0 (idx := 62) hd9 (by decide) hC_J6_bitCount_0f7a4 (hd_nil htab) tw_t3_43 tw_t3_5 tw_t1_14 tw_t3_6 (by decide +kernel) dX2_countQuarrels_29 h) (And.intro (fun ls st mm h => so_iadd E dX2_countQuarrels_32 h) (And.intro (fun ls st mm h => so_istore_n E rfl dX2_countQuarrels_33 h) (And.intro (fun ls st mm h => so_iinc E (by decide) dX2_countQuarrels_34 h) (And.intro (fun ls st mm h => so_goto E (tgt := 4) (by decide) dX2_countQuarrels_37 h) (And.intro (fun ls st mm h => so_iload_n E rfl dX2_countQuarrels_40 h) (And.intro (fun ls st mm h => so_iconst E (by decide) dX2_countQuarrels_41 h) (And.intro (fun ls st mm h => so_idiv E dX2_countQuarrels_42 h) (And.intro (fun ls st mm h => so_ireturn E hQ rfl (fun _ h => h) h0 (ty := .int) hrt (Or.inl ⟨rfl, rfl⟩) dX2_countQuarrels_43 h) (trivial)))))))))))))))))))))))))))))
theorem dX3_init_0 : decode cX3_init 0 = .ok (.aload_n 0, 1) := by decide +kernel
theorem dX3_init_1 : decode cX3_init 1 = .ok (.invokespecial 3, 3) := by decide +kernel
theorem dX3_init_4 : decode cX3_init 4 = .ok (.aload_n 0, 1) := by decide +kernel
theorem dX3_init_5 : decode cX3_init 5 = .ok (.iconst 4, 1) := by decide +kernel
theorem dX3_init_6 : decode cX3_init 6 = .ok (.newarray .int, 2) := by decide +kernel
theorem dX3_init_8 : decode cX3_init 8 = .ok (.putfield 9, 3) := by decide +kernel
theorem dX3_init_11 : decode cX3_init 11 = .ok (.aload_n 0, 1) := by decide +kernel
theorem dX3_init_12 : decode cX3_init 12 = .ok (.iconst 4, 1) := by decide +kernel
theorem dX3_init_13 : decode cX3_init 13 = .ok (.newarray .int, 2) := by decide +kernel
theorem dX3_init_15 : decode cX3_init 15 = .ok (.putfield 15, 3) := by decide +kernel
theorem dX3_init_18 : decode cX3_init 18 = .ok (.aload_n 0, 1) := by decide +kernel
theorem dX3_init_19 : decode cX3_init 19 = .ok (.bipush 12, 2) := by decide +kernel
theorem dX3_init_21 : decode cX3_init 21 = .ok (.newarray .int, 2) := by decide +kernel
theorem dX3_init_23 : decode cX3_init 23 = .ok (.putfield 18, 3) := by decide +kernel
theorem dX3_init_26 : decode cX3_init 26 = .ok (.aload_n 0, 1) := by decide +kernel
theorem dX3_init_27 : decode cX3_init 27 = .ok (.bipush 12, 2) := by decide +kernel
theorem dX3_init_29 : decode cX3_init 29 = .ok (.newarray .boolean, 2) := by decide +kernel
theorem dX3_init_31 : decode cX3_init 31 = .ok (.putfield 21, 3) := by decide +kernel
theorem dX3_init_34 : decode cX3_init 34 = .ok (.aload_n 0, 1) := by decide +kernel
theorem dX3_init_35 : decode cX3_init 35 = .ok (.aload_n 1, 1) := by decide +kernel
theorem dX3_init_36 : decode cX3_init 36 = .ok (.putfield 25, 3) := by decide +kernel
theorem dX3_init_39 : decode cX3_init 39 = .ok (.aload_n 0, 1) := by decide +kernel
theorem dX3_init_40 : decode cX3_init 40 = .ok (.aload_n 2, 1) := by decide +kernel
theorem dX3_init_41 : decode cX3_init 41 = .ok (.putfield 29, 3) := by decide +kernel
theorem dX3_init_44 : decode cX3_init 44 = .ok (.return_, 1) := by decide +kernel
def T_X3_init : ab_T := [(0, some (s_aload 0 1)), (1, some (s_obj 4)), (4, some (s_aload 0 5)), (5, some (s_const (vI 4) 6)), (6, some (s_newa 18 8)), (8, some (s_putR 5 0 11)), (11, some (s_aload 0 12)), (12, some (s_const (vI 4) 13)), (13, some (s_newa 19 15)), (15, some (s_putR 5 3 18)), (18, some (s_aload 0 19)), (19, some (s_const (vI 12) 21)), (21, some (s_newa 20 23)), (23, some (s_putR 5 4 26)), (26, some (s_aload 0 27)), (27, some (s_const (vI 12) 29)), (29, some (s_newa 21 31)), (31, some (s_putR 5 5 34)), (34, some (s_aload 0 35)), (35, some (s_aload 1 36)), (36, some (s_putR 5 1 39)), (39, some (s_aload 0 40)), (40, some (s_aload 2 41)), (41, some (s_putR 5 2 44)), (44, some (s_retV))]
set_option maxRecDepth 20000 in
theorem mt_X3_init : MonoT (T_X3_init) := MA_mem (And.intro mono_aload (And.intro mono_obj (And.intro mono_aload (And.intro mono_const (And.intro mono_newa (And.intro mono_putR (And.intro mono_aload (And.intro mono_const (And.intro mono_newa (And.intro mono_putR (And.intro mono_aload (And.intro mono_const (And.intro mono_newa (And.intro mono_putR (And.intro mono_aload (And.intro mono_const (And.intro mono_newa (And.intro mono_putR (And.intro mono_aload (And.intro mono_aload (And.intro mono_putR (And.intro mono_aload (And.intro mono_aload (And.intro mono_putR (And.intro mono_retV trivial)))))))))))))))))))))))))
set_option maxRecDepth 20000 in
set_option maxHeartbeats 4000000 in
theorem snd_X3_init {l : Launch} {D : va_G} {cA : Nat → ClassId} {d : Nat} : Sound l D cA d 3 yX3_init cX3_init none [] (T_X3_init) := by
  intro p e R s m args below meth c loc0 m0 r Q E hQ h0 hrt hnm htab
  exact SA_mem (And.intro (fun ls st mm h => so_aload_n E rfl dX3_init_0 h) (And.intro (fun ls st mm h => so_obj E tw_t1_199 tw_t1_22 tw_t1_23 dX3_init_1 h) (And.intro (fun ls st mm h => so_aload_n E rfl dX3_init_4 h) (And.intro (fun ls st mm h => so_iconst E (by decide) dX3_init_5 h) (And.intro (fun ls st mm h => so_newa100 E (t := 18) rfl tw_t1_83 dX3_init_6 h) (And.intro (fun ls st mm h => so_putRF E (C := RX3) (T := TX3) (N := 7) (ck := 5) rfl rfl (by decide) tu_X3 (k := 0) (ref := "Iemotohall$Planner") (by decide) (by decide) tyX3 tyX3_ok nmX3 tw_t1_200 (fun _ h => h) rfl hnm rfl (Or.inr ⟨_, rfl⟩) (tyX3_ok 0 (by decide)) dX3_init_8 sk2_5 h) (And.intro (fun ls st mm h => so_aload_n E rfl dX3_init_11 h) (And.intro (fun ls st mm h => so_iconst E (by decide) dX3_init_12 h) (And.intro (fun ls st mm h => so_newa100 E (t := 19) rfl tw_t1_83 dX3_init_13 h) (And.intro (fun ls st mm h => so_putRF E (C := RX3) (T := TX3) (N := 7) (ck := 5) rfl rfl (by decide) tu_X3 (k := 3) (ref := "Iemotohall$Planner") (by decide) (by decide) tyX3 tyX3_ok nmX3 tw_t1_204 (fun _ h => h) rfl hnm rfl (Or.inr ⟨_, rfl⟩) (tyX3_ok 3 (by decide)) dX3_init_15 sk2_5 h) (And.intro (fun ls st mm h => so_aload_n E rfl dX3_init_18 h) (And.intro (fun ls st mm h => so_bipush E (by decide) dX3_init_19 h) (And.intro (fun ls st mm h => so_newa100 E (t := 20) rfl tw_t1_83 dX3_init_21 h) (And.intro (fun ls st mm h => so_putRF E (C := RX3) (T := TX3) (N := 7) (ck := 5) rfl rfl (by decide) tu_X3 (k := 4) (ref := "Iemotohall$Planner") (by decide) (by decide) tyX3 tyX3_ok nmX3 tw_t1_205 (fun _ h => h) rfl hnm rfl (Or.inr ⟨_, rfl⟩) (tyX3_ok 4 (by decide)) dX3_init_23 sk2_5 h) (And.intro (fun ls st mm h => so_aload_n E rfl dX3_init_26 h) (And.intro (fun ls st mm h => so_bipush E (by decide) dX3_init_27 h) (And.intro (fun ls st mm h => so_newa101 E (t := 21) rfl tw_t1_84 dX3_init_29 h) (And.intro (fun ls st mm h => so_putRF E (C := RX3) (T := TX3) (N := 7) (ck := 5) rfl rfl (by decide) tu_X3 (k := 5) (ref := "Iemotohall$Planner") (by decide) (by decide) tyX3 tyX3_ok nmX3 tw_t1_206 (fun _ h => h) rfl hnm rfl (Or.inr ⟨_, rfl⟩) (tyX3_ok 5 (by decide)) dX3_init_31 sk2_5 h) (And.intro (fun ls st mm h => so_aload_n E rfl dX3_init_34 h) (And.intro (fun ls st mm h => so_aload_n E rfl dX3_init_35 h) (And.intro (fun ls st mm h => so_putRF E (C := RX3) (T := TX3) (N := 7) (ck := 5) rfl rfl (by decide) tu_X3 (k := 1) (ref := "Iemotohall$Planner") (by decide) (by decide) tyX3 tyX3_ok nmX3 tw_t1_202 (fun _ h => h) rfl hnm rfl (Or.inl ⟨_, rfl⟩) (tyX3_ok 1 (by decide)) dX3_init_36 sk2_5 h) (And.intro (fun ls st mm h => so_aload_n E rfl dX3_init_39 h) (And.intro (fun ls st mm h => so_aload_n E rfl dX3_init_40 h) (And.intro (fun ls st mm h => so_putRF E (C := RX3) (T := TX3) (N := 7) (ck := 5) rfl rfl (by decide) tu_X3 (k := 2) (ref := "Iemotohall$Planner") (by decide) (by decide) tyX3 tyX3_ok nmX3 tw_t1_203 (fun _ h => h) rfl hnm rfl (Or.inl ⟨_, rfl⟩) (tyX3_ok 2 (by decide)) dX3_init_41 sk2_5 h) (And.intro (fun ls st mm h => so_vreturn E hQ rfl (fun _ h => h) h0 hrt dX3_init_44 h) (trivial))))))))))))))))))))))))))
theorem dX3_findBest_0 : decode cX3_findBest 0 = .ok (.iconst 0, 1) := by decide +kernel
theorem dX3_findBest_1 : decode cX3_findBest 1 = .ok (.istore 5, 2) := by decide +kernel
theorem dX3_findBest_3 : decode cX3_findBest 3 = .ok (.iload 5, 2) := by decide +kernel
theorem dX3_findBest_5 : decode cX3_findBest 5 = .ok (.aload_n 0, 1) := by decide +kernel
theorem dX3_findBest_6 : decode cX3_findBest 6 = .ok (.getfield 29, 3) := by decide +kernel
theorem dX3_findBest_9 : decode cX3_findBest 9 = .ok (.getfield 33, 3) := by decide +kernel
theorem dX3_findBest_12 : decode cX3_findBest 12 = .ok (.if_icmp .ge 64, 3) := by decide +kernel
theorem dX3_findBest_15 : decode cX3_findBest 15 = .ok (.aload_n 0, 1) := by decide +kernel
theorem dX3_findBest_16 : decode cX3_findBest 16 = .ok (.getfield 29, 3) := by decide +kernel
theorem dX3_findBest_19 : decode cX3_findBest 19 = .ok (.iload 5, 2) := by decide +kernel
theorem dX3_findBest_21 : decode cX3_findBest 21 = .ok (.iload_n 3, 1) := by decide +kernel
theorem dX3_findBest_22 : decode cX3_findBest 22 = .ok (.invokevirtual 39, 3) := by decide +kernel
theorem dX3_findBest_25 : decode cX3_findBest 25 = .ok (.iload_n 2, 1) := by decide +kernel
theorem dX3_findBest_26 : decode cX3_findBest 26 = .ok (.iand, 1) := by decide +kernel
theorem dX3_findBest_27 : decode cX3_findBest 27 = .ok (.invokestatic 43, 3) := by decide +kernel
theorem dX3_findBest_30 : decode cX3_findBest 30 = .ok (.istore 6, 2) := by decide +kernel
theorem dX3_findBest_32 : decode cX3_findBest 32 = .ok (.aload_n 0, 1) := by decide +kernel
theorem dX3_findBest_33 : decode cX3_findBest 33 = .ok (.getfield 18, 3) := by decide +kernel
theorem dX3_findBest_36 : decode cX3_findBest 36 = .ok (.iload 5, 2) := by decide +kernel
theorem dX3_findBest_38 : decode cX3_findBest 38 = .ok (.aload_n 0, 1) := by decide +kernel
theorem dX3_findBest_39 : decode cX3_findBest 39 = .ok (.getfield 29, 3) := by decide +kernel
theorem dX3_findBest_42 : decode cX3_findBest 42 = .ok (.getfield 49, 3) := by decide +kernel
theorem dX3_findBest_45 : decode cX3_findBest 45 = .ok (.iload 5, 2) := by decide +kernel
theorem dX3_findBest_47 : decode cX3_findBest 47 = .ok (.iaload, 1) := by decide +kernel
theorem dX3_findBest_48 : decode cX3_findBest 48 = .ok (.iconst 3, 1) := by decide +kernel
theorem dX3_findBest_49 : decode cX3_findBest 49 = .ok (.iload 6, 2) := by decide +kernel
theorem dX3_findBest_51 : decode cX3_findBest 51 = .ok (.imul, 1) := by decide +kernel
theorem dX3_findBest_52 : decode cX3_findBest 52 = .ok (.isub, 1) := by decide +kernel
theorem dX3_findBest_53 : decode cX3_findBest 53 = .ok (.iastore, 1) := by decide +kernel
theorem dX3_findBest_54 : decode cX3_findBest 54 = .ok (.aload_n 0, 1) := by decide +kernel
theorem dX3_findBest_55 : decode cX3_findBest 55 = .ok (.getfield 21, 3) := by decide +kernel
theorem dX3_findBest_58 : decode cX3_findBest 58 = .ok (.iload 5, 2) := by decide +kernel
theorem dX3_findBest_60 : decode cX3_findBest 60 = .ok (.aload_n 0, 1) := by decide +kernel
theorem dX3_findBest_61 : decode cX3_findBest 61 = .ok (.iload 5, 2) := by decide +kernel
theorem dX3_findBest_63 : decode cX3_findBest 63 = .ok (.iload_n 1, 1) := by decide +kernel
theorem dX3_findBest_64 : decode cX3_findBest 64 = .ok (.iload 4, 2) := by decide +kernel
theorem dX3_findBest_66 : decode cX3_findBest 66 = .ok (.invokevirtual 52, 3) := by decide +kernel
theorem dX3_findBest_69 : decode cX3_findBest 69 = .ok (.bastore, 1) := by decide +kernel
theorem dX3_findBest_70 : decode cX3_findBest 70 = .ok (.iinc 5 1, 3) := by decide +kernel
theorem dX3_findBest_73 : decode cX3_findBest 73 = .ok (.goto (-70), 3) := by decide +kernel
theorem dX3_findBest_76 : decode cX3_findBest 76 = .ok (.aload_n 0, 1) := by decide +kernel
theorem dX3_findBest_77 : decode cX3_findBest 77 = .ok (.ldc 56, 2) := by decide +kernel
theorem dX3_findBest_79 : decode cX3_findBest 79 = .ok (.putfield 57, 3) := by decide +kernel
theorem dX3_findBest_82 : decode cX3_findBest 82 = .ok (.aload_n 0, 1) := by decide +kernel
theorem dX3_findBest_83 : decode cX3_findBest 83 = .ok (.iconst 0, 1) := by decide +kernel
theorem dX3_findBest_84 : decode cX3_findBest 84 = .ok (.bipush (-6), 2) := by decide +kernel
theorem dX3_findBest_86 : decode cX3_findBest 86 = .ok (.aload_n 0, 1) := by decide +kernel
theorem dX3_findBest_87 : decode cX3_findBest 87 = .ok (.getfield 25, 3) := by decide +kernel
theorem dX3_findBest_90 : decode cX3_findBest 90 = .ok (.iload_n 2, 1) := by decide +kernel
theorem dX3_findBest_91 : decode cX3_findBest 91 = .ok (.iconst 1, 1) := by decide +kernel
theorem dX3_findBest_92 : decode cX3_findBest 92 = .ok (.iload_n 1, 1) := by decide +kernel
theorem dX3_findBest_93 : decode cX3_findBest 93 = .ok (.ishl, 1) := by decide +kernel
theorem dX3_findBest_94 : decode cX3_findBest 94 = .ok (.ior, 1) := by decide +kernel
theorem dX3_findBest_95 : decode cX3_findBest 95 = .ok (.invokevirtual 60, 3) := by decide +kernel
theorem dX3_findBest_98 : decode cX3_findBest 98 = .ok (.imul, 1) := by decide +kernel
theorem dX3_findBest_99 : decode cX3_findBest 99 = .ok (.invokevirtual 65, 3) := by decide +kernel
theorem dX3_findBest_102 : decode cX3_findBest 102 = .ok (.aload_n 0, 1) := by decide +kernel
theorem dX3_findBest_103 : decode cX3_findBest 103 = .ok (.getfield 57, 3) := by decide +kernel
theorem dX3_findBest_106 : decode cX3_findBest 106 = .ok (.ireturn, 1) := by decide +kernel
def T_X3_findBest_3 (sp_X5_seenBy sp_J6_bitCount_0f7a4 sp_X3_canBeChosen sp_X2_countQuarrels sp_X3_choose : List ab_V → ab_M → ab_O) : ab_T := [(3, some (s_iload 5 5)), (5, some (s_aload 0 6)), (6, some (s_getR 5 2 9)), (9, some (s_getI 7 0 12)), (12, some (s_cmplt 15 76)), (15, some (s_aload 0 16)), (16, some (s_getR 5 2 19)), (19, some (s_iload 5 21)), (21, some (s_iload 3 22)), (22, some (s_call 7 sp_X5_seenBy 3 [] 25)), (25, some (s_iload 2 26)), (26, some (s_bin (· &&& ·) 27)), (27, some (s_call 999 sp_J6_bitCount_0f7a4 1 [] 30)), (30, some (s_istore 6 32)), (32, some (s_aload 0 33)), (33, some (s_getR 5 4 36)), (36, some (s_iload 5 38)), (38, some (s_aload 0 39)), (39, some (s_getR 5 2 42)), (42, some (s_getR 7 4 45)), (45, some (s_iload 5 47)), (47, some (s_ald 100 48)), (48, some (s_const (vI 3) 49)), (49, some (s_iload 6 51)), (51, some (s_bin (· * ·) 52)), (52, some (s_bin (· - ·) 53)), (53, some (s_ast 100 54)), (54, some (s_aload 0 55)), (55, some (s_getR 5 5 58)), (58, some (s_iload 5 60)), (60, some (s_aload 0 61)), (61, some (s_iload 5 63)), (63, some (s_iload 1 64)), (64, some (s_iload 4 66)), (66, some (s_call 5 sp_X3_canBeChosen 4 [] 69)), (69, some (s_zast 70)), (70, some (s_iinc 5 1 73)), (73, some (s_goto 3)), (76, some (s_aload 0 77)), (77, some (s_const (vI (-1000000)) 79)), (79, some (s_putI 5 6 82)), (82, some (s_aload 0 83)), (83, some (s_const (vI 0) 84)), (84, some (s_const (vI (-6)) 86)), (86, some (s_aload 0 87)), (87, some (s_getR 5 1 90)), (90, some (s_iload 2 91)), (91, some (s_const (vI 1) 92)), (92, some (s_iload 1 93)), (93, some (s_bin (fun x y => x <<< (y &&& 31)) 94)), (94, some (s_bin (· ||| ·) 95)), (95, some (s_call 4 sp_X2_countQuarrels 2 [] 98)), (98, some (s_bin (· * ·) 99)), (99, some (s_call 5 sp_X3_choose 3 [] 102)), (102, some (s_aload 0 103)), (103, some (s_getI 5 6 106)), (106, some (s_ret 0))]
def T_X3_findBest (sp_X5_seenBy sp_J6_bitCount_0f7a4 sp_X3_canBeChosen sp_X2_countQuarrels sp_X3_choose : List ab_V → ab_M → ab_O) : ab_T := [(0, some (s_const (vI 0) 1)), (1, some (s_istore 5 3)), (3, none)] ++ T_X3_findBest_3 sp_X5_seenBy sp_J6_bitCount_0f7a4 sp_X3_canBeChosen sp_X2_countQuarrels sp_X3_choose
set_option maxRecDepth 20000 in
theorem mt_X3_findBest {sp_X5_seenBy sp_J6_bitCount_0f7a4 sp_X3_canBeChosen sp_X2_countQuarrels sp_X3_choose : List ab_V → ab_M → ab_O} : MonoT (T_X3_findBest sp_X5_seenBy sp_J6_bitCount_0f7a4 sp_X3_canBeChosen sp_X2_countQuarrels sp_X3_choose) := MA_mem (And.intro mono_const (And.intro mono_istore (And.intro mono_iload (And.intro mono_aload (And.intro mono_getR (And.intro mono_getI (And.intro mono_cmplt (And.intro mono_aload (And.intro mono_getR (And.intro mono_iload (And.intro mono_iload (And.intro mono_call (And.intro mono_iload (And.intro mono_bin (And.intro mono_call (And.intro mono_istore (And.intro mono_aload (And.intro mono_getR (And.intro mono_iload (And.intro mono_aload (And.intro mono_getR (And.intro mono_getR (And.intro mono_iload (And.intro mono_ald (And.intro mono_const (And.intro mono_iload (And.intro mono_bin (And.intro mono_bin (And.intro mono_ast (And.intro mono_aload (And.intro mono_getR (And.intro mono_iload (And.intro mono_aload (And.intro mono_iload (And.intro mono_iload (And.intro mono_iload (And.intro mono_call (And.intro mono_zast (And.intro mono_iinc (And.intro mono_goto (And.intro mono_aload (And.intro mono_const (And.intro mono_putI (And.intro mono_aload (And.intro mono_const (And.intro mono_const (And.intro mono_aload (And.intro mono_getR (And.intro mono_iload (And.intro mono_const (And.intro mono_iload (And.intro mono_bin (And.intro mono_bin (And.intro mono_call (And.intro mono_bin (And.intro mono_call (And.intro mono_aload (And.intro mono_getI (And.intro mono_ret trivial)))))))))))))))))))))))))))))))))))))))))))))))))))))))))))
set_option maxRecDepth 20000 in
set_option maxHeartbeats 4000000 in
theorem snd_X3_findBest {l : Launch} {D : va_G} {cA : Nat → ClassId} {d : Nat} {sp_X5_seenBy sp_J6_bitCount_0f7a4 sp_X3_canBeChosen sp_X2_countQuarrels sp_X3_choose : List ab_V → ab_M → ab_O} {d' : Nat} (hd9 : d' + 1 ≤ d) (hC_X5_seenBy : ∀ as m, Ctr l D cA d' yX5_seenBy (Cond.code yX5_seenBy cX5_seenBy 5 (some .int) :: TB) as m (sp_X5_seenBy as m)) (hC_J6_bitCount_0f7a4 : ∀ as m, Ctr l D cA d' yJ6_bitCount_0f7a4 (Cond.code yJ6_bitCount_0f7a4 cJ6_bitCount_0f7a4 1 (some .int) :: TB) as m (sp_J6_bitCount_0f7a4 as m)) (hC_X3_canBeChosen : ∀ as m, Ctr l D cA d' yX3_canBeChosen (Cond.code yX3_canBeChosen cX3_canBeChosen 5 (some .boolean) :: TB) as m (sp_X3_canBeChosen as m)) (hC_X2_countQuarrels : ∀ as m, Ctr l D cA d' yX2_countQuarrels (Cond.code yX2_countQuarrels cX2_countQuarrels 4 (some .int) :: TB) as m (sp_X2_countQuarrels as m)) (hC_X3_choose : ∀ as m, Ctr l D cA d' yX3_choose (Cond.code yX3_choose cX3_choose 5 none :: TB) as m (sp_X3_choose as m)) : Sound l D cA d 7 yX3_findBest cX3_findBest (some .int) [] (T_X3_findBest sp_X5_seenBy sp_J6_bitCount_0f7a4 sp_X3_canBeChosen sp_X2_countQuarrels sp_X3_choose) := by
  intro p e R s m args below meth c loc0 m0 r Q E hQ h0 hrt hnm htab
  exact SA_mem (And.intro (fun ls st mm h => so_iconst E (by decide) dX3_findBest_0 h) (And.intro (fun ls st mm h => so_istore E dX3_findBest_1 h) (And.intro (fun ls st mm h => so_iload E dX3_findBest_3 h) (And.intro (fun ls st mm h => so_aload_n E rfl dX3_findBest_5 h) (And.intro (fun ls st mm h => so_getR E (C := RX3) (T := TX3) (N := 7) (ck := 5) rfl rfl (by decide) tu_X3 (k := 2) (ref := "Iemotohall$Planner") (by decide) (by decide) tw_t1_203 (fun _ h => h) dX3_findBest_6 h) (And.intro (fun ls st mm h => so_getI E (C := RX5) (T := TX5) (N := 9) (ck := 7) rfl rfl (by decide) tu_X5 (k := 0) (ref := "Iemotohall$Utensils") (by decide) (by decide) tw_t1_139 (fun _ h => h) dX3_findBest_9 h) (And.intro (fun ls st mm h => so_icmpge E (tgt := 76) (by decide) dX3_findBest_12 h) (And.intro (fun ls st mm h => so_aload_n E rfl dX3_findBest_15 h) (And.intro (fun ls st mm h => so_getR E (C := RX3) (T := TX3) (N := 7) (ck := 5) rfl rfl (by decide) tu_X3 (k := 2) (ref := "Iemotohall$Planner") (by decide) (by decide) tw_t1_203 (fun _ h => h) dX3_findBest_16 h) (And.intro (fun ls st mm h => so_iload E dX3_findBest_19 h) (And.intro (fun ls st mm h => so_iload_n E rfl dX3_findBest_21 h) (And.intro (fun ls st mm h => so_callV E hQ rfl (fun _ h => h) h0 (idx := 39) (C := RX5) (T := TX5) (N := 9) rfl (by decide) (by decide) rfl hd9 (by decide) hC_X5_seenBy (hd_nil htab) tw_t3_29 tw_t3_30 tw_t3_31 tw_t1_5 tw_t3_32 (by decide +kernel) dX3_findBest_22 h) (And.intro (fun ls st mm h => so_iload_n E rfl dX3_findBest_25 h) (And.intro (fun ls st mm h => so_iand E dX3_findBest_26 h) (And.intro (fun ls st mm h => so_callS E hQ rfl (fun _ h => h) h0 (idx := 43) hd9 (by decide) hC_J6_bitCount_0f7a4 (hd_nil htab) tw_t3_33 tw_t3_5 tw_t1_14 tw_t3_6 (by decide +kernel) dX3_findBest_27 h) (And.intro (fun ls st mm h => so_istore E dX3_findBest_30 h) (And.intro (fun ls st mm h => so_aload_n E rfl dX3_findBest_32 h) (And.intro (fun ls st mm h => so_getR E (C := RX3) (T := TX3) (N := 7) (ck := 5) rfl rfl (by decide) tu_X3 (k := 4) (ref := "Iemotohall$Planner") (by decide) (by decide) tw_t1_205 (fun _ h => h) dX3_findBest_33 h) (And.intro (fun ls st mm h => so_iload E dX3_findBest_36 h) (And.intro (fun ls st mm h => so_aload_n E rfl dX3_findBest_38 h) (And.intro (fun ls st mm h => so_getR E (C := RX3) (T := TX3) (N := 7) (ck := 5) rfl rfl (by decide) tu_X3 (k := 2) (ref := "Iemotohall$Planner") (by decide) (by decide) tw_t1_203 (fun _ h => h) dX3_findBest_39 h) (And.intro (fun ls st mm h => so_getR E (C := RX5) (T := TX5) (N := 9) (ck := 7) rfl rfl (by decide) tu_X5 (k := 4) (ref := "Iemotohall$Utensils") (by decide) (by decide) tw_t1_151 (fun _ h => h) dX3_findBest_42 h) (And.intro (fun ls st mm h => so_iload E dX3_findBest_45 h) (And.intro (fun ls st mm h => so_iald E dX3_findBest_47 h) (And.intro (fun ls st mm h => so_iconst E (by decide) dX3_findBest_48 h) (And.intro (fun ls st mm h => so_iload E dX3_findBest_49 h) (And.intro (fun ls st mm h => so_imul E dX3_findBest_51 h) (And.intro (fun ls st mm h => so_isub E dX3_findBest_52 h) (And.intro (fun ls st mm h => so_iast E dX3_findBest_53 h) (And.intro (fun ls st mm h => so_aload_n E rfl dX3_findBest_54 h) (And.intro (fun ls st mm h => so_getR E (C := RX3) (T := TX3) (N := 7) (ck := 5) rfl rfl (by decide) tu_X3 (k := 5) (ref := "Iemotohall$Planner") (by decide) (by decide) tw_t1_206 (fun _ h => h) dX3_findBest_55 h) (And.intro (fun ls st mm h => so_iload E dX3_findBest_58 h) (And.intro (fun ls st mm h => so_aload_n E rfl dX3_findBest_60 h) (And.intro (fun ls st mm h => so_iload E dX3_findBest_61 h) (And.intro (fun ls st mm h => so_iload_n E rfl dX3_findBest_63 h) (And.intro (fun ls st mm h => so_iload E dX3_findBest_64 h) (And.intro (fun ls st mm h => so_callV E hQ rfl (fun _ h => h) h0 (idx := 52) (C := RX3) (T := TX3) (N := 7) rfl (by decide) (by decide) rfl hd9 (by decide) hC_X3_canBeChosen (hd_nil htab) tw_t3_34 tw_t3_36 tw_p1_13 tw_t1_7 tw_t3_37 (by decide +kernel) dX3_findBest_66 h) (And.intro (fun ls st mm h => so_zast E dX3_findBest_69 h) (And.intro (fun ls st mm h => so_iinc E (by decide) dX3_findBest_70 h) (And.intro (fun ls st mm h => so_goto E (tgt := 3) (by decide) dX3_findBest_73 h) (And.intro (fun ls st mm h => so_aload_n E rfl dX3_findBest_76 h) (And.intro (fun ls st mm h => so_ldc E tw_t3_38 dX3_findBest_77 h) (And.intro (fun ls st mm h => so_putI E (C := RX3) (T := TX3) (N := 7) (ck := 5) rfl rfl (by decide) tu_X3 (k := 6) (ref := "Iemotohall$Planner") (by decide) (by decide) tyX3 tyX3_ok nmX3 tw_t1_207 (fun _ h => h) rfl (tyX3_ok 6 (by decide)) dX3_findBest_79 sk2_5 h) (And.intro (fun ls st mm h => so_aload_n E rfl dX3_findBest_82 h) (And.intro (fun ls st mm h => so_iconst E (by decide) dX3_findBest_83 h) (And.intro (fun ls st mm h => so_bipush E (by decide) dX3_findBest_84 h) (And.intro (fun ls st mm h => so_aload_n E rfl dX3_findBest_86 h) (And.intro (fun ls st mm h => so_getR E (C := RX3) (T := TX3) (N := 7) (ck := 5) rfl rfl (by decide) tu_X3 (k := 1) (ref := "Iemotohall$Planner") (by decide) (by decide) tw_t1_202 (fun _ h => h) dX3_findBest_87 h) (And.intro (fun ls st mm h => so_iload_n E rfl dX3_findBest_90 h) (And.intro (fun ls st mm h => so_iconst E (by decide) dX3_findBest_91 h) (And.intro (fun ls st mm h => so_iload_n E rfl dX3_findBest_92 h) (And.intro (fun ls st mm h => so_ishl E dX3_findBest_93 h) (And.intro (fun ls st mm h => so_ior E dX3_findBest_94 h) (And.intro (fun ls st mm h => so_callV E hQ rfl (fun _ h => h) h0 (idx := 60) (C := RX2) (T := TX2) (N := 12) rfl (by decide) (by decide) rfl hd9 (by decide) hC_X2_countQuarrels (hd_nil htab) tw_t3_39 tw_t3_40 tw_t3_41 tw_t1_2 tw_t3_42 (by decide +kernel) dX3_findBest_95 h) (And.intro (fun ls st mm h => so_imul E dX3_findBest_98 h) (And.intro (fun ls st mm h => so_callV E hQ rfl (fun _ h => h) h0 (idx := 65) (C := RX3) (T := TX3) (N := 7) rfl (by decide) (by decide) rfl hd9 (by decide) hC_X3_choose (hd_nil htab) tw_t3_44 tw_t3_46 tw_p1_14 tw_t1_7 tw_t3_47 (by decide +kernel) dX3_findBest_99 h) (And.intro (fun ls st mm h => so_aload_n E rfl dX3_findBest_102 h) (And.intro (fun ls st mm h => so_getI E (C := RX3) (T := TX3) (N := 7) (ck := 5) rfl rfl (by decide) tu_X3 (k := 6) (ref := "Iemotohall$Planner") (by decide) (by decide) tw_t1_207 (fun _ h => h) dX3_findBest_103 h) (And.intro (fun ls st mm h => so_ireturn E hQ rfl (fun _ h => h) h0 (ty := .int) hrt (Or.inl ⟨rfl, rfl⟩) dX3_findBest_106 h) (trivial))))))))))))))))))))))))))))))))))))))))))))))))))))))))))))
theorem dX3_canBeChosen_0 : decode cX3_canBeChosen 0 = .ok (.aload_n 0, 1) := by decide +kernel
theorem dX3_canBeChosen_1 : decode cX3_canBeChosen 1 = .ok (.getfield 29, 3) := by decide +kernel
theorem dX3_canBeChosen_4 : decode cX3_canBeChosen 4 = .ok (.getfield 69, 3) := by decide +kernel
theorem dX3_canBeChosen_7 : decode cX3_canBeChosen 7 = .ok (.iload_n 1, 1) := by decide +kernel
theorem dX3_canBeChosen_8 : decode cX3_canBeChosen 8 = .ok (.iaload, 1) := by decide +kernel
theorem dX3_canBeChosen_9 : decode cX3_canBeChosen 9 = .ok (.istore 4, 2) := by decide +kernel
theorem dX3_canBeChosen_11 : decode cX3_canBeChosen 11 = .ok (.aload_n 0, 1) := by decide +kernel
theorem dX3_canBeChosen_12 : decode cX3_canBeChosen 12 = .ok (.getfield 29, 3) := by decide +kernel
theorem dX3_canBeChosen_15 : decode cX3_canBeChosen 15 = .ok (.getfield 72, 3) := by decide +kernel
theorem dX3_canBeChosen_18 : decode cX3_canBeChosen 18 = .ok (.iload_n 1, 1) := by decide +kernel
theorem dX3_canBeChosen_19 : decode cX3_canBeChosen 19 = .ok (.iaload, 1) := by decide +kernel
theorem dX3_canBeChosen_20 : decode cX3_canBeChosen 20 = .ok (.iload_n 2, 1) := by decide +kernel
theorem dX3_canBeChosen_21 : decode cX3_canBeChosen 21 = .ok (.if_icmp .ne 31, 3) := by decide +kernel
theorem dX3_canBeChosen_24 : decode cX3_canBeChosen 24 = .ok (.aload_n 0, 1) := by decide +kernel
theorem dX3_canBeChosen_25 : decode cX3_canBeChosen 25 = .ok (.getfield 29, 3) := by decide +kernel
theorem dX3_canBeChosen_28 : decode cX3_canBeChosen 28 = .ok (.getfield 75, 3) := by decide +kernel
theorem dX3_canBeChosen_31 : decode cX3_canBeChosen 31 = .ok (.iload_n 1, 1) := by decide +kernel
theorem dX3_canBeChosen_32 : decode cX3_canBeChosen 32 = .ok (.baload, 1) := by decide +kernel
theorem dX3_canBeChosen_33 : decode cX3_canBeChosen 33 = .ok (.ifCond .ne 19, 3) := by decide +kernel
theorem dX3_canBeChosen_36 : decode cX3_canBeChosen 36 = .ok (.iload 4, 2) := by decide +kernel
theorem dX3_canBeChosen_38 : decode cX3_canBeChosen 38 = .ok (.iconst (-1), 1) := by decide +kernel
theorem dX3_canBeChosen_39 : decode cX3_canBeChosen 39 = .ok (.if_icmp .eq 9, 3) := by decide +kernel
theorem dX3_canBeChosen_42 : decode cX3_canBeChosen 42 = .ok (.iload 4, 2) := by decide +kernel
theorem dX3_canBeChosen_44 : decode cX3_canBeChosen 44 = .ok (.iload_n 3, 1) := by decide +kernel
theorem dX3_canBeChosen_45 : decode cX3_canBeChosen 45 = .ok (.if_icmp .ne 7, 3) := by decide +kernel
theorem dX3_canBeChosen_48 : decode cX3_canBeChosen 48 = .ok (.iconst 1, 1) := by decide +kernel
theorem dX3_canBeChosen_49 : decode cX3_canBeChosen 49 = .ok (.goto 4, 3) := by decide +kernel
theorem dX3_canBeChosen_52 : decode cX3_canBeChosen 52 = .ok (.iconst 0, 1) := by decide +kernel
theorem dX3_canBeChosen_53 : decode cX3_canBeChosen 53 = .ok (.ireturn, 1) := by decide +kernel
def T_X3_canBeChosen : ab_T := [(0, some (s_aload 0 1)), (1, some (s_getR 5 2 4)), (4, some (s_getR 7 2 7)), (7, some (s_iload 1 8)), (8, some (s_ald 100 9)), (9, some (s_istore 4 11)), (11, some (s_aload 0 12)), (12, some (s_getR 5 2 15)), (15, some (s_getR 7 5 18)), (18, some (s_iload 1 19)), (19, some (s_ald 100 20)), (20, some (s_iload 2 21)), (21, some (s_cmpeq 24 52)), (24, some (s_aload 0 25)), (25, some (s_getR 5 2 28)), (28, some (s_getR 7 7 31)), (31, some (s_iload 1 32)), (32, some (s_ald 101 33)), (33, some (s_ifeq 36 52)), (36, some (s_iload 4 38)), (38, some (s_const (vI (-1)) 39)), (39, some (s_cmpeq 48 42)), (42, some (s_iload 4 44)), (44, some (s_iload 3 45)), (45, some (s_cmpeq 48 52)), (48, some (s_const (vI 1) 49)), (49, some (s_goto 53)), (52, some (s_const (vI 0) 53)), (53, some (s_ret 1))]
set_option maxRecDepth 20000 in
theorem mt_X3_canBeChosen : MonoT (T_X3_canBeChosen) := MA_mem (And.intro mono_aload (And.intro mono_getR (And.intro mono_getR (And.intro mono_iload (And.intro mono_ald (And.intro mono_istore (And.intro mono_aload (And.intro mono_getR (And.intro mono_getR (And.intro mono_iload (And.intro mono_ald (And.intro mono_iload (And.intro mono_cmpeq (And.intro mono_aload (And.intro mono_getR (And.intro mono_getR (And.intro mono_iload (And.intro mono_ald (And.intro mono_ifeq (And.intro mono_iload (And.intro mono_const (And.intro mono_cmpeq (And.intro mono_iload (And.intro mono_iload (And.intro mono_cmpeq (And.intro mono_const (And.intro mono_goto (And.intro mono_const (And.intro mono_ret trivial)))))))))))))))))))))))))))))
set_option maxRecDepth 20000 in
set_option maxHeartbeats 4000000 in
theorem snd_X3_canBeChosen {l : Launch} {D : va_G} {cA : Nat → ClassId} {d : Nat} : Sound l D cA d 5 yX3_canBeChosen cX3_canBeChosen (some .boolean) [] (T_X3_canBeChosen) := by
  intro p e R s m args below meth c loc0 m0 r Q E hQ h0 hrt hnm htab
  exact SA_mem (And.intro (fun ls st mm h => so_aload_n E rfl dX3_canBeChosen_0 h) (And.intro (fun ls st mm h => so_getR E (C := RX3) (T := TX3) (N := 7) (ck := 5) rfl rfl (by decide) tu_X3 (k := 2) (ref := "Iemotohall$Planner") (by decide) (by decide) tw_t1_203 (fun _ h => h) dX3_canBeChosen_1 h) (And.intro (fun ls st mm h => so_getR E (C := RX5) (T := TX5) (N := 9) (ck := 7) rfl rfl (by decide) tu_X5 (k := 2) (ref := "Iemotohall$Utensils") (by decide) (by decide) tw_t1_145 (fun _ h => h) dX3_canBeChosen_4 h) (And.intro (fun ls st mm h => so_iload_n E rfl dX3_canBeChosen_7 h) (And.intro (fun ls st mm h => so_iald E dX3_canBeChosen_8 h) (And.intro (fun ls st mm h => so_istore E dX3_canBeChosen_9 h) (And.intro (fun ls st mm h => so_aload_n E rfl dX3_canBeChosen_11 h) (And.intro (fun ls st mm h => so_getR E (C := RX3) (T := TX3) (N := 7) (ck := 5) rfl rfl (by decide) tu_X3 (k := 2) (ref := "Iemotohall$Planner") (by decide) (by decide) tw_t1_203 (fun _ h => h) dX3_canBeChosen_12 h) (And.intro (fun ls st mm h => so_getR E (C := RX5) (T := TX5) (N := 9) (ck := 7) rfl rfl (by decide) tu_X5 (k := 5) (ref := "Iemotohall$Utensils") (by decide) (by decide) tw_t1_154 (fun _ h => h) dX3_canBeChosen_15 h) (And.intro (fun ls st mm h => so_iload_n E rfl dX3_canBeChosen_18 h) (And.intro (fun ls st mm h => so_iald E dX3_canBeChosen_19 h) (And.intro (fun ls st mm h => so_iload_n E rfl dX3_canBeChosen_20 h) (And.intro (fun ls st mm h => so_icmpne E (tgt := 52) (by decide) dX3_canBeChosen_21 h) (And.intro (fun ls st mm h => so_aload_n E rfl dX3_canBeChosen_24 h) (And.intro (fun ls st mm h => so_getR E (C := RX3) (T := TX3) (N := 7) (ck := 5) rfl rfl (by decide) tu_X3 (k := 2) (ref := "Iemotohall$Planner") (by decide) (by decide) tw_t1_203 (fun _ h => h) dX3_canBeChosen_25 h) (And.intro (fun ls st mm h => so_getR E (C := RX5) (T := TX5) (N := 9) (ck := 7) rfl rfl (by decide) tu_X5 (k := 7) (ref := "Iemotohall$Utensils") (by decide) (by decide) tw_t1_159 (fun _ h => h) dX3_canBeChosen_28 h) (And.intro (fun ls st mm h => so_iload_n E rfl dX3_canBeChosen_31 h) (And.intro (fun ls st mm h => so_zald E dX3_canBeChosen_32 h) (And.intro (fun ls st mm h => so_ifne E (tgt := 52) (by decide) dX3_canBeChosen_33 h) (And.intro (fun ls st mm h => so_iload E dX3_canBeChosen_36 h) (And.intro (fun ls st mm h => so_iconst E (by decide) dX3_canBeChosen_38 h) (And.intro (fun ls st mm h => so_icmpeq E (tgt := 48) (by decide) dX3_canBeChosen_39 h) (And.intro (fun ls st mm h => so_iload E dX3_canBeChosen_42 h) (And.intro (fun ls st mm h => so_iload_n E rfl dX3_canBeChosen_44 h) (And.intro (fun ls st mm h => so_icmpne E (tgt := 52) (by decide) dX3_canBeChosen_45 h) (And.intro (fun ls st mm h => so_iconst E (by decide) dX3_canBeChosen_48 h) (And.intro (fun ls st mm h => so_goto E (tgt := 53) (by decide) dX3_canBeChosen_49 h) (And.intro (fun ls st mm h => so_iconst E (by decide) dX3_canBeChosen_52 h) (And.intro (fun ls st mm h => so_ireturn E hQ rfl (fun _ h => h) h0 (ty := .boolean) hrt (Or.inr ⟨rfl, rfl⟩) dX3_canBeChosen_53 h) (trivial))))))))))))))))))))))))))))))
