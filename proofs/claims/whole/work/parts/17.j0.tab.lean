/-! decode rows and tables, by program: J6_bitCount_0f7a4 J9_max_7cf53 J9_min_7cf53 Jxa1e45_init_da8c8 Jxc12de_init_da8c8 Jx35411_init_45d68 Jx35411_hasNext_aae02 Jx35411_next_0502b Jx35411_checkForComodification_da8c8 Jx4a65c_init_da8c8 Jx4a65c_grow_92f84 Jx4a65c_grow_d5877 Jx4a65c_size_8abf5 Jx4a65c_isEmpty_aae02 Jx4a65c_elementData_915e3 Jx4a65c_get_915e3 Jx4a65c_add_72be8 Jx4a65c_add_9ea2d Jx4a65c_iterator_32c93 J15_checkIndex_7cf53 J8_newLength_cabcc J3_checkIndex_8e157 -/
theorem dJ6_bitCount_0f7a4_0 : decode cJ6_bitCount_0f7a4 0 = .ok (.iload_n 0, 1) := by decide +kernel
theorem dJ6_bitCount_0f7a4_1 : decode cJ6_bitCount_0f7a4 1 = .ok (.iload_n 0, 1) := by decide +kernel
theorem dJ6_bitCount_0f7a4_2 : decode cJ6_bitCount_0f7a4 2 = .ok (.iconst 1, 1) := by decide +kernel
theorem dJ6_bitCount_0f7a4_3 : decode cJ6_bitCount_0f7a4 3 = .ok (.iushr, 1) := by decide +kernel
theorem dJ6_bitCount_0f7a4_4 : decode cJ6_bitCount_0f7a4 4 = .ok (.ldc_w 265, 3) := by decide +kernel
theorem dJ6_bitCount_0f7a4_7 : decode cJ6_bitCount_0f7a4 7 = .ok (.iand, 1) := by decide +kernel
theorem dJ6_bitCount_0f7a4_8 : decode cJ6_bitCount_0f7a4 8 = .ok (.isub, 1) := by decide +kernel
theorem dJ6_bitCount_0f7a4_9 : decode cJ6_bitCount_0f7a4 9 = .ok (.istore_n 0, 1) := by decide +kernel
theorem dJ6_bitCount_0f7a4_10 : decode cJ6_bitCount_0f7a4 10 = .ok (.iload_n 0, 1) := by decide +kernel
theorem dJ6_bitCount_0f7a4_11 : decode cJ6_bitCount_0f7a4 11 = .ok (.ldc_w 266, 3) := by decide +kernel
theorem dJ6_bitCount_0f7a4_14 : decode cJ6_bitCount_0f7a4 14 = .ok (.iand, 1) := by decide +kernel
theorem dJ6_bitCount_0f7a4_15 : decode cJ6_bitCount_0f7a4 15 = .ok (.iload_n 0, 1) := by decide +kernel
theorem dJ6_bitCount_0f7a4_16 : decode cJ6_bitCount_0f7a4 16 = .ok (.iconst 2, 1) := by decide +kernel
theorem dJ6_bitCount_0f7a4_17 : decode cJ6_bitCount_0f7a4 17 = .ok (.iushr, 1) := by decide +kernel
theorem dJ6_bitCount_0f7a4_18 : decode cJ6_bitCount_0f7a4 18 = .ok (.ldc_w 266, 3) := by decide +kernel
theorem dJ6_bitCount_0f7a4_21 : decode cJ6_bitCount_0f7a4 21 = .ok (.iand, 1) := by decide +kernel
theorem dJ6_bitCount_0f7a4_22 : decode cJ6_bitCount_0f7a4 22 = .ok (.iadd, 1) := by decide +kernel
theorem dJ6_bitCount_0f7a4_23 : decode cJ6_bitCount_0f7a4 23 = .ok (.istore_n 0, 1) := by decide +kernel
theorem dJ6_bitCount_0f7a4_24 : decode cJ6_bitCount_0f7a4 24 = .ok (.iload_n 0, 1) := by decide +kernel
theorem dJ6_bitCount_0f7a4_25 : decode cJ6_bitCount_0f7a4 25 = .ok (.iload_n 0, 1) := by decide +kernel
theorem dJ6_bitCount_0f7a4_26 : decode cJ6_bitCount_0f7a4 26 = .ok (.iconst 4, 1) := by decide +kernel
theorem dJ6_bitCount_0f7a4_27 : decode cJ6_bitCount_0f7a4 27 = .ok (.iushr, 1) := by decide +kernel
theorem dJ6_bitCount_0f7a4_28 : decode cJ6_bitCount_0f7a4 28 = .ok (.iadd, 1) := by decide +kernel
theorem dJ6_bitCount_0f7a4_29 : decode cJ6_bitCount_0f7a4 29 = .ok (.ldc_w 267, 3) := by decide +kernel
theorem dJ6_bitCount_0f7a4_32 : decode cJ6_bitCount_0f7a4 32 = .ok (.iand, 1) := by decide +kernel
theorem dJ6_bitCount_0f7a4_33 : decode cJ6_bitCount_0f7a4 33 = .ok (.istore_n 0, 1) := by decide +kernel
theorem dJ6_bitCount_0f7a4_34 : decode cJ6_bitCount_0f7a4 34 = .ok (.iload_n 0, 1) := by decide +kernel
theorem dJ6_bitCount_0f7a4_35 : decode cJ6_bitCount_0f7a4 35 = .ok (.iload_n 0, 1) := by decide +kernel
theorem dJ6_bitCount_0f7a4_36 : decode cJ6_bitCount_0f7a4 36 = .ok (.bipush 8, 2) := by decide +kernel
theorem dJ6_bitCount_0f7a4_38 : decode cJ6_bitCount_0f7a4 38 = .ok (.iushr, 1) := by decide +kernel
theorem dJ6_bitCount_0f7a4_39 : decode cJ6_bitCount_0f7a4 39 = .ok (.iadd, 1) := by decide +kernel
theorem dJ6_bitCount_0f7a4_40 : decode cJ6_bitCount_0f7a4 40 = .ok (.istore_n 0, 1) := by decide +kernel
theorem dJ6_bitCount_0f7a4_41 : decode cJ6_bitCount_0f7a4 41 = .ok (.iload_n 0, 1) := by decide +kernel
theorem dJ6_bitCount_0f7a4_42 : decode cJ6_bitCount_0f7a4 42 = .ok (.iload_n 0, 1) := by decide +kernel
theorem dJ6_bitCount_0f7a4_43 : decode cJ6_bitCount_0f7a4 43 = .ok (.bipush 16, 2) := by decide +kernel
theorem dJ6_bitCount_0f7a4_45 : decode cJ6_bitCount_0f7a4 45 = .ok (.iushr, 1) := by decide +kernel
theorem dJ6_bitCount_0f7a4_46 : decode cJ6_bitCount_0f7a4 46 = .ok (.iadd, 1) := by decide +kernel
theorem dJ6_bitCount_0f7a4_47 : decode cJ6_bitCount_0f7a4 47 = .ok (.istore_n 0, 1) := by decide +kernel
theorem dJ6_bitCount_0f7a4_48 : decode cJ6_bitCount_0f7a4 48 = .ok (.iload_n 0, 1) := by decide +kernel
theorem dJ6_bitCount_0f7a4_49 : decode cJ6_bitCount_0f7a4 49 = .ok (.bipush 63, 2) := by decide +kernel
theorem dJ6_bitCount_0f7a4_51 : decode cJ6_bitCount_0f7a4 51 = .ok (.iand, 1) := by decide +kernel
theorem dJ6_bitCount_0f7a4_52 : decode cJ6_bitCount_0f7a4 52 = .ok (.ireturn, 1) := by decide +kernel
def T_J6_bitCount_0f7a4 : ab_T := [(0, some (s_iload 0 1)), (1, some (s_iload 0 2)), (2, some (s_const (vI 1) 3)), (3, some (s_bin (fun x y => (x.toUInt32 >>> (y.toUInt32 &&& Int32.toUInt32 31)).toInt32) 4)), (4, some (s_const (vI 1431655765) 7)), (7, some (s_bin (· &&& ·) 8)), (8, some (s_bin (· - ·) 9)), (9, some (s_istore 0 10)), (10, some (s_iload 0 11)), (11, some (s_const (vI 858993459) 14)), (14, some (s_bin (· &&& ·) 15)), (15, some (s_iload 0 16)), (16, some (s_const (vI 2) 17)), (17, some (s_bin (fun x y => (x.toUInt32 >>> (y.toUInt32 &&& Int32.toUInt32 31)).toInt32) 18)), (18, some (s_const (vI 858993459) 21)), (21, some (s_bin (· &&& ·) 22)), (22, some (s_bin (· + ·) 23)), (23, some (s_istore 0 24)), (24, some (s_iload 0 25)), (25, some (s_iload 0 26)), (26, some (s_const (vI 4) 27)), (27, some (s_bin (fun x y => (x.toUInt32 >>> (y.toUInt32 &&& Int32.toUInt32 31)).toInt32) 28)), (28, some (s_bin (· + ·) 29)), (29, some (s_const (vI 252645135) 32)), (32, some (s_bin (· &&& ·) 33)), (33, some (s_istore 0 34)), (34, some (s_iload 0 35)), (35, some (s_iload 0 36)), (36, some (s_const (vI 8) 38)), (38, some (s_bin (fun x y => (x.toUInt32 >>> (y.toUInt32 &&& Int32.toUInt32 31)).toInt32) 39)), (39, some (s_bin (· + ·) 40)), (40, some (s_istore 0 41)), (41, some (s_iload 0 42)), (42, some (s_iload 0 43)), (43, some (s_const (vI 16) 45)), (45, some (s_bin (fun x y => (x.toUInt32 >>> (y.toUInt32 &&& Int32.toUInt32 31)).toInt32) 46)), (46, some (s_bin (· + ·) 47)), (47, some (s_istore 0 48)), (48, some (s_iload 0 49)), (49, some (s_const (vI 63) 51)), (51, some (s_bin (· &&& ·) 52)), (52, some (s_ret 0))]
set_option maxRecDepth 20000 in
theorem mt_J6_bitCount_0f7a4 : MonoT (T_J6_bitCount_0f7a4) := MA_mem (And.intro mono_iload (And.intro mono_iload (And.intro mono_const (And.intro mono_bin (And.intro mono_const (And.intro mono_bin (And.intro mono_bin (And.intro mono_istore (And.intro mono_iload (And.intro mono_const (And.intro mono_bin (And.intro mono_iload (And.intro mono_const (And.intro mono_bin (And.intro mono_const (And.intro mono_bin (And.intro mono_bin (And.intro mono_istore (And.intro mono_iload (And.intro mono_iload (And.intro mono_const (And.intro mono_bin (And.intro mono_bin (And.intro mono_const (And.intro mono_bin (And.intro mono_istore (And.intro mono_iload (And.intro mono_iload (And.intro mono_const (And.intro mono_bin (And.intro mono_bin (And.intro mono_istore (And.intro mono_iload (And.intro mono_iload (And.intro mono_const (And.intro mono_bin (And.intro mono_bin (And.intro mono_istore (And.intro mono_iload (And.intro mono_const (And.intro mono_bin (And.intro mono_ret trivial))))))))))))))))))))))))))))))))))))))))))
set_option maxRecDepth 20000 in
set_option maxHeartbeats 4000000 in
theorem snd_J6_bitCount_0f7a4 {l : Launch} {D : va_G} {cA : Nat → ClassId} {d : Nat} : Sound l D cA d 1 yJ6_bitCount_0f7a4 cJ6_bitCount_0f7a4 (some .int) [] (T_J6_bitCount_0f7a4) := by
  intro p e R s m args below meth c loc0 m0 r Q E hQ h0 hrt hnm htab
  exact SA_mem (And.intro (fun ls st mm h => so_iload_n E rfl dJ6_bitCount_0f7a4_0 h) (And.intro (fun ls st mm h => so_iload_n E rfl dJ6_bitCount_0f7a4_1 h) (And.intro (fun ls st mm h => so_iconst E (by decide) dJ6_bitCount_0f7a4_2 h) (And.intro (fun ls st mm h => so_iushr E dJ6_bitCount_0f7a4_3 h) (And.intro (fun ls st mm h => so_ldcw E tw_t2_140 dJ6_bitCount_0f7a4_4 h) (And.intro (fun ls st mm h => so_iand E dJ6_bitCount_0f7a4_7 h) (And.intro (fun ls st mm h => so_isub E dJ6_bitCount_0f7a4_8 h) (And.intro (fun ls st mm h => so_istore_n E rfl dJ6_bitCount_0f7a4_9 h) (And.intro (fun ls st mm h => so_iload_n E rfl dJ6_bitCount_0f7a4_10 h) (And.intro (fun ls st mm h => so_ldcw E tw_t2_141 dJ6_bitCount_0f7a4_11 h) (And.intro (fun ls st mm h => so_iand E dJ6_bitCount_0f7a4_14 h) (And.intro (fun ls st mm h => so_iload_n E rfl dJ6_bitCount_0f7a4_15 h) (And.intro (fun ls st mm h => so_iconst E (by decide) dJ6_bitCount_0f7a4_16 h) (And.intro (fun ls st mm h => so_iushr E dJ6_bitCount_0f7a4_17 h) (And.intro (fun ls st mm h => so_ldcw E tw_t2_141 dJ6_bitCount_0f7a4_18 h) (And.intro (fun ls st mm h => so_iand E dJ6_bitCount_0f7a4_21 h) (And.intro (fun ls st mm h => so_iadd E dJ6_bitCount_0f7a4_22 h) (And.intro (fun ls st mm h => so_istore_n E rfl dJ6_bitCount_0f7a4_23 h) (And.intro (fun ls st mm h => so_iload_n E rfl dJ6_bitCount_0f7a4_24 h) (And.intro (fun ls st mm h => so_iload_n E rfl dJ6_bitCount_0f7a4_25 h) (And.intro (fun ls st mm h => so_iconst E (by decide) dJ6_bitCount_0f7a4_26 h) (And.intro (fun ls st mm h => so_iushr E dJ6_bitCount_0f7a4_27 h) (And.intro (fun ls st mm h => so_iadd E dJ6_bitCount_0f7a4_28 h) (And.intro (fun ls st mm h => so_ldcw E tw_t2_142 dJ6_bitCount_0f7a4_29 h) (And.intro (fun ls st mm h => so_iand E dJ6_bitCount_0f7a4_32 h) (And.intro (fun ls st mm h => so_istore_n E rfl dJ6_bitCount_0f7a4_33 h) (And.intro (fun ls st mm h => so_iload_n E rfl dJ6_bitCount_0f7a4_34 h) (And.intro (fun ls st mm h => so_iload_n E rfl dJ6_bitCount_0f7a4_35 h) (And.intro (fun ls st mm h => so_bipush E (by decide) dJ6_bitCount_0f7a4_36 h) (And.intro (fun ls st mm h => so_iushr E dJ6_bitCount_0f7a4_38 h) (And.intro (fun ls st mm h => so_iadd E dJ6_bitCount_0f7a4_39 h) (And.intro (fun ls st mm h => so_istore_n E rfl dJ6_bitCount_0f7a4_40 h) (And.intro (fun ls st mm h => so_iload_n E rfl dJ6_bitCount_0f7a4_41 h) (And.intro (fun ls st mm h => so_iload_n E rfl dJ6_bitCount_0f7a4_42 h) (And.intro (fun ls st mm h => so_bipush E (by decide) dJ6_bitCount_0f7a4_43 h) (And.intro (fun ls st mm h => so_iushr E dJ6_bitCount_0f7a4_45 h) (And.intro (fun ls st mm h => so_iadd E dJ6_bitCount_0f7a4_46 h) (And.intro (fun ls st mm h => so_istore_n E rfl dJ6_bitCount_0f7a4_47 h) (And.intro (fun ls st mm h => so_iload_n E rfl dJ6_bitCount_0f7a4_48 h) (And.intro (fun ls st mm h => so_bipush E (by decide) dJ6_bitCount_0f7a4_49 h) (And.intro (fun ls st mm h => so_iand E dJ6_bitCount_0f7a4_51 h) (And.intro (fun ls st mm h => so_ireturn E hQ rfl (fun _ h => h) h0 (ty := .int) hrt (Or.inl ⟨rfl, rfl⟩) dJ6_bitCount_0f7a4_52 h) (trivial)))))))))))))))))))))))))))))))))))))))))))
theorem dJ9_max_7cf53_0 : decode cJ9_max_7cf53 0 = .ok (.iload_n 0, 1) := by decide +kernel
theorem dJ9_max_7cf53_1 : decode cJ9_max_7cf53 1 = .ok (.iload_n 1, 1) := by decide +kernel
theorem dJ9_max_7cf53_2 : decode cJ9_max_7cf53 2 = .ok (.if_icmp .lt 7, 3) := by decide +kernel
theorem dJ9_max_7cf53_5 : decode cJ9_max_7cf53 5 = .ok (.iload_n 0, 1) := by decide +kernel
theorem dJ9_max_7cf53_6 : decode cJ9_max_7cf53 6 = .ok (.goto 4, 3) := by decide +kernel
theorem dJ9_max_7cf53_9 : decode cJ9_max_7cf53 9 = .ok (.iload_n 1, 1) := by decide +kernel
theorem dJ9_max_7cf53_10 : decode cJ9_max_7cf53 10 = .ok (.ireturn, 1) := by decide +kernel
def T_J9_max_7cf53 : ab_T := [(0, some (s_iload 0 1)), (1, some (s_iload 1 2)), (2, some (s_cmplt 9 5)), (5, some (s_iload 0 6)), (6, some (s_goto 10)), (9, some (s_iload 1 10)), (10, some (s_ret 0))]
set_option maxRecDepth 20000 in
theorem mt_J9_max_7cf53 : MonoT (T_J9_max_7cf53) := MA_mem (And.intro mono_iload (And.intro mono_iload (And.intro mono_cmplt (And.intro mono_iload (And.intro mono_goto (And.intro mono_iload (And.intro mono_ret trivial)))))))
set_option maxRecDepth 20000 in
set_option maxHeartbeats 4000000 in
theorem snd_J9_max_7cf53 {l : Launch} {D : va_G} {cA : Nat → ClassId} {d : Nat} : Sound l D cA d 2 yJ9_max_7cf53 cJ9_max_7cf53 (some .int) [] (T_J9_max_7cf53) := by
  intro p e R s m args below meth c loc0 m0 r Q E hQ h0 hrt hnm htab
  exact SA_mem (And.intro (fun ls st mm h => so_iload_n E rfl dJ9_max_7cf53_0 h) (And.intro (fun ls st mm h => so_iload_n E rfl dJ9_max_7cf53_1 h) (And.intro (fun ls st mm h => so_icmplt E (tgt := 9) (by decide) dJ9_max_7cf53_2 h) (And.intro (fun ls st mm h => so_iload_n E rfl dJ9_max_7cf53_5 h) (And.intro (fun ls st mm h => so_goto E (tgt := 10) (by decide) dJ9_max_7cf53_6 h) (And.intro (fun ls st mm h => so_iload_n E rfl dJ9_max_7cf53_9 h) (And.intro (fun ls st mm h => so_ireturn E hQ rfl (fun _ h => h) h0 (ty := .int) hrt (Or.inl ⟨rfl, rfl⟩) dJ9_max_7cf53_10 h) (trivial))))))))
theorem dJ9_min_7cf53_0 : decode cJ9_min_7cf53 0 = .ok (.iload_n 0, 1) := by decide +kernel
theorem dJ9_min_7cf53_1 : decode cJ9_min_7cf53 1 = .ok (.iload_n 1, 1) := by decide +kernel
theorem dJ9_min_7cf53_2 : decode cJ9_min_7cf53 2 = .ok (.if_icmp .gt 7, 3) := by decide +kernel
theorem dJ9_min_7cf53_5 : decode cJ9_min_7cf53 5 = .ok (.iload_n 0, 1) := by decide +kernel
theorem dJ9_min_7cf53_6 : decode cJ9_min_7cf53 6 = .ok (.goto 4, 3) := by decide +kernel
theorem dJ9_min_7cf53_9 : decode cJ9_min_7cf53 9 = .ok (.iload_n 1, 1) := by decide +kernel
theorem dJ9_min_7cf53_10 : decode cJ9_min_7cf53 10 = .ok (.ireturn, 1) := by decide +kernel
def T_J9_min_7cf53 : ab_T := [(0, some (s_iload 0 1)), (1, some (s_iload 1 2)), (2, some (s_cmpgt 9 5)), (5, some (s_iload 0 6)), (6, some (s_goto 10)), (9, some (s_iload 1 10)), (10, some (s_ret 0))]
set_option maxRecDepth 20000 in
theorem mt_J9_min_7cf53 : MonoT (T_J9_min_7cf53) := MA_mem (And.intro mono_iload (And.intro mono_iload (And.intro mono_cmpgt (And.intro mono_iload (And.intro mono_goto (And.intro mono_iload (And.intro mono_ret trivial)))))))
set_option maxRecDepth 20000 in
set_option maxHeartbeats 4000000 in
theorem snd_J9_min_7cf53 {l : Launch} {D : va_G} {cA : Nat → ClassId} {d : Nat} : Sound l D cA d 2 yJ9_min_7cf53 cJ9_min_7cf53 (some .int) [] (T_J9_min_7cf53) := by
  intro p e R s m args below meth c loc0 m0 r Q E hQ h0 hrt hnm htab
  exact SA_mem (And.intro (fun ls st mm h => so_iload_n E rfl dJ9_min_7cf53_0 h) (And.intro (fun ls st mm h => so_iload_n E rfl dJ9_min_7cf53_1 h) (And.intro (fun ls st mm h => so_icmpgt E (tgt := 9) (by decide) dJ9_min_7cf53_2 h) (And.intro (fun ls st mm h => so_iload_n E rfl dJ9_min_7cf53_5 h) (And.intro (fun ls st mm h => so_goto E (tgt := 10) (by decide) dJ9_min_7cf53_6 h) (And.intro (fun ls st mm h => so_iload_n E rfl dJ9_min_7cf53_9 h) (And.intro (fun ls st mm h => so_ireturn E hQ rfl (fun _ h => h) h0 (ty := .int) hrt (Or.inl ⟨rfl, rfl⟩) dJ9_min_7cf53_10 h) (trivial))))))))
theorem dJxa1e45_init_da8c8_0 : decode cJxa1e45_init_da8c8 0 = .ok (.aload_n 0, 1) := by decide +kernel
theorem dJxa1e45_init_da8c8_1 : decode cJxa1e45_init_da8c8 1 = .ok (.invokespecial 1, 3) := by decide +kernel
theorem dJxa1e45_init_da8c8_4 : decode cJxa1e45_init_da8c8 4 = .ok (.return_, 1) := by decide +kernel
def T_Jxa1e45_init_da8c8 : ab_T := [(0, some (s_aload 0 1)), (1, some (s_obj 4)), (4, some (s_retV))]
set_option maxRecDepth 20000 in
theorem mt_Jxa1e45_init_da8c8 : MonoT (T_Jxa1e45_init_da8c8) := MA_mem (And.intro mono_aload (And.intro mono_obj (And.intro mono_retV trivial)))
set_option maxRecDepth 20000 in
set_option maxHeartbeats 4000000 in
theorem snd_Jxa1e45_init_da8c8 {l : Launch} {D : va_G} {cA : Nat → ClassId} {d : Nat} : Sound l D cA d 1 yJxa1e45_init_da8c8 cJxa1e45_init_da8c8 none [] (T_Jxa1e45_init_da8c8) := by
  intro p e R s m args below meth c loc0 m0 r Q E hQ h0 hrt hnm htab
  exact SA_mem (And.intro (fun ls st mm h => so_aload_n E rfl dJxa1e45_init_da8c8_0 h) (And.intro (fun ls st mm h => so_obj E tw_t4_173 tw_t1_34 tw_t1_35 dJxa1e45_init_da8c8_1 h) (And.intro (fun ls st mm h => so_vreturn E hQ rfl (fun _ h => h) h0 hrt dJxa1e45_init_da8c8_4 h) (trivial))))
theorem dJxc12de_init_da8c8_0 : decode cJxc12de_init_da8c8 0 = .ok (.aload_n 0, 1) := by decide +kernel
theorem dJxc12de_init_da8c8_1 : decode cJxc12de_init_da8c8 1 = .ok (.invokespecial 1, 3) := by decide +kernel
theorem dJxc12de_init_da8c8_4 : decode cJxc12de_init_da8c8 4 = .ok (.aload_n 0, 1) := by decide +kernel
theorem dJxc12de_init_da8c8_5 : decode cJxc12de_init_da8c8 5 = .ok (.iconst 0, 1) := by decide +kernel
theorem dJxc12de_init_da8c8_6 : decode cJxc12de_init_da8c8 6 = .ok (.putfield 7, 3) := by decide +kernel
theorem dJxc12de_init_da8c8_9 : decode cJxc12de_init_da8c8 9 = .ok (.return_, 1) := by decide +kernel
def T_Jxc12de_init_da8c8 (sp_Jxa1e45_init_da8c8 : List ab_V → ab_M → ab_O) : ab_T := [(0, some (s_aload 0 1)), (1, some (s_call 1 sp_Jxa1e45_init_da8c8 1 [] 4)), (4, some (s_aload 0 5)), (5, some (s_const (vI 0) 6)), (6, some (s_putI 1 0 9)), (9, some (s_retV))]
set_option maxRecDepth 20000 in
theorem mt_Jxc12de_init_da8c8 {sp_Jxa1e45_init_da8c8 : List ab_V → ab_M → ab_O} : MonoT (T_Jxc12de_init_da8c8 sp_Jxa1e45_init_da8c8) := MA_mem (And.intro mono_aload (And.intro mono_call (And.intro mono_aload (And.intro mono_const (And.intro mono_putI (And.intro mono_retV trivial))))))
set_option maxRecDepth 20000 in
set_option maxHeartbeats 4000000 in
theorem snd_Jxc12de_init_da8c8 {l : Launch} {D : va_G} {cA : Nat → ClassId} {d : Nat} {sp_Jxa1e45_init_da8c8 : List ab_V → ab_M → ab_O} {d' : Nat} (hd9 : d' + 1 ≤ d) (hC_Jxa1e45_init_da8c8 : ∀ as m, Ctr l D cA d' yJxa1e45_init_da8c8 (Cond.code yJxa1e45_init_da8c8 cJxa1e45_init_da8c8 1 none :: TB) as m (sp_Jxa1e45_init_da8c8 as m)) : Sound l D cA d 1 yJxc12de_init_da8c8 cJxc12de_init_da8c8 none [] (T_Jxc12de_init_da8c8 sp_Jxa1e45_init_da8c8) := by
  intro p e R s m args below meth c loc0 m0 r Q E hQ h0 hrt hnm htab
  exact SA_mem (And.intro (fun ls st mm h => so_aload_n E rfl dJxc12de_init_da8c8_0 h) (And.intro (fun ls st mm h => so_callI E hQ rfl (fun _ h => h) h0 (idx := 1) (by decide) (by decide) rfl rfl hd9 (by decide) hC_Jxa1e45_init_da8c8 (hd_nil htab) tw_t4_170 tw_t4_171 tw_t1_9 tw_t4_172 (by decide +kernel) dJxc12de_init_da8c8_1 h) (And.intro (fun ls st mm h => so_aload_n E rfl dJxc12de_init_da8c8_4 h) (And.intro (fun ls st mm h => so_iconst E (by decide) dJxc12de_init_da8c8_5 h) (And.intro (fun ls st mm h => so_putI E (C := RJx4a65c) (T := TJx4a65c) (N := 3) (ck := 1) rfl rfl (by decide) tu_Jx4a65c (k := 0) (ref := "java/util/AbstractList") (by decide) (by decide) tyJx4a65c tyJx4a65c_ok nmJx4a65c tw_t4_180 (fun _ h => h) rfl (tyJx4a65c_ok 0 (by decide)) dJxc12de_init_da8c8_6 sk2_1 h) (And.intro (fun ls st mm h => so_vreturn E hQ rfl (fun _ h => h) h0 hrt dJxc12de_init_da8c8_9 h) (trivial)))))))
theorem dJx35411_init_45d68_0 : decode cJx35411_init_45d68 0 = .ok (.aload_n 0, 1) := by decide +kernel
theorem dJx35411_init_45d68_1 : decode cJx35411_init_45d68 1 = .ok (.aload_n 1, 1) := by decide +kernel
theorem dJx35411_init_45d68_2 : decode cJx35411_init_45d68 2 = .ok (.putfield 1, 3) := by decide +kernel
theorem dJx35411_init_45d68_5 : decode cJx35411_init_45d68 5 = .ok (.aload_n 0, 1) := by decide +kernel
theorem dJx35411_init_45d68_6 : decode cJx35411_init_45d68 6 = .ok (.invokespecial 7, 3) := by decide +kernel
theorem dJx35411_init_45d68_9 : decode cJx35411_init_45d68 9 = .ok (.aload_n 0, 1) := by decide +kernel
theorem dJx35411_init_45d68_10 : decode cJx35411_init_45d68 10 = .ok (.iconst (-1), 1) := by decide +kernel
theorem dJx35411_init_45d68_11 : decode cJx35411_init_45d68 11 = .ok (.putfield 13, 3) := by decide +kernel
theorem dJx35411_init_45d68_14 : decode cJx35411_init_45d68 14 = .ok (.aload_n 0, 1) := by decide +kernel
theorem dJx35411_init_45d68_15 : decode cJx35411_init_45d68 15 = .ok (.aload_n 0, 1) := by decide +kernel
theorem dJx35411_init_45d68_16 : decode cJx35411_init_45d68 16 = .ok (.getfield 1, 3) := by decide +kernel
theorem dJx35411_init_45d68_19 : decode cJx35411_init_45d68 19 = .ok (.getfield 17, 3) := by decide +kernel
theorem dJx35411_init_45d68_22 : decode cJx35411_init_45d68 22 = .ok (.putfield 22, 3) := by decide +kernel
theorem dJx35411_init_45d68_25 : decode cJx35411_init_45d68 25 = .ok (.return_, 1) := by decide +kernel
def T_Jx35411_init_45d68 : ab_T := [(0, some (s_aload 0 1)), (1, some (s_aload 1 2)), (2, some (s_putR 0 3 5)), (5, some (s_aload 0 6)), (6, some (s_obj 9)), (9, some (s_aload 0 10)), (10, some (s_const (vI (-1)) 11)), (11, some (s_putI 0 1 14)), (14, some (s_aload 0 15)), (15, some (s_aload 0 16)), (16, some (s_getR 0 3 19)), (19, some (s_getI 1 0 22)), (22, some (s_putI 0 2 25)), (25, some (s_retV))]
set_option maxRecDepth 20000 in
theorem mt_Jx35411_init_45d68 : MonoT (T_Jx35411_init_45d68) := MA_mem (And.intro mono_aload (And.intro mono_aload (And.intro mono_putR (And.intro mono_aload (And.intro mono_obj (And.intro mono_aload (And.intro mono_const (And.intro mono_putI (And.intro mono_aload (And.intro mono_aload (And.intro mono_getR (And.intro mono_getI (And.intro mono_putI (And.intro mono_retV trivial))))))))))))))
set_option maxRecDepth 20000 in
set_option maxHeartbeats 4000000 in
theorem snd_Jx35411_init_45d68 {l : Launch} {D : va_G} {cA : Nat → ClassId} {d : Nat} : Sound l D cA d 2 yJx35411_init_45d68 cJx35411_init_45d68 none [] (T_Jx35411_init_45d68) := by
  intro p e R s m args below meth c loc0 m0 r Q E hQ h0 hrt hnm htab
  exact SA_mem (And.intro (fun ls st mm h => so_aload_n E rfl dJx35411_init_45d68_0 h) (And.intro (fun ls st mm h => so_aload_n E rfl dJx35411_init_45d68_1 h) (And.intro (fun ls st mm h => so_putRF E (C := RJx35411) (T := TJx35411) (N := 4) (ck := 0) rfl rfl (by decide) tu_Jx35411 (k := 3) (ref := "java/util/ArrayList$Itr") (by decide) (by decide) tyJx35411 tyJx35411_ok nmJx35411 tw_t5_232 (fun _ h => h) rfl hnm rfl (Or.inl ⟨_, rfl⟩) (tyJx35411_ok 3 (by decide)) dJx35411_init_45d68_2 sk2_0 h) (And.intro (fun ls st mm h => so_aload_n E rfl dJx35411_init_45d68_5 h) (And.intro (fun ls st mm h => so_obj E tw_t5_228 tw_t1_34 tw_t1_35 dJx35411_init_45d68_6 h) (And.intro (fun ls st mm h => so_aload_n E rfl dJx35411_init_45d68_9 h) (And.intro (fun ls st mm h => so_iconst E (by decide) dJx35411_init_45d68_10 h) (And.intro (fun ls st mm h => so_putI E (C := RJx35411) (T := TJx35411) (N := 4) (ck := 0) rfl rfl (by decide) tu_Jx35411 (k := 1) (ref := "java/util/ArrayList$Itr") (by decide) (by decide) tyJx35411 tyJx35411_ok nmJx35411 tw_t5_230 (fun _ h => h) rfl (tyJx35411_ok 1 (by decide)) dJx35411_init_45d68_11 sk2_0 h) (And.intro (fun ls st mm h => so_aload_n E rfl dJx35411_init_45d68_14 h) (And.intro (fun ls st mm h => so_aload_n E rfl dJx35411_init_45d68_15 h) (And.intro (fun ls st mm h => so_getR E (C := RJx35411) (T := TJx35411) (N := 4) (ck := 0) rfl rfl (by decide) tu_Jx35411 (k := 3) (ref := "java/util/ArrayList$Itr") (by decide) (by decide) tw_t5_232 (fun _ h => h) dJx35411_init_45d68_16 h) (And.intro (fun ls st mm h => so_getI E (C := RJx4a65c) (T := TJx4a65c) (N := 3) (ck := 1) rfl rfl (by decide) tu_Jx4a65c (k := 0) (ref := "java/util/ArrayList") (by decide) (by decide) tw_t4_181 (fun x hx => u_same (E.2.2.2.2.1 _ tw_t4_182) x hx) dJx35411_init_45d68_19 h) (And.intro (fun ls st mm h => so_putI E (C := RJx35411) (T := TJx35411) (N := 4) (ck := 0) rfl rfl (by decide) tu_Jx35411 (k := 2) (ref := "java/util/ArrayList$Itr") (by decide) (by decide) tyJx35411 tyJx35411_ok nmJx35411 tw_t5_231 (fun _ h => h) rfl (tyJx35411_ok 2 (by decide)) dJx35411_init_45d68_22 sk2_0 h) (And.intro (fun ls st mm h => so_vreturn E hQ rfl (fun _ h => h) h0 hrt dJx35411_init_45d68_25 h) (trivial)))))))))))))))
theorem dJx35411_hasNext_aae02_0 : decode cJx35411_hasNext_aae02 0 = .ok (.aload_n 0, 1) := by decide +kernel
theorem dJx35411_hasNext_aae02_1 : decode cJx35411_hasNext_aae02 1 = .ok (.getfield 25, 3) := by decide +kernel
theorem dJx35411_hasNext_aae02_4 : decode cJx35411_hasNext_aae02 4 = .ok (.aload_n 0, 1) := by decide +kernel
theorem dJx35411_hasNext_aae02_5 : decode cJx35411_hasNext_aae02 5 = .ok (.getfield 1, 3) := by decide +kernel
theorem dJx35411_hasNext_aae02_8 : decode cJx35411_hasNext_aae02 8 = .ok (.getfield 28, 3) := by decide +kernel
theorem dJx35411_hasNext_aae02_11 : decode cJx35411_hasNext_aae02 11 = .ok (.if_icmp .eq 7, 3) := by decide +kernel
theorem dJx35411_hasNext_aae02_14 : decode cJx35411_hasNext_aae02 14 = .ok (.iconst 1, 1) := by decide +kernel
theorem dJx35411_hasNext_aae02_15 : decode cJx35411_hasNext_aae02 15 = .ok (.goto 4, 3) := by decide +kernel
theorem dJx35411_hasNext_aae02_18 : decode cJx35411_hasNext_aae02 18 = .ok (.iconst 0, 1) := by decide +kernel
theorem dJx35411_hasNext_aae02_19 : decode cJx35411_hasNext_aae02 19 = .ok (.ireturn, 1) := by decide +kernel
def T_Jx35411_hasNext_aae02 : ab_T := [(0, some (s_aload 0 1)), (1, some (s_getI 0 0 4)), (4, some (s_aload 0 5)), (5, some (s_getR 0 3 8)), (8, some (s_getI 1 2 11)), (11, some (s_cmpeq 18 14)), (14, some (s_const (vI 1) 15)), (15, some (s_goto 19)), (18, some (s_const (vI 0) 19)), (19, some (s_ret 1))]
set_option maxRecDepth 20000 in
theorem mt_Jx35411_hasNext_aae02 : MonoT (T_Jx35411_hasNext_aae02) := MA_mem (And.intro mono_aload (And.intro mono_getI (And.intro mono_aload (And.intro mono_getR (And.intro mono_getI (And.intro mono_cmpeq (And.intro mono_const (And.intro mono_goto (And.intro mono_const (And.intro mono_ret trivial))))))))))
set_option maxRecDepth 20000 in
set_option maxHeartbeats 4000000 in
theorem snd_Jx35411_hasNext_aae02 {l : Launch} {D : va_G} {cA : Nat → ClassId} {d : Nat} : Sound l D cA d 1 yJx35411_hasNext_aae02 cJx35411_hasNext_aae02 (some .boolean) [] (T_Jx35411_hasNext_aae02) := by
  intro p e R s m args below meth c loc0 m0 r Q E hQ h0 hrt hnm htab
  exact SA_mem (And.intro (fun ls st mm h => so_aload_n E rfl dJx35411_hasNext_aae02_0 h) (And.intro (fun ls st mm h => so_getI E (C := RJx35411) (T := TJx35411) (N := 4) (ck := 0) rfl rfl (by decide) tu_Jx35411 (k := 0) (ref := "java/util/ArrayList$Itr") (by decide) (by decide) tw_t5_229 (fun _ h => h) dJx35411_hasNext_aae02_1 h) (And.intro (fun ls st mm h => so_aload_n E rfl dJx35411_hasNext_aae02_4 h) (And.intro (fun ls st mm h => so_getR E (C := RJx35411) (T := TJx35411) (N := 4) (ck := 0) rfl rfl (by decide) tu_Jx35411 (k := 3) (ref := "java/util/ArrayList$Itr") (by decide) (by decide) tw_t5_232 (fun _ h => h) dJx35411_hasNext_aae02_5 h) (And.intro (fun ls st mm h => so_getIN E (C := RJx4a65c) (T := TJx4a65c) (N := 3) (ck := 1) rfl rfl (by decide) tu_Jx4a65c (k := 2) (ref := "java/util/ArrayList") (by decide) (by decide) (fun s hF => hF.2.2.2.2.2.2.2.2.2.1) (fun _ h => h) dJx35411_hasNext_aae02_8 h) (And.intro (fun ls st mm h => so_icmpeq E (tgt := 18) (by decide) dJx35411_hasNext_aae02_11 h) (And.intro (fun ls st mm h => so_iconst E (by decide) dJx35411_hasNext_aae02_14 h) (And.intro (fun ls st mm h => so_goto E (tgt := 19) (by decide) dJx35411_hasNext_aae02_15 h) (And.intro (fun ls st mm h => so_iconst E (by decide) dJx35411_hasNext_aae02_18 h) (And.intro (fun ls st mm h => so_ireturn E hQ rfl (fun _ h => h) h0 (ty := .boolean) hrt (Or.inr ⟨rfl, rfl⟩) dJx35411_hasNext_aae02_19 h) (trivial)))))))))))
theorem dJx35411_next_0502b_0 : decode cJx35411_next_0502b 0 = .ok (.aload_n 0, 1) := by decide +kernel
theorem dJx35411_next_0502b_1 : decode cJx35411_next_0502b 1 = .ok (.invokevirtual 31, 3) := by decide +kernel
theorem dJx35411_next_0502b_4 : decode cJx35411_next_0502b 4 = .ok (.aload_n 0, 1) := by decide +kernel
theorem dJx35411_next_0502b_5 : decode cJx35411_next_0502b 5 = .ok (.getfield 25, 3) := by decide +kernel
theorem dJx35411_next_0502b_8 : decode cJx35411_next_0502b 8 = .ok (.istore_n 1, 1) := by decide +kernel
theorem dJx35411_next_0502b_9 : decode cJx35411_next_0502b 9 = .ok (.iload_n 1, 1) := by decide +kernel
theorem dJx35411_next_0502b_10 : decode cJx35411_next_0502b 10 = .ok (.aload_n 0, 1) := by decide +kernel
theorem dJx35411_next_0502b_11 : decode cJx35411_next_0502b 11 = .ok (.getfield 1, 3) := by decide +kernel
theorem dJx35411_next_0502b_14 : decode cJx35411_next_0502b 14 = .ok (.getfield 28, 3) := by decide +kernel
theorem dJx35411_next_0502b_17 : decode cJx35411_next_0502b 17 = .ok (.if_icmp .lt 11, 3) := by decide +kernel
theorem dJx35411_next_0502b_20 : decode cJx35411_next_0502b 20 = .ok (.new 34, 3) := by decide +kernel
theorem dJx35411_next_0502b_23 : decode cJx35411_next_0502b 23 = .ok (.dup, 1) := by decide +kernel
theorem dJx35411_next_0502b_24 : decode cJx35411_next_0502b 24 = .ok (.invokespecial 36, 3) := by decide +kernel
theorem dJx35411_next_0502b_27 : decode cJx35411_next_0502b 27 = .ok (.athrow, 1) := by decide +kernel
theorem dJx35411_next_0502b_28 : decode cJx35411_next_0502b 28 = .ok (.aload_n 0, 1) := by decide +kernel
theorem dJx35411_next_0502b_29 : decode cJx35411_next_0502b 29 = .ok (.getfield 1, 3) := by decide +kernel
theorem dJx35411_next_0502b_32 : decode cJx35411_next_0502b 32 = .ok (.getfield 37, 3) := by decide +kernel
theorem dJx35411_next_0502b_35 : decode cJx35411_next_0502b 35 = .ok (.astore_n 2, 1) := by decide +kernel
theorem dJx35411_next_0502b_36 : decode cJx35411_next_0502b 36 = .ok (.iload_n 1, 1) := by decide +kernel
theorem dJx35411_next_0502b_37 : decode cJx35411_next_0502b 37 = .ok (.aload_n 2, 1) := by decide +kernel
theorem dJx35411_next_0502b_38 : decode cJx35411_next_0502b 38 = .ok (.arraylength, 1) := by decide +kernel
theorem dJx35411_next_0502b_39 : decode cJx35411_next_0502b 39 = .ok (.if_icmp .lt 11, 3) := by decide +kernel
theorem dJx35411_next_0502b_42 : decode cJx35411_next_0502b 42 = .ok (.new 41, 3) := by decide +kernel
theorem dJx35411_next_0502b_45 : decode cJx35411_next_0502b 45 = .ok (.dup, 1) := by decide +kernel
theorem dJx35411_next_0502b_46 : decode cJx35411_next_0502b 46 = .ok (.invokespecial 43, 3) := by decide +kernel
theorem dJx35411_next_0502b_49 : decode cJx35411_next_0502b 49 = .ok (.athrow, 1) := by decide +kernel
theorem dJx35411_next_0502b_50 : decode cJx35411_next_0502b 50 = .ok (.aload_n 0, 1) := by decide +kernel
theorem dJx35411_next_0502b_51 : decode cJx35411_next_0502b 51 = .ok (.iload_n 1, 1) := by decide +kernel
theorem dJx35411_next_0502b_52 : decode cJx35411_next_0502b 52 = .ok (.iconst 1, 1) := by decide +kernel
theorem dJx35411_next_0502b_53 : decode cJx35411_next_0502b 53 = .ok (.iadd, 1) := by decide +kernel
theorem dJx35411_next_0502b_54 : decode cJx35411_next_0502b 54 = .ok (.putfield 25, 3) := by decide +kernel
theorem dJx35411_next_0502b_57 : decode cJx35411_next_0502b 57 = .ok (.aload_n 2, 1) := by decide +kernel
theorem dJx35411_next_0502b_58 : decode cJx35411_next_0502b 58 = .ok (.aload_n 0, 1) := by decide +kernel
theorem dJx35411_next_0502b_59 : decode cJx35411_next_0502b 59 = .ok (.iload_n 1, 1) := by decide +kernel
theorem dJx35411_next_0502b_60 : decode cJx35411_next_0502b 60 = .ok (.dup_x1, 1) := by decide +kernel
theorem dJx35411_next_0502b_61 : decode cJx35411_next_0502b 61 = .ok (.putfield 13, 3) := by decide +kernel
theorem dJx35411_next_0502b_64 : decode cJx35411_next_0502b 64 = .ok (.aaload, 1) := by decide +kernel
theorem dJx35411_next_0502b_65 : decode cJx35411_next_0502b 65 = .ok (.areturn, 1) := by decide +kernel
def T_Jx35411_next_0502b (sp_Jx35411_checkForComodification_da8c8 : List ab_V → ab_M → ab_O) : ab_T := [(0, some (s_aload 0 1)), (1, some (s_call 0 sp_Jx35411_checkForComodification_da8c8 1 [] 4)), (4, some (s_aload 0 5)), (5, some (s_getI 0 0 8)), (8, some (s_istore 1 9)), (9, some (s_iload 1 10)), (10, some (s_aload 0 11)), (11, some (s_getR 0 3 14)), (14, some (s_getI 1 2 17)), (17, some (s_cmplt 28 20)), (23, some (s_dup 24)), (28, some (s_aload 0 29)), (29, some (s_getR 0 3 32)), (32, some (s_getR 1 1 35)), (35, some (s_astore 2 36)), (36, some (s_iload 1 37)), (37, some (s_aload 2 38)), (38, some (s_alen 39)), (39, some (s_cmplt 50 42)), (45, some (s_dup 46)), (50, some (s_aload 0 51)), (51, some (s_iload 1 52)), (52, some (s_const (vI 1) 53)), (53, some (s_bin (· + ·) 54)), (54, some (s_putI 0 0 57)), (57, some (s_aload 2 58)), (58, some (s_aload 0 59)), (59, some (s_iload 1 60)), (60, some (s_dupx1 61)), (61, some (s_putI 0 1 64)), (64, some (s_aald 104 65)), (65, some (s_retA))]
set_option maxRecDepth 20000 in
theorem mt_Jx35411_next_0502b {sp_Jx35411_checkForComodification_da8c8 : List ab_V → ab_M → ab_O} : MonoT (T_Jx35411_next_0502b sp_Jx35411_checkForComodification_da8c8) := MA_mem (And.intro mono_aload (And.intro mono_call (And.intro mono_aload (And.intro mono_getI (And.intro mono_istore (And.intro mono_iload (And.intro mono_aload (And.intro mono_getR (And.intro mono_getI (And.intro mono_cmplt (And.intro mono_dup (And.intro mono_aload (And.intro mono_getR (And.intro mono_getR (And.intro mono_astore (And.intro mono_iload (And.intro mono_aload (And.intro mono_alen (And.intro mono_cmplt (And.intro mono_dup (And.intro mono_aload (And.intro mono_iload (And.intro mono_const (And.intro mono_bin (And.intro mono_putI (And.intro mono_aload (And.intro mono_aload (And.intro mono_iload (And.intro mono_dupx1 (And.intro mono_putI (And.intro mono_aald (And.intro mono_retA trivial))))))))))))))))))))))))))))))))
set_option maxRecDepth 20000 in
set_option maxHeartbeats 4000000 in
theorem snd_Jx35411_next_0502b {l : Launch} {D : va_G} {cA : Nat → ClassId} {d : Nat} {sp_Jx35411_checkForComodification_da8c8 : List ab_V → ab_M → ab_O} {d' : Nat} (hd9 : d' + 1 ≤ d) (hC_Jx35411_checkForComodification_da8c8 : ∀ as m, Ctr l D cA d' yJx35411_checkForComodification_da8c8 (Cond.code yJx35411_checkForComodification_da8c8 cJx35411_checkForComodification_da8c8 1 none :: TB) as m (sp_Jx35411_checkForComodification_da8c8 as m)) : Sound l D cA d 3 yJx35411_next_0502b cJx35411_next_0502b (some (.object "java/lang/Object")) [] (T_Jx35411_next_0502b sp_Jx35411_checkForComodification_da8c8) := by
  intro p e R s m args below meth c loc0 m0 r Q E hQ h0 hrt hnm htab
  exact SA_mem (And.intro (fun ls st mm h => so_aload_n E rfl dJx35411_next_0502b_0 h) (And.intro (fun ls st mm h => so_callV E hQ rfl (fun _ h => h) h0 (idx := 31) (C := RJx35411) (T := TJx35411) (N := 4) rfl (by decide) (by decide) rfl hd9 (by decide) hC_Jx35411_checkForComodification_da8c8 (hd_nil htab) tw_t6_21 tw_t6_22 tw_t6_23 tw_t1_25 tw_t6_24 (by decide +kernel) dJx35411_next_0502b_1 h) (And.intro (fun ls st mm h => so_aload_n E rfl dJx35411_next_0502b_4 h) (And.intro (fun ls st mm h => so_getI E (C := RJx35411) (T := TJx35411) (N := 4) (ck := 0) rfl rfl (by decide) tu_Jx35411 (k := 0) (ref := "java/util/ArrayList$Itr") (by decide) (by decide) tw_t5_229 (fun _ h => h) dJx35411_next_0502b_5 h) (And.intro (fun ls st mm h => so_istore_n E rfl dJx35411_next_0502b_8 h) (And.intro (fun ls st mm h => so_iload_n E rfl dJx35411_next_0502b_9 h) (And.intro (fun ls st mm h => so_aload_n E rfl dJx35411_next_0502b_10 h) (And.intro (fun ls st mm h => so_getR E (C := RJx35411) (T := TJx35411) (N := 4) (ck := 0) rfl rfl (by decide) tu_Jx35411 (k := 3) (ref := "java/util/ArrayList$Itr") (by decide) (by decide) tw_t5_232 (fun _ h => h) dJx35411_next_0502b_11 h) (And.intro (fun ls st mm h => so_getIN E (C := RJx4a65c) (T := TJx4a65c) (N := 3) (ck := 1) rfl rfl (by decide) tu_Jx4a65c (k := 2) (ref := "java/util/ArrayList") (by decide) (by decide) (fun s hF => hF.2.2.2.2.2.2.2.2.2.1) (fun _ h => h) dJx35411_next_0502b_14 h) (And.intro (fun ls st mm h => so_icmplt E (tgt := 28) (by decide) dJx35411_next_0502b_17 h) (And.intro (fun ls st mm h => so_dup E dJx35411_next_0502b_23 h) (And.intro (fun ls st mm h => so_aload_n E rfl dJx35411_next_0502b_28 h) (And.intro (fun ls st mm h => so_getR E (C := RJx35411) (T := TJx35411) (N := 4) (ck := 0) rfl rfl (by decide) tu_Jx35411 (k := 3) (ref := "java/util/ArrayList$Itr") (by decide) (by decide) tw_t5_232 (fun _ h => h) dJx35411_next_0502b_29 h) (And.intro (fun ls st mm h => so_getR E (C := RJx4a65c) (T := TJx4a65c) (N := 3) (ck := 1) rfl rfl (by decide) tu_Jx4a65c (k := 1) (ref := "java/util/ArrayList") (by decide) (by decide) tw_t4_177 (fun _ h => h) dJx35411_next_0502b_32 h) (And.intro (fun ls st mm h => so_astore_n E rfl dJx35411_next_0502b_35 h) (And.intro (fun ls st mm h => so_iload_n E rfl dJx35411_next_0502b_36 h) (And.intro (fun ls st mm h => so_aload_n E rfl dJx35411_next_0502b_37 h) (And.intro (fun ls st mm h => so_alen E dJx35411_next_0502b_38 sk6 h) (And.intro (fun ls st mm h => so_icmplt E (tgt := 50) (by decide) dJx35411_next_0502b_39 h) (And.intro (fun ls st mm h => so_dup E dJx35411_next_0502b_45 h) (And.intro (fun ls st mm h => so_aload_n E rfl dJx35411_next_0502b_50 h) (And.intro (fun ls st mm h => so_iload_n E rfl dJx35411_next_0502b_51 h) (And.intro (fun ls st mm h => so_iconst E (by decide) dJx35411_next_0502b_52 h) (And.intro (fun ls st mm h => so_iadd E dJx35411_next_0502b_53 h) (And.intro (fun ls st mm h => so_putI E (C := RJx35411) (T := TJx35411) (N := 4) (ck := 0) rfl rfl (by decide) tu_Jx35411 (k := 0) (ref := "java/util/ArrayList$Itr") (by decide) (by decide) tyJx35411 tyJx35411_ok nmJx35411 tw_t5_229 (fun _ h => h) rfl (tyJx35411_ok 0 (by decide)) dJx35411_next_0502b_54 sk2_0 h) (And.intro (fun ls st mm h => so_aload_n E rfl dJx35411_next_0502b_57 h) (And.intro (fun ls st mm h => so_aload_n E rfl dJx35411_next_0502b_58 h) (And.intro (fun ls st mm h => so_iload_n E rfl dJx35411_next_0502b_59 h) (And.intro (fun ls st mm h => so_dupx1 E dJx35411_next_0502b_60 h) (And.intro (fun ls st mm h => so_putI E (C := RJx35411) (T := TJx35411) (N := 4) (ck := 0) rfl rfl (by decide) tu_Jx35411 (k := 1) (ref := "java/util/ArrayList$Itr") (by decide) (by decide) tyJx35411 tyJx35411_ok nmJx35411 tw_t5_230 (fun _ h => h) rfl (tyJx35411_ok 1 (by decide)) dJx35411_next_0502b_61 sk2_0 h) (And.intro (fun ls st mm h => so_aald E dJx35411_next_0502b_64 h) (And.intro (fun ls st mm h => so_areturn E hQ rfl (fun _ h => h) h0 (ty := (.object "java/lang/Object")) hrt (Or.inl ⟨_, rfl⟩) dJx35411_next_0502b_65 h) (trivial)))))))))))))))))))))))))))))))))
theorem dJx35411_checkForComodification_da8c8_0 : decode cJx35411_checkForComodification_da8c8 0 = .ok (.aload_n 0, 1) := by decide +kernel
theorem dJx35411_checkForComodification_da8c8_1 : decode cJx35411_checkForComodification_da8c8 1 = .ok (.getfield 1, 3) := by decide +kernel
theorem dJx35411_checkForComodification_da8c8_4 : decode cJx35411_checkForComodification_da8c8 4 = .ok (.getfield 17, 3) := by decide +kernel
theorem dJx35411_checkForComodification_da8c8_7 : decode cJx35411_checkForComodification_da8c8 7 = .ok (.aload_n 0, 1) := by decide +kernel
theorem dJx35411_checkForComodification_da8c8_8 : decode cJx35411_checkForComodification_da8c8 8 = .ok (.getfield 22, 3) := by decide +kernel
theorem dJx35411_checkForComodification_da8c8_11 : decode cJx35411_checkForComodification_da8c8 11 = .ok (.if_icmp .eq 11, 3) := by decide +kernel
theorem dJx35411_checkForComodification_da8c8_14 : decode cJx35411_checkForComodification_da8c8 14 = .ok (.new 41, 3) := by decide +kernel
theorem dJx35411_checkForComodification_da8c8_17 : decode cJx35411_checkForComodification_da8c8 17 = .ok (.dup, 1) := by decide +kernel
theorem dJx35411_checkForComodification_da8c8_18 : decode cJx35411_checkForComodification_da8c8 18 = .ok (.invokespecial 43, 3) := by decide +kernel
theorem dJx35411_checkForComodification_da8c8_21 : decode cJx35411_checkForComodification_da8c8 21 = .ok (.athrow, 1) := by decide +kernel
theorem dJx35411_checkForComodification_da8c8_22 : decode cJx35411_checkForComodification_da8c8 22 = .ok (.return_, 1) := by decide +kernel
def T_Jx35411_checkForComodification_da8c8 : ab_T := [(0, some (s_aload 0 1)), (1, some (s_getR 0 3 4)), (4, some (s_getI 1 0 7)), (7, some (s_aload 0 8)), (8, some (s_getI 0 2 11)), (11, some (s_cmpeq 22 14)), (17, some (s_dup 18)), (22, some (s_retV))]
set_option maxRecDepth 20000 in
theorem mt_Jx35411_checkForComodification_da8c8 : MonoT (T_Jx35411_checkForComodification_da8c8) := MA_mem (And.intro mono_aload (And.intro mono_getR (And.intro mono_getI (And.intro mono_aload (And.intro mono_getI (And.intro mono_cmpeq (And.intro mono_dup (And.intro mono_retV trivial))))))))
set_option maxRecDepth 20000 in
set_option maxHeartbeats 4000000 in
theorem snd_Jx35411_checkForComodification_da8c8 {l : Launch} {D : va_G} {cA : Nat → ClassId} {d : Nat} : Sound l D cA d 1 yJx35411_checkForComodification_da8c8 cJx35411_checkForComodification_da8c8 none [] (T_Jx35411_checkForComodification_da8c8) := by
  intro p e R s m args below meth c loc0 m0 r Q E hQ h0 hrt hnm htab
  exact SA_mem (And.intro (fun ls st mm h => so_aload_n E rfl dJx35411_checkForComodification_da8c8_0 h) (And.intro (fun ls st mm h => so_getR E (C := RJx35411) (T := TJx35411) (N := 4) (ck := 0) rfl rfl (by decide) tu_Jx35411 (k := 3) (ref := "java/util/ArrayList$Itr") (by decide) (by decide) tw_t5_232 (fun _ h => h) dJx35411_checkForComodification_da8c8_1 h) (And.intro (fun ls st mm h => so_getI E (C := RJx4a65c) (T := TJx4a65c) (N := 3) (ck := 1) rfl rfl (by decide) tu_Jx4a65c (k := 0) (ref := "java/util/ArrayList") (by decide) (by decide) tw_t4_181 (fun x hx => u_same (E.2.2.2.2.1 _ tw_t4_182) x hx) dJx35411_checkForComodification_da8c8_4 h) (And.intro (fun ls st mm h => so_aload_n E rfl dJx35411_checkForComodification_da8c8_7 h) (And.intro (fun ls st mm h => so_getI E (C := RJx35411) (T := TJx35411) (N := 4) (ck := 0) rfl rfl (by decide) tu_Jx35411 (k := 2) (ref := "java/util/ArrayList$Itr") (by decide) (by decide) tw_t5_231 (fun _ h => h) dJx35411_checkForComodification_da8c8_8 h) (And.intro (fun ls st mm h => so_icmpeq E (tgt := 22) (by decide) dJx35411_checkForComodification_da8c8_11 h) (And.intro (fun ls st mm h => so_dup E dJx35411_checkForComodification_da8c8_17 h) (And.intro (fun ls st mm h => so_vreturn E hQ rfl (fun _ h => h) h0 hrt dJx35411_checkForComodification_da8c8_22 h) (trivial)))))))))
theorem dJx4a65c_init_da8c8_0 : decode cJx4a65c_init_da8c8 0 = .ok (.aload_n 0, 1) := by decide +kernel
theorem dJx4a65c_init_da8c8_1 : decode cJx4a65c_init_da8c8 1 = .ok (.invokespecial 1, 3) := by decide +kernel
theorem dJx4a65c_init_da8c8_4 : decode cJx4a65c_init_da8c8 4 = .ok (.aload_n 0, 1) := by decide +kernel
theorem dJx4a65c_init_da8c8_5 : decode cJx4a65c_init_da8c8 5 = .ok (.getstatic 39, 3) := by decide +kernel
theorem dJx4a65c_init_da8c8_8 : decode cJx4a65c_init_da8c8 8 = .ok (.putfield 9, 3) := by decide +kernel
theorem dJx4a65c_init_da8c8_11 : decode cJx4a65c_init_da8c8 11 = .ok (.return_, 1) := by decide +kernel
def T_Jx4a65c_init_da8c8 (sp_Jxc12de_init_da8c8 : List ab_V → ab_M → ab_O) : ab_T := [(0, some (s_aload 0 1)), (1, some (s_call 1 sp_Jxc12de_init_da8c8 1 [] 4)), (4, some (s_aload 0 5)), (5, some (s_getE 8)), (8, some (s_putR 1 1 11)), (11, some (s_retV))]
set_option maxRecDepth 20000 in
theorem mt_Jx4a65c_init_da8c8 {sp_Jxc12de_init_da8c8 : List ab_V → ab_M → ab_O} : MonoT (T_Jx4a65c_init_da8c8 sp_Jxc12de_init_da8c8) := MA_mem (And.intro mono_aload (And.intro mono_call (And.intro mono_aload (And.intro mono_getE (And.intro mono_putR (And.intro mono_retV trivial))))))
set_option maxRecDepth 20000 in
set_option maxHeartbeats 4000000 in
theorem snd_Jx4a65c_init_da8c8 {l : Launch} {D : va_G} {cA : Nat → ClassId} {d : Nat} {sp_Jxc12de_init_da8c8 : List ab_V → ab_M → ab_O} {d' : Nat} (hd9 : d' + 1 ≤ d) (hC_Jxc12de_init_da8c8 : ∀ as m, Ctr l D cA d' yJxc12de_init_da8c8 (Cond.code yJxc12de_init_da8c8 cJxc12de_init_da8c8 1 none :: TB) as m (sp_Jxc12de_init_da8c8 as m)) : Sound l D cA d 1 yJx4a65c_init_da8c8 cJx4a65c_init_da8c8 none [] (T_Jx4a65c_init_da8c8 sp_Jxc12de_init_da8c8) := by
  intro p e R s m args below meth c loc0 m0 r Q E hQ h0 hrt hnm htab
  exact SA_mem (And.intro (fun ls st mm h => so_aload_n E rfl dJx4a65c_init_da8c8_0 h) (And.intro (fun ls st mm h => so_callI E hQ rfl (fun _ h => h) h0 (idx := 1) (by decide) (by decide) rfl rfl hd9 (by decide) hC_Jxc12de_init_da8c8 (hd_nil htab) tw_t4_167 tw_t4_168 tw_t1_10 tw_t4_169 (by decide +kernel) dJx4a65c_init_da8c8_1 h) (And.intro (fun ls st mm h => so_aload_n E rfl dJx4a65c_init_da8c8_4 h) (And.intro (fun ls st mm h => so_getE E tw_t4_174 h0 dJx4a65c_init_da8c8_5 h) (And.intro (fun ls st mm h => so_putR E (C := RJx4a65c) (T := TJx4a65c) (N := 3) (ck := 1) rfl rfl (by decide) tu_Jx4a65c (k := 1) (ref := "java/util/ArrayList") (by decide) (by decide) tyJx4a65c tyJx4a65c_ok nmJx4a65c tw_t4_176 (fun _ h => h) rfl (Or.inr ⟨_, rfl⟩) (tyJx4a65c_ok 1 (by decide)) dJx4a65c_init_da8c8_8 sk2_1 h) (And.intro (fun ls st mm h => so_vreturn E hQ rfl (fun _ h => h) h0 hrt dJx4a65c_init_da8c8_11 h) (trivial)))))))
theorem dJx4a65c_grow_92f84_0 : decode cJx4a65c_grow_92f84 0 = .ok (.aload_n 0, 1) := by decide +kernel
theorem dJx4a65c_grow_92f84_1 : decode cJx4a65c_grow_92f84 1 = .ok (.getfield 9, 3) := by decide +kernel
theorem dJx4a65c_grow_92f84_4 : decode cJx4a65c_grow_92f84 4 = .ok (.arraylength, 1) := by decide +kernel
theorem dJx4a65c_grow_92f84_5 : decode cJx4a65c_grow_92f84 5 = .ok (.istore_n 2, 1) := by decide +kernel
theorem dJx4a65c_grow_92f84_6 : decode cJx4a65c_grow_92f84 6 = .ok (.iload_n 2, 1) := by decide +kernel
theorem dJx4a65c_grow_92f84_7 : decode cJx4a65c_grow_92f84 7 = .ok (.ifCond .gt 13, 3) := by decide +kernel
theorem dJx4a65c_grow_92f84_10 : decode cJx4a65c_grow_92f84 10 = .ok (.aload_n 0, 1) := by decide +kernel
theorem dJx4a65c_grow_92f84_11 : decode cJx4a65c_grow_92f84 11 = .ok (.getfield 9, 3) := by decide +kernel
theorem dJx4a65c_grow_92f84_14 : decode cJx4a65c_grow_92f84 14 = .ok (.getstatic 39, 3) := by decide +kernel
theorem dJx4a65c_grow_92f84_17 : decode cJx4a65c_grow_92f84 17 = .ok (.if_acmp .eq 28, 3) := by decide +kernel
theorem dJx4a65c_grow_92f84_20 : decode cJx4a65c_grow_92f84 20 = .ok (.iload_n 2, 1) := by decide +kernel
theorem dJx4a65c_grow_92f84_21 : decode cJx4a65c_grow_92f84 21 = .ok (.iload_n 1, 1) := by decide +kernel
theorem dJx4a65c_grow_92f84_22 : decode cJx4a65c_grow_92f84 22 = .ok (.iload_n 2, 1) := by decide +kernel
theorem dJx4a65c_grow_92f84_23 : decode cJx4a65c_grow_92f84 23 = .ok (.isub, 1) := by decide +kernel
theorem dJx4a65c_grow_92f84_24 : decode cJx4a65c_grow_92f84 24 = .ok (.iload_n 2, 1) := by decide +kernel
theorem dJx4a65c_grow_92f84_25 : decode cJx4a65c_grow_92f84 25 = .ok (.iconst 1, 1) := by decide +kernel
theorem dJx4a65c_grow_92f84_26 : decode cJx4a65c_grow_92f84 26 = .ok (.ishr, 1) := by decide +kernel
theorem dJx4a65c_grow_92f84_27 : decode cJx4a65c_grow_92f84 27 = .ok (.invokestatic 73, 3) := by decide +kernel
theorem dJx4a65c_grow_92f84_30 : decode cJx4a65c_grow_92f84 30 = .ok (.istore_n 3, 1) := by decide +kernel
theorem dJx4a65c_grow_92f84_31 : decode cJx4a65c_grow_92f84 31 = .ok (.aload_n 0, 1) := by decide +kernel
theorem dJx4a65c_grow_92f84_32 : decode cJx4a65c_grow_92f84 32 = .ok (.aload_n 0, 1) := by decide +kernel
theorem dJx4a65c_grow_92f84_33 : decode cJx4a65c_grow_92f84 33 = .ok (.getfield 9, 3) := by decide +kernel
theorem dJx4a65c_grow_92f84_36 : decode cJx4a65c_grow_92f84 36 = .ok (.iload_n 3, 1) := by decide +kernel
theorem dJx4a65c_grow_92f84_37 : decode cJx4a65c_grow_92f84 37 = .ok (.invokestatic 66, 3) := by decide +kernel
theorem dJx4a65c_grow_92f84_40 : decode cJx4a65c_grow_92f84 40 = .ok (.dup_x1, 1) := by decide +kernel
theorem dJx4a65c_grow_92f84_41 : decode cJx4a65c_grow_92f84 41 = .ok (.putfield 9, 3) := by decide +kernel
theorem dJx4a65c_grow_92f84_44 : decode cJx4a65c_grow_92f84 44 = .ok (.areturn, 1) := by decide +kernel
theorem dJx4a65c_grow_92f84_45 : decode cJx4a65c_grow_92f84 45 = .ok (.aload_n 0, 1) := by decide +kernel
theorem dJx4a65c_grow_92f84_46 : decode cJx4a65c_grow_92f84 46 = .ok (.bipush 10, 2) := by decide +kernel
theorem dJx4a65c_grow_92f84_48 : decode cJx4a65c_grow_92f84 48 = .ok (.iload_n 1, 1) := by decide +kernel
theorem dJx4a65c_grow_92f84_49 : decode cJx4a65c_grow_92f84 49 = .ok (.invokestatic 79, 3) := by decide +kernel
theorem dJx4a65c_grow_92f84_52 : decode cJx4a65c_grow_92f84 52 = .ok (.anewarray 7, 3) := by decide +kernel
theorem dJx4a65c_grow_92f84_55 : decode cJx4a65c_grow_92f84 55 = .ok (.dup_x1, 1) := by decide +kernel
theorem dJx4a65c_grow_92f84_56 : decode cJx4a65c_grow_92f84 56 = .ok (.putfield 9, 3) := by decide +kernel
theorem dJx4a65c_grow_92f84_59 : decode cJx4a65c_grow_92f84 59 = .ok (.areturn, 1) := by decide +kernel
def T_Jx4a65c_grow_92f84 (sp_J8_newLength_cabcc sp_J7_copyOf_1904c : List ab_V → ab_M → ab_O) : ab_T := [(0, some (s_aload 0 1)), (1, some (s_getR 1 1 4)), (4, some (s_alen 5)), (5, some (s_istore 2 6)), (6, some (s_iload 2 7)), (7, some (s_ifgt 20 10)), (10, some (s_aload 0 11)), (11, some (s_getR 1 1 14)), (14, some (s_getE 17)), (17, some (s_aeq 45 20)), (20, some (s_iload 2 21)), (21, some (s_iload 1 22)), (22, some (s_iload 2 23)), (23, some (s_bin (· - ·) 24)), (24, some (s_iload 2 25)), (25, some (s_const (vI 1) 26)), (26, some (s_bin (fun x y => x >>> (y &&& 31)) 27)), (27, some (s_call 999 sp_J8_newLength_cabcc 3 [] 30)), (30, some (s_istore 3 31)), (31, some (s_aload 0 32)), (32, some (s_aload 0 33)), (33, some (s_getR 1 1 36)), (36, some (s_iload 3 37)), (37, some (s_call 999 sp_J7_copyOf_1904c 2 [] 40)), (40, some (s_dupx1 41)), (41, some (s_putR 1 1 44)), (44, some (s_retA)), (45, some (s_aload 0 46)), (46, some (s_const (vI 10) 48)), (48, some (s_iload 1 49)), (49, some (s_mmax 52)), (52, some (s_newa 59 55)), (55, some (s_dupx1 56)), (56, some (s_putR 1 1 59)), (59, some (s_retA))]
set_option maxRecDepth 20000 in
theorem mt_Jx4a65c_grow_92f84 {sp_J8_newLength_cabcc sp_J7_copyOf_1904c : List ab_V → ab_M → ab_O} : MonoT (T_Jx4a65c_grow_92f84 sp_J8_newLength_cabcc sp_J7_copyOf_1904c) := MA_mem (And.intro mono_aload (And.intro mono_getR (And.intro mono_alen (And.intro mono_istore (And.intro mono_iload (And.intro mono_ifgt (And.intro mono_aload (And.intro mono_getR (And.intro mono_getE (And.intro mono_aeq (And.intro mono_iload (And.intro mono_iload (And.intro mono_iload (And.intro mono_bin (And.intro mono_iload (And.intro mono_const (And.intro mono_bin (And.intro mono_call (And.intro mono_istore (And.intro mono_aload (And.intro mono_aload (And.intro mono_getR (And.intro mono_iload (And.intro mono_call (And.intro mono_dupx1 (And.intro mono_putR (And.intro mono_retA (And.intro mono_aload (And.intro mono_const (And.intro mono_iload (And.intro mono_mmax (And.intro mono_newa (And.intro mono_dupx1 (And.intro mono_putR (And.intro mono_retA trivial)))))))))))))))))))))))))))))))))))
set_option maxRecDepth 20000 in
set_option maxHeartbeats 4000000 in
theorem snd_Jx4a65c_grow_92f84 {l : Launch} {D : va_G} {cA : Nat → ClassId} {d : Nat} {sp_J8_newLength_cabcc sp_J7_copyOf_1904c : List ab_V → ab_M → ab_O} {d' : Nat} (hd9 : d' + 1 ≤ d) (hC_J8_newLength_cabcc : ∀ as m, Ctr l D cA d' yJ8_newLength_cabcc (Cond.code yJ8_newLength_cabcc cJ8_newLength_cabcc 4 (some .int) :: TB) as m (sp_J8_newLength_cabcc as m)) (hC_J7_copyOf_1904c : ∀ as m, Ctr l D cA d' yJ7_copyOf_1904c (Cond.code yJ7_copyOf_1904c cJ7_copyOf_1904c 2 (some (.array (.object "java/lang/Object"))) :: TB) as m (sp_J7_copyOf_1904c as m)) : Sound l D cA d 4 yJx4a65c_grow_92f84 cJx4a65c_grow_92f84 (some (.array (.object "java/lang/Object"))) [] (T_Jx4a65c_grow_92f84 sp_J8_newLength_cabcc sp_J7_copyOf_1904c) := by
  intro p e R s m args below meth c loc0 m0 r Q E hQ h0 hrt hnm htab
  exact SA_mem (And.intro (fun ls st mm h => so_aload_n E rfl dJx4a65c_grow_92f84_0 h) (And.intro (fun ls st mm h => so_getR E (C := RJx4a65c) (T := TJx4a65c) (N := 3) (ck := 1) rfl rfl (by decide) tu_Jx4a65c (k := 1) (ref := "java/util/ArrayList") (by decide) (by decide) tw_t4_176 (fun _ h => h) dJx4a65c_grow_92f84_1 h) (And.intro (fun ls st mm h => so_alen E dJx4a65c_grow_92f84_4 sk6 h) (And.intro (fun ls st mm h => so_istore_n E rfl dJx4a65c_grow_92f84_5 h) (And.intro (fun ls st mm h => so_iload_n E rfl dJx4a65c_grow_92f84_6 h) (And.intro (fun ls st mm h => so_ifgt E (tgt := 20) (by decide) dJx4a65c_grow_92f84_7 h) (And.intro (fun ls st mm h => so_aload_n E rfl dJx4a65c_grow_92f84_10 h) (And.intro (fun ls st mm h => so_getR E (C := RJx4a65c) (T := TJx4a65c) (N := 3) (ck := 1) rfl rfl (by decide) tu_Jx4a65c (k := 1) (ref := "java/util/ArrayList") (by decide) (by decide) tw_t4_176 (fun _ h => h) dJx4a65c_grow_92f84_11 h) (And.intro (fun ls st mm h => so_getE E tw_t4_174 h0 dJx4a65c_grow_92f84_14 h) (And.intro (fun ls st mm h => so_acmpeq E (tgt := 45) (by decide) dJx4a65c_grow_92f84_17 h) (And.intro (fun ls st mm h => so_iload_n E rfl dJx4a65c_grow_92f84_20 h) (And.intro (fun ls st mm h => so_iload_n E rfl dJx4a65c_grow_92f84_21 h) (And.intro (fun ls st mm h => so_iload_n E rfl dJx4a65c_grow_92f84_22 h) (And.intro (fun ls st mm h => so_isub E dJx4a65c_grow_92f84_23 h) (And.intro (fun ls st mm h => so_iload_n E rfl dJx4a65c_grow_92f84_24 h) (And.intro (fun ls st mm h => so_iconst E (by decide) dJx4a65c_grow_92f84_25 h) (And.intro (fun ls st mm h => so_ishr E dJx4a65c_grow_92f84_26 h) (And.intro (fun ls st mm h => so_callS E hQ rfl (fun _ h => h) h0 (idx := 73) hd9 (by decide) hC_J8_newLength_cabcc (hd_nil htab) tw_t5_90 tw_t5_91 tw_t1_20 tw_t5_92 (by decide +kernel) dJx4a65c_grow_92f84_27 h) (And.intro (fun ls st mm h => so_istore_n E rfl dJx4a65c_grow_92f84_30 h) (And.intro (fun ls st mm h => so_aload_n E rfl dJx4a65c_grow_92f84_31 h) (And.intro (fun ls st mm h => so_aload_n E rfl dJx4a65c_grow_92f84_32 h) (And.intro (fun ls st mm h => so_getR E (C := RJx4a65c) (T := TJx4a65c) (N := 3) (ck := 1) rfl rfl (by decide) tu_Jx4a65c (k := 1) (ref := "java/util/ArrayList") (by decide) (by decide) tw_t4_176 (fun _ h => h) dJx4a65c_grow_92f84_33 h) (And.intro (fun ls st mm h => so_iload_n E rfl dJx4a65c_grow_92f84_36 h) (And.intro (fun ls st mm h => so_callS E hQ rfl (fun _ h => h) h0 (idx := 66) hd9 (by decide) hC_J7_copyOf_1904c (hd_nil htab) tw_t5_98 tw_t5_99 tw_t1_22 tw_t5_100 (by decide +kernel) dJx4a65c_grow_92f84_37 h) (And.intro (fun ls st mm h => so_dupx1 E dJx4a65c_grow_92f84_40 h) (And.intro (fun ls st mm h => so_putR E (C := RJx4a65c) (T := TJx4a65c) (N := 3) (ck := 1) rfl rfl (by decide) tu_Jx4a65c (k := 1) (ref := "java/util/ArrayList") (by decide) (by decide) tyJx4a65c tyJx4a65c_ok nmJx4a65c tw_t4_176 (fun _ h => h) rfl (Or.inr ⟨_, rfl⟩) (tyJx4a65c_ok 1 (by decide)) dJx4a65c_grow_92f84_41 sk2_1 h) (And.intro (fun ls st mm h => so_areturn E hQ rfl (fun _ h => h) h0 (ty := (.array (.object "java/lang/Object"))) hrt (Or.inr ⟨_, rfl⟩) dJx4a65c_grow_92f84_44 h) (And.intro (fun ls st mm h => so_aload_n E rfl dJx4a65c_grow_92f84_45 h) (And.intro (fun ls st mm h => so_bipush E (by decide) dJx4a65c_grow_92f84_46 h) (And.intro (fun ls st mm h => so_iload_n E rfl dJx4a65c_grow_92f84_48 h) (And.intro (fun ls st mm h => so_mmax E tw_t5_130 tw_t4_107 tw_t1_21 tw_t4_108 dJx4a65c_grow_92f84_49 h) (And.intro (fun ls st mm h => so_anewa E (t := 59) rfl tw_t5_131 dJx4a65c_grow_92f84_52 h) (And.intro (fun ls st mm h => so_dupx1 E dJx4a65c_grow_92f84_55 h) (And.intro (fun ls st mm h => so_putR E (C := RJx4a65c) (T := TJx4a65c) (N := 3) (ck := 1) rfl rfl (by decide) tu_Jx4a65c (k := 1) (ref := "java/util/ArrayList") (by decide) (by decide) tyJx4a65c tyJx4a65c_ok nmJx4a65c tw_t4_176 (fun _ h => h) rfl (Or.inr ⟨_, rfl⟩) (tyJx4a65c_ok 1 (by decide)) dJx4a65c_grow_92f84_56 sk2_1 h) (And.intro (fun ls st mm h => so_areturn E hQ rfl (fun _ h => h) h0 (ty := (.array (.object "java/lang/Object"))) hrt (Or.inr ⟨_, rfl⟩) dJx4a65c_grow_92f84_59 h) (trivial))))))))))))))))))))))))))))))))))))
theorem dJx4a65c_grow_d5877_0 : decode cJx4a65c_grow_d5877 0 = .ok (.aload_n 0, 1) := by decide +kernel
theorem dJx4a65c_grow_d5877_1 : decode cJx4a65c_grow_d5877 1 = .ok (.aload_n 0, 1) := by decide +kernel
theorem dJx4a65c_grow_d5877_2 : decode cJx4a65c_grow_d5877 2 = .ok (.getfield 48, 3) := by decide +kernel
theorem dJx4a65c_grow_d5877_5 : decode cJx4a65c_grow_d5877 5 = .ok (.iconst 1, 1) := by decide +kernel
theorem dJx4a65c_grow_d5877_6 : decode cJx4a65c_grow_d5877 6 = .ok (.iadd, 1) := by decide +kernel
theorem dJx4a65c_grow_d5877_7 : decode cJx4a65c_grow_d5877 7 = .ok (.invokevirtual 69, 3) := by decide +kernel
theorem dJx4a65c_grow_d5877_10 : decode cJx4a65c_grow_d5877 10 = .ok (.areturn, 1) := by decide +kernel
def T_Jx4a65c_grow_d5877 (sp_Jx4a65c_grow_92f84 : List ab_V → ab_M → ab_O) : ab_T := [(0, some (s_aload 0 1)), (1, some (s_aload 0 2)), (2, some (s_getI 1 2 5)), (5, some (s_const (vI 1) 6)), (6, some (s_bin (· + ·) 7)), (7, some (s_call 1 sp_Jx4a65c_grow_92f84 2 [] 10)), (10, some (s_retA))]
set_option maxRecDepth 20000 in
theorem mt_Jx4a65c_grow_d5877 {sp_Jx4a65c_grow_92f84 : List ab_V → ab_M → ab_O} : MonoT (T_Jx4a65c_grow_d5877 sp_Jx4a65c_grow_92f84) := MA_mem (And.intro mono_aload (And.intro mono_aload (And.intro mono_getI (And.intro mono_const (And.intro mono_bin (And.intro mono_call (And.intro mono_retA trivial)))))))
set_option maxRecDepth 20000 in
set_option maxHeartbeats 4000000 in
theorem snd_Jx4a65c_grow_d5877 {l : Launch} {D : va_G} {cA : Nat → ClassId} {d : Nat} {sp_Jx4a65c_grow_92f84 : List ab_V → ab_M → ab_O} {d' : Nat} (hd9 : d' + 1 ≤ d) (hC_Jx4a65c_grow_92f84 : ∀ as m, Ctr l D cA d' yJx4a65c_grow_92f84 (Cond.code yJx4a65c_grow_92f84 cJx4a65c_grow_92f84 4 (some (.array (.object "java/lang/Object"))) :: TB) as m (sp_Jx4a65c_grow_92f84 as m)) : Sound l D cA d 1 yJx4a65c_grow_d5877 cJx4a65c_grow_d5877 (some (.array (.object "java/lang/Object"))) [] (T_Jx4a65c_grow_d5877 sp_Jx4a65c_grow_92f84) := by
  intro p e R s m args below meth c loc0 m0 r Q E hQ h0 hrt hnm htab
  exact SA_mem (And.intro (fun ls st mm h => so_aload_n E rfl dJx4a65c_grow_d5877_0 h) (And.intro (fun ls st mm h => so_aload_n E rfl dJx4a65c_grow_d5877_1 h) (And.intro (fun ls st mm h => so_getI E (C := RJx4a65c) (T := TJx4a65c) (N := 3) (ck := 1) rfl rfl (by decide) tu_Jx4a65c (k := 2) (ref := "java/util/ArrayList") (by decide) (by decide) tw_t4_179 (fun _ h => h) dJx4a65c_grow_d5877_2 h) (And.intro (fun ls st mm h => so_iconst E (by decide) dJx4a65c_grow_d5877_5 h) (And.intro (fun ls st mm h => so_iadd E dJx4a65c_grow_d5877_6 h) (And.intro (fun ls st mm h => so_callV E hQ rfl (fun _ h => h) h0 (idx := 69) (C := RJx4a65c) (T := TJx4a65c) (N := 3) rfl (by decide) (by decide) rfl hd9 (by decide) hC_Jx4a65c_grow_92f84 (hd_nil htab) tw_t5_86 tw_t5_88 tw_p3_7 tw_t1_11 tw_t5_89 (by decide +kernel) dJx4a65c_grow_d5877_7 h) (And.intro (fun ls st mm h => so_areturn E hQ rfl (fun _ h => h) h0 (ty := (.array (.object "java/lang/Object"))) hrt (Or.inr ⟨_, rfl⟩) dJx4a65c_grow_d5877_10 h) (trivial))))))))
theorem dJx4a65c_size_8abf5_0 : decode cJx4a65c_size_8abf5 0 = .ok (.aload_n 0, 1) := by decide +kernel
theorem dJx4a65c_size_8abf5_1 : decode cJx4a65c_size_8abf5 1 = .ok (.getfield 48, 3) := by decide +kernel
theorem dJx4a65c_size_8abf5_4 : decode cJx4a65c_size_8abf5 4 = .ok (.ireturn, 1) := by decide +kernel
def T_Jx4a65c_size_8abf5 : ab_T := [(0, some (s_aload 0 1)), (1, some (s_getI 1 2 4)), (4, some (s_ret 0))]
set_option maxRecDepth 20000 in
theorem mt_Jx4a65c_size_8abf5 : MonoT (T_Jx4a65c_size_8abf5) := MA_mem (And.intro mono_aload (And.intro mono_getI (And.intro mono_ret trivial)))
set_option maxRecDepth 20000 in
set_option maxHeartbeats 4000000 in
theorem snd_Jx4a65c_size_8abf5 {l : Launch} {D : va_G} {cA : Nat → ClassId} {d : Nat} : Sound l D cA d 1 yJx4a65c_size_8abf5 cJx4a65c_size_8abf5 (some .int) [] (T_Jx4a65c_size_8abf5) := by
  intro p e R s m args below meth c loc0 m0 r Q E hQ h0 hrt hnm htab
  exact SA_mem (And.intro (fun ls st mm h => so_aload_n E rfl dJx4a65c_size_8abf5_0 h) (And.intro (fun ls st mm h => so_getI E (C := RJx4a65c) (T := TJx4a65c) (N := 3) (ck := 1) rfl rfl (by decide) tu_Jx4a65c (k := 2) (ref := "java/util/ArrayList") (by decide) (by decide) tw_t4_179 (fun _ h => h) dJx4a65c_size_8abf5_1 h) (And.intro (fun ls st mm h => so_ireturn E hQ rfl (fun _ h => h) h0 (ty := .int) hrt (Or.inl ⟨rfl, rfl⟩) dJx4a65c_size_8abf5_4 h) (trivial))))
theorem dJx4a65c_isEmpty_aae02_0 : decode cJx4a65c_isEmpty_aae02 0 = .ok (.aload_n 0, 1) := by decide +kernel
theorem dJx4a65c_isEmpty_aae02_1 : decode cJx4a65c_isEmpty_aae02 1 = .ok (.getfield 48, 3) := by decide +kernel
theorem dJx4a65c_isEmpty_aae02_4 : decode cJx4a65c_isEmpty_aae02 4 = .ok (.ifCond .ne 7, 3) := by decide +kernel
theorem dJx4a65c_isEmpty_aae02_7 : decode cJx4a65c_isEmpty_aae02 7 = .ok (.iconst 1, 1) := by decide +kernel
theorem dJx4a65c_isEmpty_aae02_8 : decode cJx4a65c_isEmpty_aae02 8 = .ok (.goto 4, 3) := by decide +kernel
theorem dJx4a65c_isEmpty_aae02_11 : decode cJx4a65c_isEmpty_aae02 11 = .ok (.iconst 0, 1) := by decide +kernel
theorem dJx4a65c_isEmpty_aae02_12 : decode cJx4a65c_isEmpty_aae02 12 = .ok (.ireturn, 1) := by decide +kernel
def T_Jx4a65c_isEmpty_aae02 : ab_T := [(0, some (s_aload 0 1)), (1, some (s_getI 1 2 4)), (4, some (s_ifeq 7 11)), (7, some (s_const (vI 1) 8)), (8, some (s_goto 12)), (11, some (s_const (vI 0) 12)), (12, some (s_ret 1))]
set_option maxRecDepth 20000 in
theorem mt_Jx4a65c_isEmpty_aae02 : MonoT (T_Jx4a65c_isEmpty_aae02) := MA_mem (And.intro mono_aload (And.intro mono_getI (And.intro mono_ifeq (And.intro mono_const (And.intro mono_goto (And.intro mono_const (And.intro mono_ret trivial)))))))
set_option maxRecDepth 20000 in
set_option maxHeartbeats 4000000 in
theorem snd_Jx4a65c_isEmpty_aae02 {l : Launch} {D : va_G} {cA : Nat → ClassId} {d : Nat} : Sound l D cA d 1 yJx4a65c_isEmpty_aae02 cJx4a65c_isEmpty_aae02 (some .boolean) [] (T_Jx4a65c_isEmpty_aae02) := by
  intro p e R s m args below meth c loc0 m0 r Q E hQ h0 hrt hnm htab
  exact SA_mem (And.intro (fun ls st mm h => so_aload_n E rfl dJx4a65c_isEmpty_aae02_0 h) (And.intro (fun ls st mm h => so_getI E (C := RJx4a65c) (T := TJx4a65c) (N := 3) (ck := 1) rfl rfl (by decide) tu_Jx4a65c (k := 2) (ref := "java/util/ArrayList") (by decide) (by decide) tw_t4_179 (fun _ h => h) dJx4a65c_isEmpty_aae02_1 h) (And.intro (fun ls st mm h => so_ifne E (tgt := 11) (by decide) dJx4a65c_isEmpty_aae02_4 h) (And.intro (fun ls st mm h => so_iconst E (by decide) dJx4a65c_isEmpty_aae02_7 h) (And.intro (fun ls st mm h => so_goto E (tgt := 12) (by decide) dJx4a65c_isEmpty_aae02_8 h) (And.intro (fun ls st mm h => so_iconst E (by decide) dJx4a65c_isEmpty_aae02_11 h) (And.intro (fun ls st mm h => so_ireturn E hQ rfl (fun _ h => h) h0 (ty := .boolean) hrt (Or.inr ⟨rfl, rfl⟩) dJx4a65c_isEmpty_aae02_12 h) (trivial))))))))
theorem dJx4a65c_elementData_915e3_0 : decode cJx4a65c_elementData_915e3 0 = .ok (.aload_n 0, 1) := by decide +kernel
theorem dJx4a65c_elementData_915e3_1 : decode cJx4a65c_elementData_915e3 1 = .ok (.getfield 9, 3) := by decide +kernel
theorem dJx4a65c_elementData_915e3_4 : decode cJx4a65c_elementData_915e3 4 = .ok (.iload_n 1, 1) := by decide +kernel
theorem dJx4a65c_elementData_915e3_5 : decode cJx4a65c_elementData_915e3 5 = .ok (.aaload, 1) := by decide +kernel
theorem dJx4a65c_elementData_915e3_6 : decode cJx4a65c_elementData_915e3 6 = .ok (.areturn, 1) := by decide +kernel
def T_Jx4a65c_elementData_915e3 : ab_T := [(0, some (s_aload 0 1)), (1, some (s_getR 1 1 4)), (4, some (s_iload 1 5)), (5, some (s_aald 104 6)), (6, some (s_retA))]
set_option maxRecDepth 20000 in
theorem mt_Jx4a65c_elementData_915e3 : MonoT (T_Jx4a65c_elementData_915e3) := MA_mem (And.intro mono_aload (And.intro mono_getR (And.intro mono_iload (And.intro mono_aald (And.intro mono_retA trivial)))))
set_option maxRecDepth 20000 in
set_option maxHeartbeats 4000000 in
theorem snd_Jx4a65c_elementData_915e3 {l : Launch} {D : va_G} {cA : Nat → ClassId} {d : Nat} : Sound l D cA d 2 yJx4a65c_elementData_915e3 cJx4a65c_elementData_915e3 (some (.object "java/lang/Object")) [] (T_Jx4a65c_elementData_915e3) := by
  intro p e R s m args below meth c loc0 m0 r Q E hQ h0 hrt hnm htab
  exact SA_mem (And.intro (fun ls st mm h => so_aload_n E rfl dJx4a65c_elementData_915e3_0 h) (And.intro (fun ls st mm h => so_getR E (C := RJx4a65c) (T := TJx4a65c) (N := 3) (ck := 1) rfl rfl (by decide) tu_Jx4a65c (k := 1) (ref := "java/util/ArrayList") (by decide) (by decide) tw_t4_176 (fun _ h => h) dJx4a65c_elementData_915e3_1 h) (And.intro (fun ls st mm h => so_iload_n E rfl dJx4a65c_elementData_915e3_4 h) (And.intro (fun ls st mm h => so_aald E dJx4a65c_elementData_915e3_5 h) (And.intro (fun ls st mm h => so_areturn E hQ rfl (fun _ h => h) h0 (ty := (.object "java/lang/Object")) hrt (Or.inl ⟨_, rfl⟩) dJx4a65c_elementData_915e3_6 h) (trivial))))))
theorem dJx4a65c_get_915e3_0 : decode cJx4a65c_get_915e3 0 = .ok (.iload_n 1, 1) := by decide +kernel
theorem dJx4a65c_get_915e3_1 : decode cJx4a65c_get_915e3 1 = .ok (.aload_n 0, 1) := by decide +kernel
theorem dJx4a65c_get_915e3_2 : decode cJx4a65c_get_915e3 2 = .ok (.getfield 48, 3) := by decide +kernel
theorem dJx4a65c_get_915e3_5 : decode cJx4a65c_get_915e3 5 = .ok (.invokestatic 118, 3) := by decide +kernel
theorem dJx4a65c_get_915e3_8 : decode cJx4a65c_get_915e3 8 = .ok (.pop, 1) := by decide +kernel
theorem dJx4a65c_get_915e3_9 : decode cJx4a65c_get_915e3 9 = .ok (.aload_n 0, 1) := by decide +kernel
theorem dJx4a65c_get_915e3_10 : decode cJx4a65c_get_915e3 10 = .ok (.iload_n 1, 1) := by decide +kernel
theorem dJx4a65c_get_915e3_11 : decode cJx4a65c_get_915e3 11 = .ok (.invokevirtual 123, 3) := by decide +kernel
theorem dJx4a65c_get_915e3_14 : decode cJx4a65c_get_915e3 14 = .ok (.areturn, 1) := by decide +kernel
def T_Jx4a65c_get_915e3 (sp_J15_checkIndex_7cf53 sp_Jx4a65c_elementData_915e3 : List ab_V → ab_M → ab_O) : ab_T := [(0, some (s_iload 1 1)), (1, some (s_aload 0 2)), (2, some (s_getI 1 2 5)), (5, some (s_call 999 sp_J15_checkIndex_7cf53 2 [] 8)), (8, some (s_pop 9)), (9, some (s_aload 0 10)), (10, some (s_iload 1 11)), (11, some (s_call 1 sp_Jx4a65c_elementData_915e3 2 [] 14)), (14, some (s_retA))]
set_option maxRecDepth 20000 in
theorem mt_Jx4a65c_get_915e3 {sp_J15_checkIndex_7cf53 sp_Jx4a65c_elementData_915e3 : List ab_V → ab_M → ab_O} : MonoT (T_Jx4a65c_get_915e3 sp_J15_checkIndex_7cf53 sp_Jx4a65c_elementData_915e3) := MA_mem (And.intro mono_iload (And.intro mono_aload (And.intro mono_getI (And.intro mono_call (And.intro mono_pop (And.intro mono_aload (And.intro mono_iload (And.intro mono_call (And.intro mono_retA trivial)))))))))
set_option maxRecDepth 20000 in
set_option maxHeartbeats 4000000 in
theorem snd_Jx4a65c_get_915e3 {l : Launch} {D : va_G} {cA : Nat → ClassId} {d : Nat} {sp_J15_checkIndex_7cf53 sp_Jx4a65c_elementData_915e3 : List ab_V → ab_M → ab_O} {d' : Nat} (hd9 : d' + 1 ≤ d) (hC_J15_checkIndex_7cf53 : ∀ as m, Ctr l D cA d' yJ15_checkIndex_7cf53 (Cond.code yJ15_checkIndex_7cf53 cJ15_checkIndex_7cf53 2 (some .int) :: TB) as m (sp_J15_checkIndex_7cf53 as m)) (hC_Jx4a65c_elementData_915e3 : ∀ as m, Ctr l D cA d' yJx4a65c_elementData_915e3 (Cond.code yJx4a65c_elementData_915e3 cJx4a65c_elementData_915e3 2 (some (.object "java/lang/Object")) :: TB) as m (sp_Jx4a65c_elementData_915e3 as m)) : Sound l D cA d 2 yJx4a65c_get_915e3 cJx4a65c_get_915e3 (some (.object "java/lang/Object")) [] (T_Jx4a65c_get_915e3 sp_J15_checkIndex_7cf53 sp_Jx4a65c_elementData_915e3) := by
  intro p e R s m args below meth c loc0 m0 r Q E hQ h0 hrt hnm htab
  exact SA_mem (And.intro (fun ls st mm h => so_iload_n E rfl dJx4a65c_get_915e3_0 h) (And.intro (fun ls st mm h => so_aload_n E rfl dJx4a65c_get_915e3_1 h) (And.intro (fun ls st mm h => so_getI E (C := RJx4a65c) (T := TJx4a65c) (N := 3) (ck := 1) rfl rfl (by decide) tu_Jx4a65c (k := 2) (ref := "java/util/ArrayList") (by decide) (by decide) tw_t4_179 (fun _ h => h) dJx4a65c_get_915e3_2 h) (And.intro (fun ls st mm h => so_callS E hQ rfl (fun _ h => h) h0 (idx := 118) hd9 (by decide) hC_J15_checkIndex_7cf53 (hd_nil htab) tw_t5_17 tw_t5_18 tw_t1_17 tw_t5_19 (by decide +kernel) dJx4a65c_get_915e3_5 h) (And.intro (fun ls st mm h => so_pop E dJx4a65c_get_915e3_8 h) (And.intro (fun ls st mm h => so_aload_n E rfl dJx4a65c_get_915e3_9 h) (And.intro (fun ls st mm h => so_iload_n E rfl dJx4a65c_get_915e3_10 h) (And.intro (fun ls st mm h => so_callV E hQ rfl (fun _ h => h) h0 (idx := 123) (C := RJx4a65c) (T := TJx4a65c) (N := 3) rfl (by decide) (by decide) rfl hd9 (by decide) hC_Jx4a65c_elementData_915e3 (hd_nil htab) tw_t5_23 tw_t5_24 tw_t5_25 tw_t1_11 tw_t5_26 (by decide +kernel) dJx4a65c_get_915e3_11 h) (And.intro (fun ls st mm h => so_areturn E hQ rfl (fun _ h => h) h0 (ty := (.object "java/lang/Object")) hrt (Or.inl ⟨_, rfl⟩) dJx4a65c_get_915e3_14 h) (trivial))))))))))
theorem dJx4a65c_add_72be8_0 : decode cJx4a65c_add_72be8 0 = .ok (.iload_n 3, 1) := by decide +kernel
theorem dJx4a65c_add_72be8_1 : decode cJx4a65c_add_72be8 1 = .ok (.aload_n 2, 1) := by decide +kernel
theorem dJx4a65c_add_72be8_2 : decode cJx4a65c_add_72be8 2 = .ok (.arraylength, 1) := by decide +kernel
theorem dJx4a65c_add_72be8_3 : decode cJx4a65c_add_72be8 3 = .ok (.if_icmp .ne 8, 3) := by decide +kernel
theorem dJx4a65c_add_72be8_6 : decode cJx4a65c_add_72be8 6 = .ok (.aload_n 0, 1) := by decide +kernel
theorem dJx4a65c_add_72be8_7 : decode cJx4a65c_add_72be8 7 = .ok (.invokevirtual 129, 3) := by decide +kernel
theorem dJx4a65c_add_72be8_10 : decode cJx4a65c_add_72be8 10 = .ok (.astore_n 2, 1) := by decide +kernel
theorem dJx4a65c_add_72be8_11 : decode cJx4a65c_add_72be8 11 = .ok (.aload_n 2, 1) := by decide +kernel
theorem dJx4a65c_add_72be8_12 : decode cJx4a65c_add_72be8 12 = .ok (.iload_n 3, 1) := by decide +kernel
theorem dJx4a65c_add_72be8_13 : decode cJx4a65c_add_72be8 13 = .ok (.aload_n 1, 1) := by decide +kernel
theorem dJx4a65c_add_72be8_14 : decode cJx4a65c_add_72be8 14 = .ok (.aastore, 1) := by decide +kernel
theorem dJx4a65c_add_72be8_15 : decode cJx4a65c_add_72be8 15 = .ok (.aload_n 0, 1) := by decide +kernel
theorem dJx4a65c_add_72be8_16 : decode cJx4a65c_add_72be8 16 = .ok (.iload_n 3, 1) := by decide +kernel
theorem dJx4a65c_add_72be8_17 : decode cJx4a65c_add_72be8 17 = .ok (.iconst 1, 1) := by decide +kernel
theorem dJx4a65c_add_72be8_18 : decode cJx4a65c_add_72be8 18 = .ok (.iadd, 1) := by decide +kernel
theorem dJx4a65c_add_72be8_19 : decode cJx4a65c_add_72be8 19 = .ok (.putfield 48, 3) := by decide +kernel
theorem dJx4a65c_add_72be8_22 : decode cJx4a65c_add_72be8 22 = .ok (.return_, 1) := by decide +kernel
def T_Jx4a65c_add_72be8 (sp_Jx4a65c_grow_d5877 : List ab_V → ab_M → ab_O) : ab_T := [(0, some (s_iload 3 1)), (1, some (s_aload 2 2)), (2, some (s_alen 3)), (3, some (s_cmpeq 6 11)), (6, some (s_aload 0 7)), (7, some (s_call 1 sp_Jx4a65c_grow_d5877 1 [] 10)), (10, some (s_astore 2 11)), (11, some (s_aload 2 12)), (12, some (s_iload 3 13)), (13, some (s_aload 1 14)), (14, some (s_aast 15)), (15, some (s_aload 0 16)), (16, some (s_iload 3 17)), (17, some (s_const (vI 1) 18)), (18, some (s_bin (· + ·) 19)), (19, some (s_putI 1 2 22)), (22, some (s_retV))]
set_option maxRecDepth 20000 in
theorem mt_Jx4a65c_add_72be8 {sp_Jx4a65c_grow_d5877 : List ab_V → ab_M → ab_O} : MonoT (T_Jx4a65c_add_72be8 sp_Jx4a65c_grow_d5877) := MA_mem (And.intro mono_iload (And.intro mono_aload (And.intro mono_alen (And.intro mono_cmpeq (And.intro mono_aload (And.intro mono_call (And.intro mono_astore (And.intro mono_aload (And.intro mono_iload (And.intro mono_aload (And.intro mono_aast (And.intro mono_aload (And.intro mono_iload (And.intro mono_const (And.intro mono_bin (And.intro mono_putI (And.intro mono_retV trivial)))))))))))))))))
set_option maxRecDepth 20000 in
set_option maxHeartbeats 4000000 in
theorem snd_Jx4a65c_add_72be8 {l : Launch} {D : va_G} {cA : Nat → ClassId} {d : Nat} {sp_Jx4a65c_grow_d5877 : List ab_V → ab_M → ab_O} {d' : Nat} (hd9 : d' + 1 ≤ d) (hC_Jx4a65c_grow_d5877 : ∀ as m, Ctr l D cA d' yJx4a65c_grow_d5877 (Cond.code yJx4a65c_grow_d5877 cJx4a65c_grow_d5877 1 (some (.array (.object "java/lang/Object"))) :: TB) as m (sp_Jx4a65c_grow_d5877 as m)) : Sound l D cA d 4 yJx4a65c_add_72be8 cJx4a65c_add_72be8 none [] (T_Jx4a65c_add_72be8 sp_Jx4a65c_grow_d5877) := by
  intro p e R s m args below meth c loc0 m0 r Q E hQ h0 hrt hnm htab
  exact SA_mem (And.intro (fun ls st mm h => so_iload_n E rfl dJx4a65c_add_72be8_0 h) (And.intro (fun ls st mm h => so_aload_n E rfl dJx4a65c_add_72be8_1 h) (And.intro (fun ls st mm h => so_alen E dJx4a65c_add_72be8_2 sk6 h) (And.intro (fun ls st mm h => so_icmpne E (tgt := 11) (by decide) dJx4a65c_add_72be8_3 h) (And.intro (fun ls st mm h => so_aload_n E rfl dJx4a65c_add_72be8_6 h) (And.intro (fun ls st mm h => so_callV E hQ rfl (fun _ h => h) h0 (idx := 129) (C := RJx4a65c) (T := TJx4a65c) (N := 3) rfl (by decide) (by decide) rfl hd9 (by decide) hC_Jx4a65c_grow_d5877 (hd_nil htab) tw_t5_82 tw_t5_84 tw_p3_6 tw_t1_11 tw_t5_85 (by decide +kernel) dJx4a65c_add_72be8_7 h) (And.intro (fun ls st mm h => so_astore_n E rfl dJx4a65c_add_72be8_10 h) (And.intro (fun ls st mm h => so_aload_n E rfl dJx4a65c_add_72be8_11 h) (And.intro (fun ls st mm h => so_iload_n E rfl dJx4a65c_add_72be8_12 h) (And.intro (fun ls st mm h => so_aload_n E rfl dJx4a65c_add_72be8_13 h) (And.intro (fun ls st mm h => so_aast E dJx4a65c_add_72be8_14 h) (And.intro (fun ls st mm h => so_aload_n E rfl dJx4a65c_add_72be8_15 h) (And.intro (fun ls st mm h => so_iload_n E rfl dJx4a65c_add_72be8_16 h) (And.intro (fun ls st mm h => so_iconst E (by decide) dJx4a65c_add_72be8_17 h) (And.intro (fun ls st mm h => so_iadd E dJx4a65c_add_72be8_18 h) (And.intro (fun ls st mm h => so_putI E (C := RJx4a65c) (T := TJx4a65c) (N := 3) (ck := 1) rfl rfl (by decide) tu_Jx4a65c (k := 2) (ref := "java/util/ArrayList") (by decide) (by decide) tyJx4a65c tyJx4a65c_ok nmJx4a65c tw_t4_179 (fun _ h => h) rfl (tyJx4a65c_ok 2 (by decide)) dJx4a65c_add_72be8_19 sk2_1 h) (And.intro (fun ls st mm h => so_vreturn E hQ rfl (fun _ h => h) h0 hrt dJx4a65c_add_72be8_22 h) (trivial))))))))))))))))))
theorem dJx4a65c_add_9ea2d_0 : decode cJx4a65c_add_9ea2d 0 = .ok (.aload_n 0, 1) := by decide +kernel
theorem dJx4a65c_add_9ea2d_1 : decode cJx4a65c_add_9ea2d 1 = .ok (.dup, 1) := by decide +kernel
theorem dJx4a65c_add_9ea2d_2 : decode cJx4a65c_add_9ea2d 2 = .ok (.getfield 63, 3) := by decide +kernel
theorem dJx4a65c_add_9ea2d_5 : decode cJx4a65c_add_9ea2d 5 = .ok (.iconst 1, 1) := by decide +kernel
theorem dJx4a65c_add_9ea2d_6 : decode cJx4a65c_add_9ea2d 6 = .ok (.iadd, 1) := by decide +kernel
theorem dJx4a65c_add_9ea2d_7 : decode cJx4a65c_add_9ea2d 7 = .ok (.putfield 63, 3) := by decide +kernel
theorem dJx4a65c_add_9ea2d_10 : decode cJx4a65c_add_9ea2d 10 = .ok (.aload_n 0, 1) := by decide +kernel
theorem dJx4a65c_add_9ea2d_11 : decode cJx4a65c_add_9ea2d 11 = .ok (.aload_n 1, 1) := by decide +kernel
theorem dJx4a65c_add_9ea2d_12 : decode cJx4a65c_add_9ea2d 12 = .ok (.aload_n 0, 1) := by decide +kernel
theorem dJx4a65c_add_9ea2d_13 : decode cJx4a65c_add_9ea2d 13 = .ok (.getfield 9, 3) := by decide +kernel
theorem dJx4a65c_add_9ea2d_16 : decode cJx4a65c_add_9ea2d 16 = .ok (.aload_n 0, 1) := by decide +kernel
theorem dJx4a65c_add_9ea2d_17 : decode cJx4a65c_add_9ea2d 17 = .ok (.getfield 48, 3) := by decide +kernel
theorem dJx4a65c_add_9ea2d_20 : decode cJx4a65c_add_9ea2d 20 = .ok (.invokevirtual 131, 3) := by decide +kernel
theorem dJx4a65c_add_9ea2d_23 : decode cJx4a65c_add_9ea2d 23 = .ok (.iconst 1, 1) := by decide +kernel
theorem dJx4a65c_add_9ea2d_24 : decode cJx4a65c_add_9ea2d 24 = .ok (.ireturn, 1) := by decide +kernel
def T_Jx4a65c_add_9ea2d (sp_Jx4a65c_add_72be8 : List ab_V → ab_M → ab_O) : ab_T := [(0, some (s_aload 0 1)), (1, some (s_dup 2)), (2, some (s_getI 1 0 5)), (5, some (s_const (vI 1) 6)), (6, some (s_bin (· + ·) 7)), (7, some (s_putI 1 0 10)), (10, some (s_aload 0 11)), (11, some (s_aload 1 12)), (12, some (s_aload 0 13)), (13, some (s_getR 1 1 16)), (16, some (s_aload 0 17)), (17, some (s_getI 1 2 20)), (20, some (s_call 1 sp_Jx4a65c_add_72be8 4 [] 23)), (23, some (s_const (vI 1) 24)), (24, some (s_ret 1))]
set_option maxRecDepth 20000 in
theorem mt_Jx4a65c_add_9ea2d {sp_Jx4a65c_add_72be8 : List ab_V → ab_M → ab_O} : MonoT (T_Jx4a65c_add_9ea2d sp_Jx4a65c_add_72be8) := MA_mem (And.intro mono_aload (And.intro mono_dup (And.intro mono_getI (And.intro mono_const (And.intro mono_bin (And.intro mono_putI (And.intro mono_aload (And.intro mono_aload (And.intro mono_aload (And.intro mono_getR (And.intro mono_aload (And.intro mono_getI (And.intro mono_call (And.intro mono_const (And.intro mono_ret trivial)))))))))))))))
set_option maxRecDepth 20000 in
set_option maxHeartbeats 4000000 in
theorem snd_Jx4a65c_add_9ea2d {l : Launch} {D : va_G} {cA : Nat → ClassId} {d : Nat} {sp_Jx4a65c_add_72be8 : List ab_V → ab_M → ab_O} {d' : Nat} (hd9 : d' + 1 ≤ d) (hC_Jx4a65c_add_72be8 : ∀ as m, Ctr l D cA d' yJx4a65c_add_72be8 (Cond.code yJx4a65c_add_72be8 cJx4a65c_add_72be8 4 none :: TB) as m (sp_Jx4a65c_add_72be8 as m)) : Sound l D cA d 2 yJx4a65c_add_9ea2d cJx4a65c_add_9ea2d (some .boolean) [] (T_Jx4a65c_add_9ea2d sp_Jx4a65c_add_72be8) := by
  intro p e R s m args below meth c loc0 m0 r Q E hQ h0 hrt hnm htab
  exact SA_mem (And.intro (fun ls st mm h => so_aload_n E rfl dJx4a65c_add_9ea2d_0 h) (And.intro (fun ls st mm h => so_dup E dJx4a65c_add_9ea2d_1 h) (And.intro (fun ls st mm h => so_getI E (C := RJx4a65c) (T := TJx4a65c) (N := 3) (ck := 1) rfl rfl (by decide) tu_Jx4a65c (k := 0) (ref := "java/util/ArrayList") (by decide) (by decide) tw_t4_183 (fun x hx => u_same (E.2.2.2.2.1 _ tw_t4_182) x hx) dJx4a65c_add_9ea2d_2 h) (And.intro (fun ls st mm h => so_iconst E (by decide) dJx4a65c_add_9ea2d_5 h) (And.intro (fun ls st mm h => so_iadd E dJx4a65c_add_9ea2d_6 h) (And.intro (fun ls st mm h => so_putI E (C := RJx4a65c) (T := TJx4a65c) (N := 3) (ck := 1) rfl rfl (by decide) tu_Jx4a65c (k := 0) (ref := "java/util/ArrayList") (by decide) (by decide) tyJx4a65c tyJx4a65c_ok nmJx4a65c tw_t4_183 (fun x hx => u_same (E.2.2.2.2.1 _ tw_t4_182) x hx) rfl (tyJx4a65c_ok 0 (by decide)) dJx4a65c_add_9ea2d_7 sk2_1 h) (And.intro (fun ls st mm h => so_aload_n E rfl dJx4a65c_add_9ea2d_10 h) (And.intro (fun ls st mm h => so_aload_n E rfl dJx4a65c_add_9ea2d_11 h) (And.intro (fun ls st mm h => so_aload_n E rfl dJx4a65c_add_9ea2d_12 h) (And.intro (fun ls st mm h => so_getR E (C := RJx4a65c) (T := TJx4a65c) (N := 3) (ck := 1) rfl rfl (by decide) tu_Jx4a65c (k := 1) (ref := "java/util/ArrayList") (by decide) (by decide) tw_t4_176 (fun _ h => h) dJx4a65c_add_9ea2d_13 h) (And.intro (fun ls st mm h => so_aload_n E rfl dJx4a65c_add_9ea2d_16 h) (And.intro (fun ls st mm h => so_getI E (C := RJx4a65c) (T := TJx4a65c) (N := 3) (ck := 1) rfl rfl (by decide) tu_Jx4a65c (k := 2) (ref := "java/util/ArrayList") (by decide) (by decide) tw_t4_179 (fun _ h => h) dJx4a65c_add_9ea2d_17 h) (And.intro (fun ls st mm h => so_callV E hQ rfl (fun _ h => h) h0 (idx := 131) (C := RJx4a65c) (T := TJx4a65c) (N := 3) rfl (by decide) (by decide) rfl hd9 (by decide) hC_Jx4a65c_add_72be8 (hd_nil htab) tw_t5_78 tw_t5_80 tw_p3_5 tw_t1_11 tw_t5_81 (by decide +kernel) dJx4a65c_add_9ea2d_20 h) (And.intro (fun ls st mm h => so_iconst E (by decide) dJx4a65c_add_9ea2d_23 h) (And.intro (fun ls st mm h => so_ireturn E hQ rfl (fun _ h => h) h0 (ty := .boolean) hrt (Or.inr ⟨rfl, rfl⟩) dJx4a65c_add_9ea2d_24 h) (trivial))))))))))))))))
theorem dJx4a65c_iterator_32c93_0 : decode cJx4a65c_iterator_32c93 0 = .ok (.new 267, 3) := by decide +kernel
theorem dJx4a65c_iterator_32c93_3 : decode cJx4a65c_iterator_32c93 3 = .ok (.dup, 1) := by decide +kernel
theorem dJx4a65c_iterator_32c93_4 : decode cJx4a65c_iterator_32c93 4 = .ok (.aload_n 0, 1) := by decide +kernel
theorem dJx4a65c_iterator_32c93_5 : decode cJx4a65c_iterator_32c93 5 = .ok (.invokespecial 269, 3) := by decide +kernel
theorem dJx4a65c_iterator_32c93_8 : decode cJx4a65c_iterator_32c93 8 = .ok (.areturn, 1) := by decide +kernel
def T_Jx4a65c_iterator_32c93 (sp_Jx35411_init_45d68 : List ab_V → ab_M → ab_O) : ab_T := [(0, some (s_new 60 3)), (3, some (s_dup 4)), (4, some (s_aload 0 5)), (5, some (s_call 0 sp_Jx35411_init_45d68 2 [] 8)), (8, some (s_retA))]
set_option maxRecDepth 20000 in
theorem mt_Jx4a65c_iterator_32c93 {sp_Jx35411_init_45d68 : List ab_V → ab_M → ab_O} : MonoT (T_Jx4a65c_iterator_32c93 sp_Jx35411_init_45d68) := MA_mem (And.intro mono_new (And.intro mono_dup (And.intro mono_aload (And.intro mono_call (And.intro mono_retA trivial)))))
set_option maxRecDepth 20000 in
set_option maxHeartbeats 4000000 in
theorem snd_Jx4a65c_iterator_32c93 {l : Launch} {D : va_G} {cA : Nat → ClassId} {d : Nat} {sp_Jx35411_init_45d68 : List ab_V → ab_M → ab_O} {d' : Nat} (hd9 : d' + 1 ≤ d) (hC_Jx35411_init_45d68 : ∀ as m, Ctr l D cA d' yJx35411_init_45d68 (Cond.code yJx35411_init_45d68 cJx35411_init_45d68 2 none :: TB) as m (sp_Jx35411_init_45d68 as m)) : Sound l D cA d 1 yJx4a65c_iterator_32c93 cJx4a65c_iterator_32c93 (some (.object "java/util/Iterator")) [] (T_Jx4a65c_iterator_32c93 sp_Jx35411_init_45d68) := by
  intro p e R s m args below meth c loc0 m0 r Q E hQ h0 hrt hnm htab
  exact SA_mem (And.intro (fun ls st mm h => so_new E (t := 60) (C := RJx35411) (T := TJx35411) (N := 4) (ck := 0) rfl rfl (by decide) tu_Jx35411 tyJx35411 tyJx35411_ok dv_Jx35411 rfl tw_t5_223 tw_t5_224 tw_t1_25 dJx4a65c_iterator_32c93_0 h) (And.intro (fun ls st mm h => so_dup E dJx4a65c_iterator_32c93_3 h) (And.intro (fun ls st mm h => so_aload_n E rfl dJx4a65c_iterator_32c93_4 h) (And.intro (fun ls st mm h => so_callI E hQ rfl (fun _ h => h) h0 (idx := 269) (by decide) (by decide) rfl rfl hd9 (by decide) hC_Jx35411_init_45d68 (hd_nil htab) tw_t5_225 tw_t5_226 tw_t1_25 tw_t5_227 (by decide +kernel) dJx4a65c_iterator_32c93_5 h) (And.intro (fun ls st mm h => so_areturn E hQ rfl (fun _ h => h) h0 (ty := (.object "java/util/Iterator")) hrt (Or.inl ⟨_, rfl⟩) dJx4a65c_iterator_32c93_8 h) (trivial))))))
theorem dJ15_checkIndex_7cf53_0 : decode cJ15_checkIndex_7cf53 0 = .ok (.iload_n 0, 1) := by decide +kernel
theorem dJ15_checkIndex_7cf53_1 : decode cJ15_checkIndex_7cf53 1 = .ok (.iload_n 1, 1) := by decide +kernel
theorem dJ15_checkIndex_7cf53_2 : decode cJ15_checkIndex_7cf53 2 = .ok (.aconst_null, 1) := by decide +kernel
theorem dJ15_checkIndex_7cf53_3 : decode cJ15_checkIndex_7cf53 3 = .ok (.invokestatic 105, 3) := by decide +kernel
theorem dJ15_checkIndex_7cf53_6 : decode cJ15_checkIndex_7cf53 6 = .ok (.ireturn, 1) := by decide +kernel
def T_J15_checkIndex_7cf53 (sp_J3_checkIndex_8e157 : List ab_V → ab_M → ab_O) : ab_T := [(0, some (s_iload 0 1)), (1, some (s_iload 1 2)), (2, some (s_const (vR none) 3)), (3, some (s_call 999 sp_J3_checkIndex_8e157 3 [] 6)), (6, some (s_ret 0))]
set_option maxRecDepth 20000 in
theorem mt_J15_checkIndex_7cf53 {sp_J3_checkIndex_8e157 : List ab_V → ab_M → ab_O} : MonoT (T_J15_checkIndex_7cf53 sp_J3_checkIndex_8e157) := MA_mem (And.intro mono_iload (And.intro mono_iload (And.intro mono_const (And.intro mono_call (And.intro mono_ret trivial)))))
set_option maxRecDepth 20000 in
set_option maxHeartbeats 4000000 in
theorem snd_J15_checkIndex_7cf53 {l : Launch} {D : va_G} {cA : Nat → ClassId} {d : Nat} {sp_J3_checkIndex_8e157 : List ab_V → ab_M → ab_O} {d' : Nat} (hd9 : d' + 1 ≤ d) (hC_J3_checkIndex_8e157 : ∀ as m, Ctr l D cA d' yJ3_checkIndex_8e157 (Cond.code yJ3_checkIndex_8e157 cJ3_checkIndex_8e157 3 (some .int) :: TB) as m (sp_J3_checkIndex_8e157 as m)) : Sound l D cA d 2 yJ15_checkIndex_7cf53 cJ15_checkIndex_7cf53 (some .int) [] (T_J15_checkIndex_7cf53 sp_J3_checkIndex_8e157) := by
  intro p e R s m args below meth c loc0 m0 r Q E hQ h0 hrt hnm htab
  exact SA_mem (And.intro (fun ls st mm h => so_iload_n E rfl dJ15_checkIndex_7cf53_0 h) (And.intro (fun ls st mm h => so_iload_n E rfl dJ15_checkIndex_7cf53_1 h) (And.intro (fun ls st mm h => so_null E dJ15_checkIndex_7cf53_2 h) (And.intro (fun ls st mm h => so_callS E hQ rfl (fun _ h => h) h0 (idx := 105) hd9 (by decide) hC_J3_checkIndex_8e157 (hd_nil htab) tw_t5_20 tw_t5_21 tw_t1_18 tw_t5_22 (by decide +kernel) dJ15_checkIndex_7cf53_3 h) (And.intro (fun ls st mm h => so_ireturn E hQ rfl (fun _ h => h) h0 (ty := .int) hrt (Or.inl ⟨rfl, rfl⟩) dJ15_checkIndex_7cf53_6 h) (trivial))))))
theorem dJ8_newLength_cabcc_0 : decode cJ8_newLength_cabcc 0 = .ok (.iload_n 0, 1) := by decide +kernel
theorem dJ8_newLength_cabcc_1 : decode cJ8_newLength_cabcc 1 = .ok (.iload_n 1, 1) := by decide +kernel
theorem dJ8_newLength_cabcc_2 : decode cJ8_newLength_cabcc 2 = .ok (.iload_n 2, 1) := by decide +kernel
theorem dJ8_newLength_cabcc_3 : decode cJ8_newLength_cabcc 3 = .ok (.invokestatic 194, 3) := by decide +kernel
theorem dJ8_newLength_cabcc_6 : decode cJ8_newLength_cabcc 6 = .ok (.iadd, 1) := by decide +kernel
theorem dJ8_newLength_cabcc_7 : decode cJ8_newLength_cabcc 7 = .ok (.istore_n 3, 1) := by decide +kernel
theorem dJ8_newLength_cabcc_8 : decode cJ8_newLength_cabcc 8 = .ok (.iconst 0, 1) := by decide +kernel
theorem dJ8_newLength_cabcc_9 : decode cJ8_newLength_cabcc 9 = .ok (.iload_n 3, 1) := by decide +kernel
theorem dJ8_newLength_cabcc_10 : decode cJ8_newLength_cabcc 10 = .ok (.if_icmp .ge 11, 3) := by decide +kernel
theorem dJ8_newLength_cabcc_13 : decode cJ8_newLength_cabcc 13 = .ok (.iload_n 3, 1) := by decide +kernel
theorem dJ8_newLength_cabcc_14 : decode cJ8_newLength_cabcc 14 = .ok (.ldc 200, 2) := by decide +kernel
theorem dJ8_newLength_cabcc_16 : decode cJ8_newLength_cabcc 16 = .ok (.if_icmp .gt 5, 3) := by decide +kernel
theorem dJ8_newLength_cabcc_19 : decode cJ8_newLength_cabcc 19 = .ok (.iload_n 3, 1) := by decide +kernel
theorem dJ8_newLength_cabcc_20 : decode cJ8_newLength_cabcc 20 = .ok (.ireturn, 1) := by decide +kernel
theorem dJ8_newLength_cabcc_21 : decode cJ8_newLength_cabcc 21 = .ok (.iload_n 0, 1) := by decide +kernel
theorem dJ8_newLength_cabcc_22 : decode cJ8_newLength_cabcc 22 = .ok (.iload_n 1, 1) := by decide +kernel
theorem dJ8_newLength_cabcc_23 : decode cJ8_newLength_cabcc 23 = .ok (.invokestatic 201, 3) := by decide +kernel
theorem dJ8_newLength_cabcc_26 : decode cJ8_newLength_cabcc 26 = .ok (.ireturn, 1) := by decide +kernel
def T_J8_newLength_cabcc : ab_T := [(0, some (s_iload 0 1)), (1, some (s_iload 1 2)), (2, some (s_iload 2 3)), (3, some (s_mmax 6)), (6, some (s_bin (· + ·) 7)), (7, some (s_istore 3 8)), (8, some (s_const (vI 0) 9)), (9, some (s_iload 3 10)), (10, some (s_cmplt 13 21)), (13, some (s_iload 3 14)), (14, some (s_const (vI 2147483639) 16)), (16, some (s_cmpgt 21 19)), (19, some (s_iload 3 20)), (20, some (s_ret 0)), (21, some (s_iload 0 22)), (22, some (s_iload 1 23)), (26, some (s_ret 0))]
set_option maxRecDepth 20000 in
theorem mt_J8_newLength_cabcc : MonoT (T_J8_newLength_cabcc) := MA_mem (And.intro mono_iload (And.intro mono_iload (And.intro mono_iload (And.intro mono_mmax (And.intro mono_bin (And.intro mono_istore (And.intro mono_const (And.intro mono_iload (And.intro mono_cmplt (And.intro mono_iload (And.intro mono_const (And.intro mono_cmpgt (And.intro mono_iload (And.intro mono_ret (And.intro mono_iload (And.intro mono_iload (And.intro mono_ret trivial)))))))))))))))))
set_option maxRecDepth 20000 in
set_option maxHeartbeats 4000000 in
theorem snd_J8_newLength_cabcc {l : Launch} {D : va_G} {cA : Nat → ClassId} {d : Nat} : Sound l D cA d 4 yJ8_newLength_cabcc cJ8_newLength_cabcc (some .int) [] (T_J8_newLength_cabcc) := by
  intro p e R s m args below meth c loc0 m0 r Q E hQ h0 hrt hnm htab
  exact SA_mem (And.intro (fun ls st mm h => so_iload_n E rfl dJ8_newLength_cabcc_0 h) (And.intro (fun ls st mm h => so_iload_n E rfl dJ8_newLength_cabcc_1 h) (And.intro (fun ls st mm h => so_iload_n E rfl dJ8_newLength_cabcc_2 h) (And.intro (fun ls st mm h => so_mmax E tw_t5_93 tw_t4_107 tw_t1_21 tw_t4_108 dJ8_newLength_cabcc_3 h) (And.intro (fun ls st mm h => so_iadd E dJ8_newLength_cabcc_6 h) (And.intro (fun ls st mm h => so_istore_n E rfl dJ8_newLength_cabcc_7 h) (And.intro (fun ls st mm h => so_iconst E (by decide) dJ8_newLength_cabcc_8 h) (And.intro (fun ls st mm h => so_iload_n E rfl dJ8_newLength_cabcc_9 h) (And.intro (fun ls st mm h => so_icmpge E (tgt := 21) (by decide) dJ8_newLength_cabcc_10 h) (And.intro (fun ls st mm h => so_iload_n E rfl dJ8_newLength_cabcc_13 h) (And.intro (fun ls st mm h => so_ldc E tw_t5_94 dJ8_newLength_cabcc_14 h) (And.intro (fun ls st mm h => so_icmpgt E (tgt := 21) (by decide) dJ8_newLength_cabcc_16 h) (And.intro (fun ls st mm h => so_iload_n E rfl dJ8_newLength_cabcc_19 h) (And.intro (fun ls st mm h => so_ireturn E hQ rfl (fun _ h => h) h0 (ty := .int) hrt (Or.inl ⟨rfl, rfl⟩) dJ8_newLength_cabcc_20 h) (And.intro (fun ls st mm h => so_iload_n E rfl dJ8_newLength_cabcc_21 h) (And.intro (fun ls st mm h => so_iload_n E rfl dJ8_newLength_cabcc_22 h) (And.intro (fun ls st mm h => so_ireturn E hQ rfl (fun _ h => h) h0 (ty := .int) hrt (Or.inl ⟨rfl, rfl⟩) dJ8_newLength_cabcc_26 h) (trivial))))))))))))))))))
theorem dJ3_checkIndex_8e157_0 : decode cJ3_checkIndex_8e157 0 = .ok (.iload_n 0, 1) := by decide +kernel
theorem dJ3_checkIndex_8e157_1 : decode cJ3_checkIndex_8e157 1 = .ok (.ifCond .lt 8, 3) := by decide +kernel
theorem dJ3_checkIndex_8e157_4 : decode cJ3_checkIndex_8e157 4 = .ok (.iload_n 0, 1) := by decide +kernel
theorem dJ3_checkIndex_8e157_5 : decode cJ3_checkIndex_8e157 5 = .ok (.iload_n 1, 1) := by decide +kernel
theorem dJ3_checkIndex_8e157_6 : decode cJ3_checkIndex_8e157 6 = .ok (.if_icmp .lt 10, 3) := by decide +kernel
theorem dJ3_checkIndex_8e157_9 : decode cJ3_checkIndex_8e157 9 = .ok (.aload_n 2, 1) := by decide +kernel
theorem dJ3_checkIndex_8e157_10 : decode cJ3_checkIndex_8e157 10 = .ok (.iload_n 0, 1) := by decide +kernel
theorem dJ3_checkIndex_8e157_11 : decode cJ3_checkIndex_8e157 11 = .ok (.iload_n 1, 1) := by decide +kernel
theorem dJ3_checkIndex_8e157_12 : decode cJ3_checkIndex_8e157 12 = .ok (.invokestatic 95, 3) := by decide +kernel
theorem dJ3_checkIndex_8e157_15 : decode cJ3_checkIndex_8e157 15 = .ok (.athrow, 1) := by decide +kernel
theorem dJ3_checkIndex_8e157_16 : decode cJ3_checkIndex_8e157 16 = .ok (.iload_n 0, 1) := by decide +kernel
theorem dJ3_checkIndex_8e157_17 : decode cJ3_checkIndex_8e157 17 = .ok (.ireturn, 1) := by decide +kernel
def T_J3_checkIndex_8e157 : ab_T := [(0, some (s_iload 0 1)), (1, some (s_iflt 9 4)), (4, some (s_iload 0 5)), (5, some (s_iload 1 6)), (6, some (s_cmplt 16 9)), (9, some (s_aload 2 10)), (10, some (s_iload 0 11)), (11, some (s_iload 1 12)), (16, some (s_iload 0 17)), (17, some (s_ret 0))]
set_option maxRecDepth 20000 in
theorem mt_J3_checkIndex_8e157 : MonoT (T_J3_checkIndex_8e157) := MA_mem (And.intro mono_iload (And.intro mono_iflt (And.intro mono_iload (And.intro mono_iload (And.intro mono_cmplt (And.intro mono_aload (And.intro mono_iload (And.intro mono_iload (And.intro mono_iload (And.intro mono_ret trivial))))))))))
set_option maxRecDepth 20000 in
set_option maxHeartbeats 4000000 in
theorem snd_J3_checkIndex_8e157 {l : Launch} {D : va_G} {cA : Nat → ClassId} {d : Nat} : Sound l D cA d 3 yJ3_checkIndex_8e157 cJ3_checkIndex_8e157 (some .int) [] (T_J3_checkIndex_8e157) := by
  intro p e R s m args below meth c loc0 m0 r Q E hQ h0 hrt hnm htab
  exact SA_mem (And.intro (fun ls st mm h => so_iload_n E rfl dJ3_checkIndex_8e157_0 h) (And.intro (fun ls st mm h => so_iflt E (tgt := 9) (by decide) dJ3_checkIndex_8e157_1 h) (And.intro (fun ls st mm h => so_iload_n E rfl dJ3_checkIndex_8e157_4 h) (And.intro (fun ls st mm h => so_iload_n E rfl dJ3_checkIndex_8e157_5 h) (And.intro (fun ls st mm h => so_icmplt E (tgt := 16) (by decide) dJ3_checkIndex_8e157_6 h) (And.intro (fun ls st mm h => so_aload_n E rfl dJ3_checkIndex_8e157_9 h) (And.intro (fun ls st mm h => so_iload_n E rfl dJ3_checkIndex_8e157_10 h) (And.intro (fun ls st mm h => so_iload_n E rfl dJ3_checkIndex_8e157_11 h) (And.intro (fun ls st mm h => so_iload_n E rfl dJ3_checkIndex_8e157_16 h) (And.intro (fun ls st mm h => so_ireturn E hQ rfl (fun _ h => h) h0 (ty := .int) hrt (Or.inl ⟨rfl, rfl⟩) dJ3_checkIndex_8e157_17 h) (trivial)))))))))))
