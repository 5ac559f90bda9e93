/-! decode rows and tables, by program: J6_bitCount_0f7a4 J9_max_7cf53 J9_min_7cf53 -/
theorem dJ6_bitCount_0f7a4_0 : decode cJ6_bitCount_0f7a4 0 = .ok (.iload_n 0, 1) := by decide +kernel
theorem dJ6_bitCount_0f7a4_1 : decode cJ6_bitCount_0f7a4 1 = .ok (.iload_n 0, 1) := by decide +kernel
theorem dJ6_bitCount_0f7a4_2 : decode cJ6_bitCount_0f7a4 2 = .ok (.iconst 1, 1) := by decide +kernel
theorem dJ6_bitCount_0f7a4_3 : decode cJ6_bitCount_0f7a4 3 = .ok (.iushr, 1) := by decide +kernel
theorem dJ6_bitCount_0f7a4_4 : decode cJ6_bitCount_0f7a4 4 = .ok (.ldc_w 265, 3) := by decide +kernel
theorem dJ6_bitCount_0f7a4_7 : decode cJ6_bitCount_0f7a4 7 = .ok (.iand, 1) := by decide +kernel
theorem dJ6_bitCount_0f7a4_8 : decode cJ6_bitCount_0f7a4 8 = .ok (.isub, 1) := by decide +kernel
theorem dJ6_bitCount_0f7a4_9 : decode cJ6_bitCount_0f7a4 9 = .ok (.istore_n 0, 1) := by decide +kernel
theorem dJ6_bitCount_0f7a4_10 : decode cJ6_bitCount_0f7a4 10 = .ok (.iload_n 0, 1) := by decide +kernel
theorem dJ6_bitCount_0f7a4_11 : decode cJ6_bitCount_0f7a4 11 = .ok (.ldc_w 266, 3) := by decide +kernel
theorem dJ6_bitCount_0f7a4_14 : decode cJ6_bitCount_0f7a4 14 = .ok (.iand, 1) := by decide +kernel
theorem dJ6_bitCount_0f7a4_15 : decode cJ6_bitCount_0f7a4 15 = .ok (.iload_n 0, 1) := by decide +kernel
theorem dJ6_bitCount_0f7a4_16 : decode cJ6_bitCount_0f7a4 16 = .ok (.iconst 2, 1) := by decide +kernel
theorem dJ6_bitCount_0f7a4_17 : decode cJ6_bitCount_0f7a4 17 = .ok (.iushr, 1) := by decide +kernel
theorem dJ6_bitCount_0f7a4_18 : decode cJ6_bitCount_0f7a4 18 = .ok (.ldc_w 266, 3) := by decide +kernel
theorem dJ6_bitCount_0f7a4_21 : decode cJ6_bitCount_0f7a4 21 = .ok (.iand, 1) := by decide +kernel
theorem dJ6_bitCount_0f7a4_22 : decode cJ6_bitCount_0f7a4 22 = .ok (.iadd, 1) := by decide +kernel
theorem dJ6_bitCount_0f7a4_23 : decode cJ6_bitCount_0f7a4 23 = .ok (.istore_n 0, 1) := by decide +kernel
theorem dJ6_bitCount_0f7a4_24 : decode cJ6_bitCount_0f7a4 24 = .ok (.iload_n 0, 1) := by decide +kernel
theorem dJ6_bitCount_0f7a4_25 : decode cJ6_bitCount_0f7a4 25 = .ok (.iload_n 0, 1) := by decide +kernel
theorem dJ6_bitCount_0f7a4_26 : decode cJ6_bitCount_0f7a4 26 = .ok (.iconst 4, 1) := by decide +kernel
theorem dJ6_bitCount_0f7a4_27 : decode cJ6_bitCount_0f7a4 27 = .ok (.iushr, 1) := by decide +kernel
theorem dJ6_bitCount_0f7a4_28 : decode cJ6_bitCount_0f7a4 28 = .ok (.iadd, 1) := by decide +kernel
theorem dJ6_bitCount_0f7a4_29 : decode cJ6_bitCount_0f7a4 29 = .ok (.ldc_w 267, 3) := by decide +kernel
theorem dJ6_bitCount_0f7a4_32 : decode cJ6_bitCount_0f7a4 32 = .ok (.iand, 1) := by decide +kernel
theorem dJ6_bitCount_0f7a4_33 : decode cJ6_bitCount_0f7a4 33 = .ok (.istore_n 0, 1) := by decide +kernel
theorem dJ6_bitCount_0f7a4_34 : decode cJ6_bitCount_0f7a4 34 = .ok (.iload_n 0, 1) := by decide +kernel
theorem dJ6_bitCount_0f7a4_35 : decode cJ6_bitCount_0f7a4 35 = .ok (.iload_n 0, 1) := by decide +kernel
theorem dJ6_bitCount_0f7a4_36 : decode cJ6_bitCount_0f7a4 36 = .ok (.bipush 8, 2) := by decide +kernel
theorem dJ6_bitCount_0f7a4_38 : decode cJ6_bitCount_0f7a4 38 = .ok (.iushr, 1) := by decide +kernel
theorem dJ6_bitCount_0f7a4_39 : decode cJ6_bitCount_0f7a4 39 = .ok (.iadd, 1) := by decide +kernel
theorem dJ6_bitCount_0f7a4_40 : decode cJ6_bitCount_0f7a4 40 = .ok (.istore_n 0, 1) := by decide +kernel
theorem dJ6_bitCount_0f7a4_41 : decode cJ6_bitCount_0f7a4 41 = .ok (.iload_n 0, 1) := by decide +kernel
theorem dJ6_bitCount_0f7a4_42 : decode cJ6_bitCount_0f7a4 42 = .ok (.iload_n 0, 1) := by decide +kernel
theorem dJ6_bitCount_0f7a4_43 : decode cJ6_bitCount_0f7a4 43 = .ok (.bipush 16, 2) := by decide +kernel
theorem dJ6_bitCount_0f7a4_45 : decode cJ6_bitCount_0f7a4 45 = .ok (.iushr, 1) := by decide +kernel
theorem dJ6_bitCount_0f7a4_46 : decode cJ6_bitCount_0f7a4 46 = .ok (.iadd, 1) := by decide +kernel
theorem dJ6_bitCount_0f7a4_47 : decode cJ6_bitCount_0f7a4 47 = .ok (.istore_n 0, 1) := by decide +kernel
theorem dJ6_bitCount_0f7a4_48 : decode cJ6_bitCount_0f7a4 48 = .ok (.iload_n 0, 1) := by decide +kernel
theorem dJ6_bitCount_0f7a4_49 : decode cJ6_bitCount_0f7a4 49 = .ok (.bipush 63, 2) := by decide +kernel
theorem dJ6_bitCount_0f7a4_51 : decode cJ6_bitCount_0f7a4 51 = .ok (.iand, 1) := by decide +kernel
theorem dJ6_bitCount_0f7a4_52 : decode cJ6_bitCount_0f7a4 52 = .ok (.ireturn, 1) := by decide +kernel
def T_J6_bitCount_0f7a4 : ab_T := [(0, some (s_iload 0 1)), (1, some (s_iload 0 2)), (2, some (s_const (vI 1) 3)), (3, some (s_bin (fun x y => (x.toUInt32 >>> (y.toUInt32 &&& Int32.toUInt32 31)).toInt32) 4)), (4, some (s_const (vI 1431655765) 7)), (7, some (s_bin (· &&& ·) 8)), (8, some (s_bin (· - ·) 9)), (9, some (s_istore 0 10)), (10, some (s_iload 0 11)), (11, some (s_const (vI 858993459) 14)), (14, some (s_bin (· &&& ·) 15)), (15, some (s_iload 0 16)), (16, some (s_const (vI 2) 17)), (17, some (s_bin (fun x y => (x.toUInt32 >>> (y.toUInt32 &&& Int32.toUInt32 31)).toInt32) 18)), (18, some (s_const (vI 858993459) 21)), (21, some (s_bin (· &&& ·) 22)), (22, some (s_bin (· + ·) 23)), (23, some (s_istore 0 24)), (24, some (s_iload 0 25)), (25, some (s_iload 0 26)), (26, some (s_const (vI 4) 27)), (27, some (s_bin (fun x y => (x.toUInt32 >>> (y.toUInt32 &&& Int32.toUInt32 31)).toInt32) 28)), (28, some (s_bin (· + ·) 29)), (29, some (s_const (vI 252645135) 32)), (32, some (s_bin (· &&& ·) 33)), (33, some (s_istore 0 34)), (34, some (s_iload 0 35)), (35, some (s_iload 0 36)), (36, some (s_const (vI 8) 38)), (38, some (s_bin (fun x y => (x.toUInt32 >>> (y.toUInt32 &&& Int32.toUInt32 31)).toInt32) 39)), (39, some (s_bin (· + ·) 40)), (40, some (s_istore 0 41)), (41, some (s_iload 0 42)), (42, some (s_iload 0 43)), (43, some (s_const (vI 16) 45)), (45, some (s_bin (fun x y => (x.toUInt32 >>> (y.toUInt32 &&& Int32.toUInt32 31)).toInt32) 46)), (46, some (s_bin (· + ·) 47)), (47, some (s_istore 0 48)), (48, some (s_iload 0 49)), (49, some (s_const (vI 63) 51)), (51, some (s_bin (· &&& ·) 52)), (52, some (s_ret 0))]
set_option maxRecDepth 20000 in
theorem mt_J6_bitCount_0f7a4 : MonoT (T_J6_bitCount_0f7a4) := MA_mem (And.intro mono_iload (And.intro mono_iload (And.intro mono_const (And.intro mono_bin (And.intro mono_const (And.intro mono_bin (And.intro mono_bin (And.intro mono_istore (And.intro mono_iload (And.intro mono_const (And.intro mono_bin (And.intro mono_iload (And.intro mono_const (And.intro mono_bin (And.intro mono_const (And.intro mono_bin (And.intro mono_bin (And.intro mono_istore (And.intro mono_iload (And.intro mono_iload (And.intro mono_const (And.intro mono_bin (And.intro mono_bin (And.intro mono_const (And.intro mono_bin (And.intro mono_istore (And.intro mono_iload (And.intro mono_iload (And.intro mono_const (And.intro mono_bin (And.intro mono_bin (And.intro mono_istore (And.intro mono_iload (And.intro mono_iload (And.intro mono_const (And.intro mono_bin (And.intro mono_bin (And.intro mono_istore (And.intro mono_iload (And.intro mono_const (And.intro mono_bin (And.intro mono_ret trivial))))))))))))))))))))))))))))))))))))))))))
set_option maxRecDepth 20000 in
set_option maxHeartbeats 4000000 in
theorem snd_J6_bitCount_0f7a4 {l : Launch} {D : va_G} {cA : Nat → ClassId} {d : Nat} : Sound l D cA d 1 yJ6_bitCount_0f7a4 cJ6_bitCount_0f7a4 (some .int) [] (T_J6_bitCount_0f7a4) := by
  intro p e R s m args below meth c loc0 m0 r Q E hQ h0 hrt hnm htab
  exact SA_mem (And.intro (fun ls st mm h => so_iload_n E rfl dJ6_bitCount_0f7a4_0 h) (And.intro (fun ls st mm h => so_iload_n E rfl dJ6_bitCount_0f7a4_1 h) (And.intro (fun ls st mm h => so_iconst E (by decide) dJ6_bitCount_0f7a4_2 h) (And.intro (fun ls st mm h => so_iushr E dJ6_bitCount_0f7a4_3 h) (And.intro (fun ls st mm h => so_ldcw E tw_t3_7 dJ6_bitCount_0f7a4_4 h) (And.intro (fun ls st mm h => so_iand E dJ6_bitCount_0f7a4_7 h) (And.intro (fun ls st mm h => so_isub E dJ6_bitCount_0f7a4_8 h) (And.intro (fun ls st mm h => so_istore_n E rfl dJ6_bitCount_0f7a4_9 h) (And.intro (fun ls st mm h => so_iload_n E rfl dJ6_bitCount_0f7a4_10 h) (And.intro (fun ls st mm h => so_ldcw E tw_t3_8 dJ6_bitCount_0f7a4_11 h) (And.intro (fun ls st mm h => so_iand E dJ6_bitCount_0f7a4_14 h) (And.intro (fun ls st mm h => so_iload_n E rfl dJ6_bitCount_0f7a4_15 h) (And.intro (fun ls st mm h => so_iconst E (by decide) dJ6_bitCount_0f7a4_16 h) (And.intro (fun ls st mm h => so_iushr E dJ6_bitCount_0f7a4_17 h) (And.intro (fun ls st mm h => so_ldcw E tw_t3_8 dJ6_bitCount_0f7a4_18 h) (And.intro (fun ls st mm h => so_iand E dJ6_bitCount_0f7a4_21 h) (And.intro (fun ls st mm h => so_iadd E dJ6_bitCount_0f7a4_22 h) (And.intro (fun ls st mm h => so_istore_n E rfl dJ6_bitCount_0f7a4_23 h) (And.intro (fun ls st mm h => so_iload_n E rfl dJ6_bitCount_0f7a4_24 h) (And.intro (fun ls st mm h => so_iload_n E rfl dJ6_bitCount_0f7a4_25 h) (And.intro (fun ls st mm h => so_iconst E (by decide) dJ6_bitCount_0f7a4_26 h) (And.intro (fun ls st mm h => so_iushr E dJ6_bitCount_0f7a4_27 h) (And.intro (fun ls st mm h => so_iadd E dJ6_bitCount_0f7a4_28 h) (And.intro (fun ls st mm h => so_ldcw E tw_t3_9 dJ6_bitCount_0f7a4_29 h) (And.intro (fun ls st mm h => so_iand E dJ6_bitCount_0f7a4_32 h) (And.intro (fun ls st mm h => so_istore_n E rfl dJ6_bitCount_0f7a4_33 h) (And.intro (fun ls st mm h => so_iload_n E rfl dJ6_bitCount_0f7a4_34 h) (And.intro (fun ls st mm h => so_iload_n E rfl dJ6_bitCount_0f7a4_35 h) (And.intro (fun ls st mm h => so_bipush E (by decide) dJ6_bitCount_0f7a4_36 h) (And.intro (fun ls st mm h => so_iushr E dJ6_bitCount_0f7a4_38 h) (And.intro (fun ls st mm h => so_iadd E dJ6_bitCount_0f7a4_39 h) (And.intro (fun ls st mm h => so_istore_n E rfl dJ6_bitCount_0f7a4_40 h) (And.intro (fun ls st mm h => so_iload_n E rfl dJ6_bitCount_0f7a4_41 h) (And.intro (fun ls st mm h => so_iload_n E rfl dJ6_bitCount_0f7a4_42 h) (And.intro (fun ls st mm h => so_bipush E (by decide) dJ6_bitCount_0f7a4_43 h) (And.intro (fun ls st mm h => so_iushr E dJ6_bitCount_0f7a4_45 h) (And.intro (fun ls st mm h => so_iadd E dJ6_bitCount_0f7a4_46 h) (And.intro (fun ls st mm h => so_istore_n E rfl dJ6_bitCount_0f7a4_47 h) (And.intro (fun ls st mm h => so_iload_n E rfl dJ6_bitCount_0f7a4_48 h) (And.intro (fun ls st mm h => so_bipush E (by decide) dJ6_bitCount_0f7a4_49 h) (And.intro (fun ls st mm h => so_iand E dJ6_bitCount_0f7a4_51 h) (And.intro (fun ls st mm h => so_ireturn E hQ rfl (fun _ h => h) h0 (ty := .int) hrt (Or.inl ⟨rfl, rfl⟩) dJ6_bitCount_0f7a4_52 h) (trivial)))))))))))))))))))))))))))))))))))))))))))
theorem dJ9_max_7cf53_0 : decode cJ9_max_7cf53 0 = .ok (.iload_n 0, 1) := by decide +kernel
theorem dJ9_max_7cf53_1 : decode cJ9_max_7cf53 1 = .ok (.iload_n 1, 1) := by decide +kernel
theorem dJ9_max_7cf53_2 : decode cJ9_max_7cf53 2 = .ok (.if_icmp .lt 7, 3) := by decide +kernel
theorem dJ9_max_7cf53_5 : decode cJ9_max_7cf53 5 = .ok (.iload_n 0, 1) := by decide +kernel
theorem dJ9_max_7cf53_6 : decode cJ9_max_7cf53 6 = .ok (.goto 4, 3) := by decide +kernel
theorem dJ9_max_7cf53_9 : decode cJ9_max_7cf53 9 = .ok (.iload_n 1, 1) := by decide +kernel
theorem dJ9_max_7cf53_10 : decode cJ9_max_7cf53 10 = .ok (.ireturn, 1) := by decide +kernel
def T_J9_max_7cf53 : ab_T := [(0, some (s_iload 0 1)), (1, some (s_iload 1 2)), (2, some (s_cmplt 9 5)), (5, some (s_iload 0 6)), (6, some (s_goto 10)), (9, some (s_iload 1 10)), (10, some (s_ret 0))]
set_option maxRecDepth 20000 in
theorem mt_J9_max_7cf53 : MonoT (T_J9_max_7cf53) := MA_mem (And.intro mono_iload (And.intro mono_iload (And.intro mono_cmplt (And.intro mono_iload (And.intro mono_goto (And.intro mono_iload (And.intro mono_ret trivial)))))))
set_option maxRecDepth 20000 in
set_option maxHeartbeats 4000000 in
theorem snd_J9_max_7cf53 {l : Launch} {D : va_G} {cA : Nat → ClassId} {d : Nat} : Sound l D cA d 2 yJ9_max_7cf53 cJ9_max_7cf53 (some .int) [] (T_J9_max_7cf53) := by
  intro p e R s m args below meth c loc0 m0 r Q E hQ h0 hrt hnm htab
  exact SA_mem (And.intro (fun ls st mm h => so_iload_n E rfl dJ9_max_7cf53_0 h) (And.intro (fun ls st mm h => so_iload_n E rfl dJ9_max_7cf53_1 h) (And.intro (fun ls st mm h => so_icmplt E (tgt := 9) (by decide) dJ9_max_7cf53_2 h) (And.intro (fun ls st mm h => so_iload_n E rfl dJ9_max_7cf53_5 h) (And.intro (fun ls st mm h => so_goto E (tgt := 10) (by decide) dJ9_max_7cf53_6 h) (And.intro (fun ls st mm h => so_iload_n E rfl dJ9_max_7cf53_9 h) (And.intro (fun ls st mm h => so_ireturn E hQ rfl (fun _ h => h) h0 (ty := .int) hrt (Or.inl ⟨rfl, rfl⟩) dJ9_max_7cf53_10 h) (trivial))))))))
theorem dJ9_min_7cf53_0 : decode cJ9_min_7cf53 0 = .ok (.iload_n 0, 1) := by decide +kernel
theorem dJ9_min_7cf53_1 : decode cJ9_min_7cf53 1 = .ok (.iload_n 1, 1) := by decide +kernel
theorem dJ9_min_7cf53_2 : decode cJ9_min_7cf53 2 = .ok (.if_icmp .gt 7, 3) := by decide +kernel
theorem dJ9_min_7cf53_5 : decode cJ9_min_7cf53 5 = .ok (.iload_n 0, 1) := by decide +kernel
theorem dJ9_min_7cf53_6 : decode cJ9_min_7cf53 6 = .ok (.goto 4, 3) := by decide +kernel
theorem dJ9_min_7cf53_9 : decode cJ9_min_7cf53 9 = .ok (.iload_n 1, 1) := by decide +kernel
theorem dJ9_min_7cf53_10 : decode cJ9_min_7cf53 10 = .ok (.ireturn, 1) := by decide +kernel
def T_J9_min_7cf53 : ab_T := [(0, some (s_iload 0 1)), (1, some (s_iload 1 2)), (2, some (s_cmpgt 9 5)), (5, some (s_iload 0 6)), (6, some (s_goto 10)), (9, some (s_iload 1 10)), (10, some (s_ret 0))]
set_option maxRecDepth 20000 in
theorem mt_J9_min_7cf53 : MonoT (T_J9_min_7cf53) := MA_mem (And.intro mono_iload (And.intro mono_iload (And.intro mono_cmpgt (And.intro mono_iload (And.intro mono_goto (And.intro mono_iload (And.intro mono_ret trivial)))))))
set_option maxRecDepth 20000 in
set_option maxHeartbeats 4000000 in
theorem snd_J9_min_7cf53 {l : Launch} {D : va_G} {cA : Nat → ClassId} {d : Nat} : Sound l D cA d 2 yJ9_min_7cf53 cJ9_min_7cf53 (some .int) [] (T_J9_min_7cf53) := by
  intro p e R s m args below meth c loc0 m0 r Q E hQ h0 hrt hnm htab
  exact SA_mem (And.intro (fun ls st mm h => so_iload_n E rfl dJ9_min_7cf53_0 h) (And.intro (fun ls st mm h => so_iload_n E rfl dJ9_min_7cf53_1 h) (And.intro (fun ls st mm h => so_icmpgt E (tgt := 9) (by decide) dJ9_min_7cf53_2 h) (And.intro (fun ls st mm h => so_iload_n E rfl dJ9_min_7cf53_5 h) (And.intro (fun ls st mm h => so_goto E (tgt := 10) (by decide) dJ9_min_7cf53_6 h) (And.intro (fun ls st mm h => so_iload_n E rfl dJ9_min_7cf53_9 h) (And.intro (fun ls st mm h => so_ireturn E hQ rfl (fun _ h => h) h0 (ty := .int) hrt (Or.inl ⟨rfl, rfl⟩) dJ9_min_7cf53_10 h) (trivial))))))))
