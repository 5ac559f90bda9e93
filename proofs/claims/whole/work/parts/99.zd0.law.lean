/-! the law: p h c0 c1 c2 c3 -/
theorem dL_law_0 : decode cL_law 0 = .ok (.new 8, 3) := by decide +kernel
theorem dL_law_3 : decode cL_law 3 = .ok (.dup, 1) := by decide +kernel
theorem dL_law_4 : decode cL_law 4 = .ok (.invokespecial 105, 3) := by decide +kernel
theorem dL_law_7 : decode cL_law 7 = .ok (.astore_n 1, 1) := by decide +kernel
theorem dL_law_8 : decode cL_law 8 = .ok (.new 106, 3) := by decide +kernel
theorem dL_law_11 : decode cL_law 11 = .ok (.dup, 1) := by decide +kernel
theorem dL_law_12 : decode cL_law 12 = .ok (.invokespecial 108, 3) := by decide +kernel
theorem dL_law_15 : decode cL_law 15 = .ok (.astore_n 2, 1) := by decide +kernel
theorem dL_law_16 : decode cL_law 16 = .ok (.iconst 1, 1) := by decide +kernel
theorem dL_law_17 : decode cL_law 17 = .ok (.newarray .long, 2) := by decide +kernel
theorem dL_law_19 : decode cL_law 19 = .ok (.astore_n 3, 1) := by decide +kernel
theorem dL_law_20 : decode cL_law 20 = .ok (.iconst 1, 1) := by decide +kernel
theorem dL_law_21 : decode cL_law 21 = .ok (.newarray .double, 2) := by decide +kernel
theorem dL_law_23 : decode cL_law 23 = .ok (.astore 4, 2) := by decide +kernel
theorem dL_law_25 : decode cL_law 25 = .ok (.iconst 0, 1) := by decide +kernel
theorem dL_law_26 : decode cL_law 26 = .ok (.istore 5, 2) := by decide +kernel
def T_L_law_p (sp_X6_init sp_X9_init : List ab_V → ab_M → ab_O) : ab_T := [(0, some (s_new 61 3)), (3, some (s_dup 4)), (4, some (s_call 8 sp_X6_init 1 [] 7)), (7, some (s_astore 1 8)), (8, some (s_new 62 11)), (11, some (s_dup 12)), (12, some (s_call 11 sp_X9_init 1 [] 15)), (15, some (s_astore 2 16)), (16, some (s_const (vI 1) 17)), (17, some (s_newa 63 19)), (19, some (s_astore 3 20)), (20, some (s_const (vI 1) 21)), (21, some (s_newa 64 23)), (23, some (s_astore 4 25)), (25, some (s_const (vI 0) 26)), (26, some (s_istore 5 28))]
set_option maxRecDepth 20000 in
theorem mt_L_law_p {sp_X6_init sp_X9_init : List ab_V → ab_M → ab_O} : MonoT (T_L_law_p sp_X6_init sp_X9_init) := MA_mem (And.intro mono_new (And.intro mono_dup (And.intro mono_call (And.intro mono_astore (And.intro mono_new (And.intro mono_dup (And.intro mono_call (And.intro mono_astore (And.intro mono_const (And.intro mono_newa (And.intro mono_astore (And.intro mono_const (And.intro mono_newa (And.intro mono_astore (And.intro mono_const (And.intro mono_istore trivial))))))))))))))))
set_option maxRecDepth 20000 in
set_option maxHeartbeats 4000000 in
theorem snd_L_law_p {l : Launch} {D : va_G} {cA : Nat → ClassId} {d : Nat} {sp_X6_init sp_X9_init : List ab_V → ab_M → ab_O} {d' : Nat} (hd9 : d' + 1 ≤ d) (hC_X6_init : ∀ as m, Ctr l D cA d' yX6_init (Cond.code yX6_init cX6_init 1 none :: TB) as m (sp_X6_init as m)) (hC_X9_init : ∀ as m, Ctr l D cA d' yX9_init (Cond.code yX9_init cX9_init 1 none :: TB) as m (sp_X9_init as m)) : Sound l D cA d 9 yL_law cL_law (some .boolean) [] (T_L_law_p sp_X6_init sp_X9_init) := by
  intro p e R s m args below meth c loc0 m0 r Q E hQ h0 hrt hnm htab
  exact SA_mem (And.intro (fun ls st mm h => so_new E (t := 61) (C := RX6) (T := TX6) (N := 11) (ck := 8) rfl rfl (by decide) tu_X6 tyX6 tyX6_ok dv_X6 rfl tw_t1_28 tw_t1_29 tw_t1_1 dL_law_0 h) (And.intro (fun ls st mm h => so_dup E dL_law_3 h) (And.intro (fun ls st mm h => so_callI E hQ rfl (fun _ h => h) h0 (idx := 105) (by decide) (by decide) rfl rfl hd9 (by decide) hC_X6_init (hd_nil htab) tw_t1_30 tw_t1_31 tw_t1_1 tw_t1_32 (by decide +kernel) dL_law_4 h) (And.intro (fun ls st mm h => so_astore_n E rfl dL_law_7 h) (And.intro (fun ls st mm h => so_new E (t := 62) (C := RX9) (T := TX9) (N := 10) (ck := 11) rfl rfl (by decide) tu_X9 tyX9 tyX9_ok dv_X9 rfl tw_t4_156 tw_t4_157 tw_t1_8 dL_law_8 h) (And.intro (fun ls st mm h => so_dup E dL_law_11 h) (And.intro (fun ls st mm h => so_callI E hQ rfl (fun _ h => h) h0 (idx := 108) (by decide) (by decide) rfl rfl hd9 (by decide) hC_X9_init (hd_nil htab) tw_t4_158 tw_t4_159 tw_t1_8 tw_t4_160 (by decide +kernel) dL_law_12 h) (And.intro (fun ls st mm h => so_astore_n E rfl dL_law_15 h) (And.intro (fun ls st mm h => so_iconst E (by decide) dL_law_16 h) (And.intro (fun ls st mm h => so_newa102 E (t := 63) rfl tw_t6_238 dL_law_17 h) (And.intro (fun ls st mm h => so_astore_n E rfl dL_law_19 h) (And.intro (fun ls st mm h => so_iconst E (by decide) dL_law_20 h) (And.intro (fun ls st mm h => so_newa103 E (t := 64) rfl tw_t6_239 dL_law_21 h) (And.intro (fun ls st mm h => so_astore E dL_law_23 h) (And.intro (fun ls st mm h => so_iconst E (by decide) dL_law_25 h) (And.intro (fun ls st mm h => so_istore E dL_law_26 h) (trivial)))))))))))))))))
theorem dL_law_28 : decode cL_law 28 = .ok (.iload 5, 2) := by decide +kernel
theorem dL_law_30 : decode cL_law 30 = .ok (.aload_n 0, 1) := by decide +kernel
theorem dL_law_31 : decode cL_law 31 = .ok (.arraylength, 1) := by decide +kernel
theorem dL_law_32 : decode cL_law 32 = .ok (.bipush 6, 2) := by decide +kernel
theorem dL_law_34 : decode cL_law 34 = .ok (.isub, 1) := by decide +kernel
theorem dL_law_35 : decode cL_law 35 = .ok (.if_icmp .gt 2104, 3) := by decide +kernel
theorem dL_law_38 : decode cL_law 38 = .ok (.aload_n 0, 1) := by decide +kernel
theorem dL_law_39 : decode cL_law 39 = .ok (.iload 5, 2) := by decide +kernel
theorem dL_law_41 : decode cL_law 41 = .ok (.iaload, 1) := by decide +kernel
theorem dL_law_42 : decode cL_law 42 = .ok (.bipush 31, 2) := by decide +kernel
theorem dL_law_44 : decode cL_law 44 = .ok (.iand, 1) := by decide +kernel
theorem dL_law_45 : decode cL_law 45 = .ok (.tableswitch 2088 0 27 #[127, 195, 251, 319, 375, 471, 539, 595, 651, 731, 806, 874, 942, 1046, 1114, 1198, 1301, 1369, 1437, 1533, 1601, 1669, 1737, 1793, 1870, 1950, 2018, 2074], 127) := by decide +kernel
def T_L_law_h : ab_T := [(28, some (s_iload 5 30)), (30, some (s_aload 0 31)), (31, some (s_alen 32)), (32, some (s_const (vI 6) 34)), (34, some (s_bin (· - ·) 35)), (35, some (s_cmpgt 2139 38)), (38, some (s_aload 0 39)), (39, some (s_iload 5 41)), (41, some (s_ald 100 42)), (42, some (s_const (vI 31) 44)), (44, some (s_bin (· &&& ·) 45)), (45, some (s_tab 0 27 [172, 240, 296, 364, 420, 516, 584, 640, 696, 776, 851, 919, 987, 1091, 1159, 1243, 1346, 1414, 1482, 1578, 1646, 1714, 1782, 1838, 1915, 1995, 2063, 2119] 2133))]
set_option maxRecDepth 20000 in
theorem mt_L_law_h : MonoT (T_L_law_h) := MA_mem (And.intro mono_iload (And.intro mono_aload (And.intro mono_alen (And.intro mono_const (And.intro mono_bin (And.intro mono_cmpgt (And.intro mono_aload (And.intro mono_iload (And.intro mono_ald (And.intro mono_const (And.intro mono_bin (And.intro mono_tab trivial))))))))))))
set_option maxRecDepth 20000 in
set_option maxHeartbeats 4000000 in
theorem snd_L_law_h {l : Launch} {D : va_G} {cA : Nat → ClassId} {d : Nat} : Sound l D cA d 9 yL_law cL_law (some .boolean) [] (T_L_law_h) := by
  intro p e R s m args below meth c loc0 m0 r Q E hQ h0 hrt hnm htab
  exact SA_mem (And.intro (fun ls st mm h => so_iload E dL_law_28 h) (And.intro (fun ls st mm h => so_aload_n E rfl dL_law_30 h) (And.intro (fun ls st mm h => so_alen E dL_law_31 sk6 h) (And.intro (fun ls st mm h => so_bipush E (by decide) dL_law_32 h) (And.intro (fun ls st mm h => so_isub E dL_law_34 h) (And.intro (fun ls st mm h => so_icmpgt E (tgt := 2139) (by decide) dL_law_35 h) (And.intro (fun ls st mm h => so_aload_n E rfl dL_law_38 h) (And.intro (fun ls st mm h => so_iload E dL_law_39 h) (And.intro (fun ls st mm h => so_iald E dL_law_41 h) (And.intro (fun ls st mm h => so_bipush E (by decide) dL_law_42 h) (And.intro (fun ls st mm h => so_iand E dL_law_44 h) (And.intro (fun ls st mm h => so_tab E (dt := 2133) (by decide) rfl (by decide +kernel) dL_law_45 h) (trivial)))))))))))))
theorem dL_law_172 : decode cL_law 172 = .ok (.aload_n 1, 1) := by decide +kernel
theorem dL_law_173 : decode cL_law 173 = .ok (.aload_n 0, 1) := by decide +kernel
theorem dL_law_174 : decode cL_law 174 = .ok (.iload 5, 2) := by decide +kernel
theorem dL_law_176 : decode cL_law 176 = .ok (.iconst 1, 1) := by decide +kernel
theorem dL_law_177 : decode cL_law 177 = .ok (.iadd, 1) := by decide +kernel
theorem dL_law_178 : decode cL_law 178 = .ok (.iaload, 1) := by decide +kernel
theorem dL_law_179 : decode cL_law 179 = .ok (.aload_n 0, 1) := by decide +kernel
theorem dL_law_180 : decode cL_law 180 = .ok (.iload 5, 2) := by decide +kernel
theorem dL_law_182 : decode cL_law 182 = .ok (.iconst 2, 1) := by decide +kernel
theorem dL_law_183 : decode cL_law 183 = .ok (.iadd, 1) := by decide +kernel
theorem dL_law_184 : decode cL_law 184 = .ok (.iaload, 1) := by decide +kernel
theorem dL_law_185 : decode cL_law 185 = .ok (.aload_n 3, 1) := by decide +kernel
theorem dL_law_186 : decode cL_law 186 = .ok (.invokestatic 109, 3) := by decide +kernel
theorem dL_law_189 : decode cL_law 189 = .ok (.istore 6, 2) := by decide +kernel
theorem dL_law_191 : decode cL_law 191 = .ok (.aload_n 2, 1) := by decide +kernel
theorem dL_law_192 : decode cL_law 192 = .ok (.aload_n 0, 1) := by decide +kernel
theorem dL_law_193 : decode cL_law 193 = .ok (.iload 5, 2) := by decide +kernel
theorem dL_law_195 : decode cL_law 195 = .ok (.iconst 1, 1) := by decide +kernel
theorem dL_law_196 : decode cL_law 196 = .ok (.iadd, 1) := by decide +kernel
theorem dL_law_197 : decode cL_law 197 = .ok (.iaload, 1) := by decide +kernel
theorem dL_law_198 : decode cL_law 198 = .ok (.aload_n 0, 1) := by decide +kernel
theorem dL_law_199 : decode cL_law 199 = .ok (.iload 5, 2) := by decide +kernel
theorem dL_law_201 : decode cL_law 201 = .ok (.iconst 2, 1) := by decide +kernel
theorem dL_law_202 : decode cL_law 202 = .ok (.iadd, 1) := by decide +kernel
theorem dL_law_203 : decode cL_law 203 = .ok (.iaload, 1) := by decide +kernel
theorem dL_law_204 : decode cL_law 204 = .ok (.invokevirtual 114, 3) := by decide +kernel
theorem dL_law_207 : decode cL_law 207 = .ok (.istore 7, 2) := by decide +kernel
theorem dL_law_209 : decode cL_law 209 = .ok (.aload_n 2, 1) := by decide +kernel
theorem dL_law_210 : decode cL_law 210 = .ok (.invokevirtual 115, 3) := by decide +kernel
theorem dL_law_213 : decode cL_law 213 = .ok (.iload 6, 2) := by decide +kernel
theorem dL_law_215 : decode cL_law 215 = .ok (.if_icmp .eq 5, 3) := by decide +kernel
theorem dL_law_218 : decode cL_law 218 = .ok (.iconst 0, 1) := by decide +kernel
theorem dL_law_219 : decode cL_law 219 = .ok (.ireturn, 1) := by decide +kernel
theorem dL_law_220 : decode cL_law 220 = .ok (.iload 6, 2) := by decide +kernel
theorem dL_law_222 : decode cL_law 222 = .ok (.ifCond .ne 15, 3) := by decide +kernel
theorem dL_law_225 : decode cL_law 225 = .ok (.aload_n 3, 1) := by decide +kernel
theorem dL_law_226 : decode cL_law 226 = .ok (.iconst 0, 1) := by decide +kernel
theorem dL_law_227 : decode cL_law 227 = .ok (.laload, 1) := by decide +kernel
theorem dL_law_228 : decode cL_law 228 = .ok (.iload 7, 2) := by decide +kernel
theorem dL_law_230 : decode cL_law 230 = .ok (.i2l, 1) := by decide +kernel
theorem dL_law_231 : decode cL_law 231 = .ok (.lcmp, 1) := by decide +kernel
theorem dL_law_232 : decode cL_law 232 = .ok (.ifCond .eq 5, 3) := by decide +kernel
theorem dL_law_235 : decode cL_law 235 = .ok (.iconst 0, 1) := by decide +kernel
theorem dL_law_236 : decode cL_law 236 = .ok (.ireturn, 1) := by decide +kernel
theorem dL_law_237 : decode cL_law 237 = .ok (.goto 1896, 3) := by decide +kernel
def T_L_law_c0 (sp_L_person sp_X9_person sp_X9_thrown : List ab_V → ab_M → ab_O) : ab_T := [(172, some (s_aload 1 173)), (173, some (s_aload 0 174)), (174, some (s_iload 5 176)), (176, some (s_const (vI 1) 177)), (177, some (s_bin (· + ·) 178)), (178, some (s_ald 100 179)), (179, some (s_aload 0 180)), (180, some (s_iload 5 182)), (182, some (s_const (vI 2) 183)), (183, some (s_bin (· + ·) 184)), (184, some (s_ald 100 185)), (185, some (s_aload 3 186)), (186, some (s_call 999 sp_L_person 4 [] 189)), (189, some (s_istore 6 191)), (191, some (s_aload 2 192)), (192, some (s_aload 0 193)), (193, some (s_iload 5 195)), (195, some (s_const (vI 1) 196)), (196, some (s_bin (· + ·) 197)), (197, some (s_ald 100 198)), (198, some (s_aload 0 199)), (199, some (s_iload 5 201)), (201, some (s_const (vI 2) 202)), (202, some (s_bin (· + ·) 203)), (203, some (s_ald 100 204)), (204, some (s_call 11 sp_X9_person 3 [] 207)), (207, some (s_istore 7 209)), (209, some (s_aload 2 210)), (210, some (s_call 11 sp_X9_thrown 1 [] 213)), (213, some (s_iload 6 215)), (215, some (s_cmpeq 220 218)), (218, some (s_const (vI 0) 219)), (219, some (s_ret 1)), (220, some (s_iload 6 222)), (222, some (s_ifeq 225 237)), (225, some (s_aload 3 226)), (226, some (s_const (vI 0) 227)), (227, some (s_lald 228)), (228, some (s_iload 7 230)), (230, some (s_i2l 231)), (231, some (s_lcmp 232)), (232, some (s_ifeq 237 235)), (235, some (s_const (vI 0) 236)), (236, some (s_ret 1)), (237, some (s_goto 2133))]
set_option maxRecDepth 20000 in
theorem mt_L_law_c0 {sp_L_person sp_X9_person sp_X9_thrown : List ab_V → ab_M → ab_O} : MonoT (T_L_law_c0 sp_L_person sp_X9_person sp_X9_thrown) := MA_mem (And.intro mono_aload (And.intro mono_aload (And.intro mono_iload (And.intro mono_const (And.intro mono_bin (And.intro mono_ald (And.intro mono_aload (And.intro mono_iload (And.intro mono_const (And.intro mono_bin (And.intro mono_ald (And.intro mono_aload (And.intro mono_call (And.intro mono_istore (And.intro mono_aload (And.intro mono_aload (And.intro mono_iload (And.intro mono_const (And.intro mono_bin (And.intro mono_ald (And.intro mono_aload (And.intro mono_iload (And.intro mono_const (And.intro mono_bin (And.intro mono_ald (And.intro mono_call (And.intro mono_istore (And.intro mono_aload (And.intro mono_call (And.intro mono_iload (And.intro mono_cmpeq (And.intro mono_const (And.intro mono_ret (And.intro mono_iload (And.intro mono_ifeq (And.intro mono_aload (And.intro mono_const (And.intro mono_lald (And.intro mono_iload (And.intro mono_i2l (And.intro mono_lcmp (And.intro mono_ifeq (And.intro mono_const (And.intro mono_ret (And.intro mono_goto trivial)))))))))))))))))))))))))))))))))))))))))))))
set_option maxRecDepth 20000 in
set_option maxHeartbeats 4000000 in
theorem snd_L_law_c0 {l : Launch} {D : va_G} {cA : Nat → ClassId} {d : Nat} {sp_L_person sp_X9_person sp_X9_thrown : List ab_V → ab_M → ab_O} {d' : Nat} (hd9 : d' + 1 ≤ d) (hC_L_person : ∀ as m, Ctr l D cA d' yL_person (Cond.codeWith yL_person cL_person 5 (some .int) [(0, 10, 13, 13), (0, 10, 17, 15)] :: TB) as m (sp_L_person as m)) (hC_X9_person : ∀ as m, Ctr l D cA d' yX9_person (Cond.code yX9_person cX9_person 6 (some .int) :: TB) as m (sp_X9_person as m)) (hC_X9_thrown : ∀ as m, Ctr l D cA d' yX9_thrown (Cond.code yX9_thrown cX9_thrown 1 (some .int) :: TB) as m (sp_X9_thrown as m)) : Sound l D cA d 9 yL_law cL_law (some .boolean) [] (T_L_law_c0 sp_L_person sp_X9_person sp_X9_thrown) := by
  intro p e R s m args below meth c loc0 m0 r Q E hQ h0 hrt hnm htab
  exact SA_mem (And.intro (fun ls st mm h => so_aload_n E rfl dL_law_172 h) (And.intro (fun ls st mm h => so_aload_n E rfl dL_law_173 h) (And.intro (fun ls st mm h => so_iload E dL_law_174 h) (And.intro (fun ls st mm h => so_iconst E (by decide) dL_law_176 h) (And.intro (fun ls st mm h => so_iadd E dL_law_177 h) (And.intro (fun ls st mm h => so_iald E dL_law_178 h) (And.intro (fun ls st mm h => so_aload_n E rfl dL_law_179 h) (And.intro (fun ls st mm h => so_iload E dL_law_180 h) (And.intro (fun ls st mm h => so_iconst E (by decide) dL_law_182 h) (And.intro (fun ls st mm h => so_iadd E dL_law_183 h) (And.intro (fun ls st mm h => so_iald E dL_law_184 h) (And.intro (fun ls st mm h => so_aload_n E rfl dL_law_185 h) (And.intro (fun ls st mm h => so_callSX E hQ rfl (fun _ h => h) h0 (idx := 109) hd9 (by decide) hC_L_person (hd_nil htab) tw_t3_88 tw_t3_89 tw_t1_0 tw_t3_90 (by decide +kernel) dL_law_186 h) (And.intro (fun ls st mm h => so_istore E dL_law_189 h) (And.intro (fun ls st mm h => so_aload_n E rfl dL_law_191 h) (And.intro (fun ls st mm h => so_aload_n E rfl dL_law_192 h) (And.intro (fun ls st mm h => so_iload E dL_law_193 h) (And.intro (fun ls st mm h => so_iconst E (by decide) dL_law_195 h) (And.intro (fun ls st mm h => so_iadd E dL_law_196 h) (And.intro (fun ls st mm h => so_iald E dL_law_197 h) (And.intro (fun ls st mm h => so_aload_n E rfl dL_law_198 h) (And.intro (fun ls st mm h => so_iload E dL_law_199 h) (And.intro (fun ls st mm h => so_iconst E (by decide) dL_law_201 h) (And.intro (fun ls st mm h => so_iadd E dL_law_202 h) (And.intro (fun ls st mm h => so_iald E dL_law_203 h) (And.intro (fun ls st mm h => so_callV E hQ rfl (fun _ h => h) h0 (idx := 114) (C := RX9) (T := TX9) (N := 10) rfl (by decide) (by decide) rfl hd9 (by decide) hC_X9_person (hd_nil htab) tw_t4_226 tw_t4_227 tw_t4_228 tw_t1_8 tw_t4_229 (by decide +kernel) dL_law_204 h) (And.intro (fun ls st mm h => so_istore E dL_law_207 h) (And.intro (fun ls st mm h => so_aload_n E rfl dL_law_209 h) (And.intro (fun ls st mm h => so_callV E hQ rfl (fun _ h => h) h0 (idx := 115) (C := RX9) (T := TX9) (N := 10) rfl (by decide) (by decide) rfl hd9 (by decide) hC_X9_thrown (hd_nil htab) tw_t4_222 tw_t4_223 tw_t4_224 tw_t1_8 tw_t4_225 (by decide +kernel) dL_law_210 h) (And.intro (fun ls st mm h => so_iload E dL_law_213 h) (And.intro (fun ls st mm h => so_icmpeq E (tgt := 220) (by decide) dL_law_215 h) (And.intro (fun ls st mm h => so_iconst E (by decide) dL_law_218 h) (And.intro (fun ls st mm h => so_ireturn E hQ rfl (fun _ h => h) h0 (ty := .boolean) hrt (Or.inr ⟨rfl, rfl⟩) dL_law_219 h) (And.intro (fun ls st mm h => so_iload E dL_law_220 h) (And.intro (fun ls st mm h => so_ifne E (tgt := 237) (by decide) dL_law_222 h) (And.intro (fun ls st mm h => so_aload_n E rfl dL_law_225 h) (And.intro (fun ls st mm h => so_iconst E (by decide) dL_law_226 h) (And.intro (fun ls st mm h => so_lald E dL_law_227 h) (And.intro (fun ls st mm h => so_iload E dL_law_228 h) (And.intro (fun ls st mm h => so_i2l E dL_law_230 h) (And.intro (fun ls st mm h => so_lcmp E dL_law_231 h) (And.intro (fun ls st mm h => so_ifeq E (tgt := 237) (by decide) dL_law_232 h) (And.intro (fun ls st mm h => so_iconst E (by decide) dL_law_235 h) (And.intro (fun ls st mm h => so_ireturn E hQ rfl (fun _ h => h) h0 (ty := .boolean) hrt (Or.inr ⟨rfl, rfl⟩) dL_law_236 h) (And.intro (fun ls st mm h => so_goto E (tgt := 2133) (by decide) dL_law_237 h) (trivial))))))))))))))))))))))))))))))))))))))))))))))
theorem dL_law_240 : decode cL_law 240 = .ok (.aload_n 1, 1) := by decide +kernel
theorem dL_law_241 : decode cL_law 241 = .ok (.aload_n 0, 1) := by decide +kernel
theorem dL_law_242 : decode cL_law 242 = .ok (.iload 5, 2) := by decide +kernel
theorem dL_law_244 : decode cL_law 244 = .ok (.iconst 1, 1) := by decide +kernel
theorem dL_law_245 : decode cL_law 245 = .ok (.iadd, 1) := by decide +kernel
theorem dL_law_246 : decode cL_law 246 = .ok (.iaload, 1) := by decide +kernel
theorem dL_law_247 : decode cL_law 247 = .ok (.aload_n 3, 1) := by decide +kernel
theorem dL_law_248 : decode cL_law 248 = .ok (.invokestatic 119, 3) := by decide +kernel
theorem dL_law_251 : decode cL_law 251 = .ok (.istore 6, 2) := by decide +kernel
theorem dL_law_253 : decode cL_law 253 = .ok (.aload_n 2, 1) := by decide +kernel
theorem dL_law_254 : decode cL_law 254 = .ok (.aload_n 0, 1) := by decide +kernel
theorem dL_law_255 : decode cL_law 255 = .ok (.iload 5, 2) := by decide +kernel
theorem dL_law_257 : decode cL_law 257 = .ok (.iconst 1, 1) := by decide +kernel
theorem dL_law_258 : decode cL_law 258 = .ok (.iadd, 1) := by decide +kernel
theorem dL_law_259 : decode cL_law 259 = .ok (.iaload, 1) := by decide +kernel
theorem dL_law_260 : decode cL_law 260 = .ok (.invokevirtual 122, 3) := by decide +kernel
theorem dL_law_263 : decode cL_law 263 = .ok (.istore 7, 2) := by decide +kernel
theorem dL_law_265 : decode cL_law 265 = .ok (.aload_n 2, 1) := by decide +kernel
theorem dL_law_266 : decode cL_law 266 = .ok (.invokevirtual 115, 3) := by decide +kernel
theorem dL_law_269 : decode cL_law 269 = .ok (.iload 6, 2) := by decide +kernel
theorem dL_law_271 : decode cL_law 271 = .ok (.if_icmp .eq 5, 3) := by decide +kernel
theorem dL_law_274 : decode cL_law 274 = .ok (.iconst 0, 1) := by decide +kernel
theorem dL_law_275 : decode cL_law 275 = .ok (.ireturn, 1) := by decide +kernel
theorem dL_law_276 : decode cL_law 276 = .ok (.iload 6, 2) := by decide +kernel
theorem dL_law_278 : decode cL_law 278 = .ok (.ifCond .ne 15, 3) := by decide +kernel
theorem dL_law_281 : decode cL_law 281 = .ok (.aload_n 3, 1) := by decide +kernel
theorem dL_law_282 : decode cL_law 282 = .ok (.iconst 0, 1) := by decide +kernel
theorem dL_law_283 : decode cL_law 283 = .ok (.laload, 1) := by decide +kernel
theorem dL_law_284 : decode cL_law 284 = .ok (.iload 7, 2) := by decide +kernel
theorem dL_law_286 : decode cL_law 286 = .ok (.i2l, 1) := by decide +kernel
theorem dL_law_287 : decode cL_law 287 = .ok (.lcmp, 1) := by decide +kernel
theorem dL_law_288 : decode cL_law 288 = .ok (.ifCond .eq 5, 3) := by decide +kernel
theorem dL_law_291 : decode cL_law 291 = .ok (.iconst 0, 1) := by decide +kernel
theorem dL_law_292 : decode cL_law 292 = .ok (.ireturn, 1) := by decide +kernel
theorem dL_law_293 : decode cL_law 293 = .ok (.goto 1840, 3) := by decide +kernel
def T_L_law_c1 (sp_L_give sp_X9_give sp_X9_thrown : List ab_V → ab_M → ab_O) : ab_T := [(240, some (s_aload 1 241)), (241, some (s_aload 0 242)), (242, some (s_iload 5 244)), (244, some (s_const (vI 1) 245)), (245, some (s_bin (· + ·) 246)), (246, some (s_ald 100 247)), (247, some (s_aload 3 248)), (248, some (s_call 999 sp_L_give 3 [] 251)), (251, some (s_istore 6 253)), (253, some (s_aload 2 254)), (254, some (s_aload 0 255)), (255, some (s_iload 5 257)), (257, some (s_const (vI 1) 258)), (258, some (s_bin (· + ·) 259)), (259, some (s_ald 100 260)), (260, some (s_call 11 sp_X9_give 2 [] 263)), (263, some (s_istore 7 265)), (265, some (s_aload 2 266)), (266, some (s_call 11 sp_X9_thrown 1 [] 269)), (269, some (s_iload 6 271)), (271, some (s_cmpeq 276 274)), (274, some (s_const (vI 0) 275)), (275, some (s_ret 1)), (276, some (s_iload 6 278)), (278, some (s_ifeq 281 293)), (281, some (s_aload 3 282)), (282, some (s_const (vI 0) 283)), (283, some (s_lald 284)), (284, some (s_iload 7 286)), (286, some (s_i2l 287)), (287, some (s_lcmp 288)), (288, some (s_ifeq 293 291)), (291, some (s_const (vI 0) 292)), (292, some (s_ret 1)), (293, some (s_goto 2133))]
set_option maxRecDepth 20000 in
theorem mt_L_law_c1 {sp_L_give sp_X9_give sp_X9_thrown : List ab_V → ab_M → ab_O} : MonoT (T_L_law_c1 sp_L_give sp_X9_give sp_X9_thrown) := MA_mem (And.intro mono_aload (And.intro mono_aload (And.intro mono_iload (And.intro mono_const (And.intro mono_bin (And.intro mono_ald (And.intro mono_aload (And.intro mono_call (And.intro mono_istore (And.intro mono_aload (And.intro mono_aload (And.intro mono_iload (And.intro mono_const (And.intro mono_bin (And.intro mono_ald (And.intro mono_call (And.intro mono_istore (And.intro mono_aload (And.intro mono_call (And.intro mono_iload (And.intro mono_cmpeq (And.intro mono_const (And.intro mono_ret (And.intro mono_iload (And.intro mono_ifeq (And.intro mono_aload (And.intro mono_const (And.intro mono_lald (And.intro mono_iload (And.intro mono_i2l (And.intro mono_lcmp (And.intro mono_ifeq (And.intro mono_const (And.intro mono_ret (And.intro mono_goto trivial)))))))))))))))))))))))))))))))))))
set_option maxRecDepth 20000 in
set_option maxHeartbeats 4000000 in
theorem snd_L_law_c1 {l : Launch} {D : va_G} {cA : Nat → ClassId} {d : Nat} {sp_L_give sp_X9_give sp_X9_thrown : List ab_V → ab_M → ab_O} {d' : Nat} (hd9 : d' + 1 ≤ d) (hC_L_give : ∀ as m, Ctr l D cA d' yL_give (Cond.codeWith yL_give cL_give 4 (some .int) [(0, 9, 12, 13), (0, 9, 15, 15)] :: TB) as m (sp_L_give as m)) (hC_X9_give : ∀ as m, Ctr l D cA d' yX9_give (Cond.code yX9_give cX9_give 4 (some .int) :: TB) as m (sp_X9_give as m)) (hC_X9_thrown : ∀ as m, Ctr l D cA d' yX9_thrown (Cond.code yX9_thrown cX9_thrown 1 (some .int) :: TB) as m (sp_X9_thrown as m)) : Sound l D cA d 9 yL_law cL_law (some .boolean) [] (T_L_law_c1 sp_L_give sp_X9_give sp_X9_thrown) := by
  intro p e R s m args below meth c loc0 m0 r Q E hQ h0 hrt hnm htab
  exact SA_mem (And.intro (fun ls st mm h => so_aload_n E rfl dL_law_240 h) (And.intro (fun ls st mm h => so_aload_n E rfl dL_law_241 h) (And.intro (fun ls st mm h => so_iload E dL_law_242 h) (And.intro (fun ls st mm h => so_iconst E (by decide) dL_law_244 h) (And.intro (fun ls st mm h => so_iadd E dL_law_245 h) (And.intro (fun ls st mm h => so_iald E dL_law_246 h) (And.intro (fun ls st mm h => so_aload_n E rfl dL_law_247 h) (And.intro (fun ls st mm h => so_callSX E hQ rfl (fun _ h => h) h0 (idx := 119) hd9 (by decide) hC_L_give (hd_nil htab) tw_t3_114 tw_t3_115 tw_t1_0 tw_t3_116 (by decide +kernel) dL_law_248 h) (And.intro (fun ls st mm h => so_istore E dL_law_251 h) (And.intro (fun ls st mm h => so_aload_n E rfl dL_law_253 h) (And.intro (fun ls st mm h => so_aload_n E rfl dL_law_254 h) (And.intro (fun ls st mm h => so_iload E dL_law_255 h) (And.intro (fun ls st mm h => so_iconst E (by decide) dL_law_257 h) (And.intro (fun ls st mm h => so_iadd E dL_law_258 h) (And.intro (fun ls st mm h => so_iald E dL_law_259 h) (And.intro (fun ls st mm h => so_callV E hQ rfl (fun _ h => h) h0 (idx := 122) (C := RX9) (T := TX9) (N := 10) rfl (by decide) (by decide) rfl hd9 (by decide) hC_X9_give (hd_nil htab) tw_t5_132 tw_t5_133 tw_t5_134 tw_t1_8 tw_t5_135 (by decide +kernel) dL_law_260 h) (And.intro (fun ls st mm h => so_istore E dL_law_263 h) (And.intro (fun ls st mm h => so_aload_n E rfl dL_law_265 h) (And.intro (fun ls st mm h => so_callV E hQ rfl (fun _ h => h) h0 (idx := 115) (C := RX9) (T := TX9) (N := 10) rfl (by decide) (by decide) rfl hd9 (by decide) hC_X9_thrown (hd_nil htab) tw_t4_222 tw_t4_223 tw_t4_224 tw_t1_8 tw_t4_225 (by decide +kernel) dL_law_266 h) (And.intro (fun ls st mm h => so_iload E dL_law_269 h) (And.intro (fun ls st mm h => so_icmpeq E (tgt := 276) (by decide) dL_law_271 h) (And.intro (fun ls st mm h => so_iconst E (by decide) dL_law_274 h) (And.intro (fun ls st mm h => so_ireturn E hQ rfl (fun _ h => h) h0 (ty := .boolean) hrt (Or.inr ⟨rfl, rfl⟩) dL_law_275 h) (And.intro (fun ls st mm h => so_iload E dL_law_276 h) (And.intro (fun ls st mm h => so_ifne E (tgt := 293) (by decide) dL_law_278 h) (And.intro (fun ls st mm h => so_aload_n E rfl dL_law_281 h) (And.intro (fun ls st mm h => so_iconst E (by decide) dL_law_282 h) (And.intro (fun ls st mm h => so_lald E dL_law_283 h) (And.intro (fun ls st mm h => so_iload E dL_law_284 h) (And.intro (fun ls st mm h => so_i2l E dL_law_286 h) (And.intro (fun ls st mm h => so_lcmp E dL_law_287 h) (And.intro (fun ls st mm h => so_ifeq E (tgt := 293) (by decide) dL_law_288 h) (And.intro (fun ls st mm h => so_iconst E (by decide) dL_law_291 h) (And.intro (fun ls st mm h => so_ireturn E hQ rfl (fun _ h => h) h0 (ty := .boolean) hrt (Or.inr ⟨rfl, rfl⟩) dL_law_292 h) (And.intro (fun ls st mm h => so_goto E (tgt := 2133) (by decide) dL_law_293 h) (trivial))))))))))))))))))))))))))))))))))))
theorem dL_law_296 : decode cL_law 296 = .ok (.aload_n 1, 1) := by decide +kernel
theorem dL_law_297 : decode cL_law 297 = .ok (.aload_n 0, 1) := by decide +kernel
theorem dL_law_298 : decode cL_law 298 = .ok (.iload 5, 2) := by decide +kernel
theorem dL_law_300 : decode cL_law 300 = .ok (.iconst 1, 1) := by decide +kernel
theorem dL_law_301 : decode cL_law 301 = .ok (.iadd, 1) := by decide +kernel
theorem dL_law_302 : decode cL_law 302 = .ok (.iaload, 1) := by decide +kernel
theorem dL_law_303 : decode cL_law 303 = .ok (.aload_n 0, 1) := by decide +kernel
theorem dL_law_304 : decode cL_law 304 = .ok (.iload 5, 2) := by decide +kernel
theorem dL_law_306 : decode cL_law 306 = .ok (.iconst 2, 1) := by decide +kernel
theorem dL_law_307 : decode cL_law 307 = .ok (.iadd, 1) := by decide +kernel
theorem dL_law_308 : decode cL_law 308 = .ok (.iaload, 1) := by decide +kernel
theorem dL_law_309 : decode cL_law 309 = .ok (.aload_n 3, 1) := by decide +kernel
theorem dL_law_310 : decode cL_law 310 = .ok (.invokestatic 123, 3) := by decide +kernel
theorem dL_law_313 : decode cL_law 313 = .ok (.istore 6, 2) := by decide +kernel
theorem dL_law_315 : decode cL_law 315 = .ok (.aload_n 2, 1) := by decide +kernel
theorem dL_law_316 : decode cL_law 316 = .ok (.aload_n 0, 1) := by decide +kernel
theorem dL_law_317 : decode cL_law 317 = .ok (.iload 5, 2) := by decide +kernel
theorem dL_law_319 : decode cL_law 319 = .ok (.iconst 1, 1) := by decide +kernel
theorem dL_law_320 : decode cL_law 320 = .ok (.iadd, 1) := by decide +kernel
theorem dL_law_321 : decode cL_law 321 = .ok (.iaload, 1) := by decide +kernel
theorem dL_law_322 : decode cL_law 322 = .ok (.aload_n 0, 1) := by decide +kernel
theorem dL_law_323 : decode cL_law 323 = .ok (.iload 5, 2) := by decide +kernel
theorem dL_law_325 : decode cL_law 325 = .ok (.iconst 2, 1) := by decide +kernel
theorem dL_law_326 : decode cL_law 326 = .ok (.iadd, 1) := by decide +kernel
theorem dL_law_327 : decode cL_law 327 = .ok (.iaload, 1) := by decide +kernel
theorem dL_law_328 : decode cL_law 328 = .ok (.invokevirtual 125, 3) := by decide +kernel
theorem dL_law_331 : decode cL_law 331 = .ok (.istore 7, 2) := by decide +kernel
theorem dL_law_333 : decode cL_law 333 = .ok (.aload_n 2, 1) := by decide +kernel
theorem dL_law_334 : decode cL_law 334 = .ok (.invokevirtual 115, 3) := by decide +kernel
theorem dL_law_337 : decode cL_law 337 = .ok (.iload 6, 2) := by decide +kernel
theorem dL_law_339 : decode cL_law 339 = .ok (.if_icmp .eq 5, 3) := by decide +kernel
theorem dL_law_342 : decode cL_law 342 = .ok (.iconst 0, 1) := by decide +kernel
theorem dL_law_343 : decode cL_law 343 = .ok (.ireturn, 1) := by decide +kernel
theorem dL_law_344 : decode cL_law 344 = .ok (.iload 6, 2) := by decide +kernel
theorem dL_law_346 : decode cL_law 346 = .ok (.ifCond .ne 15, 3) := by decide +kernel
theorem dL_law_349 : decode cL_law 349 = .ok (.aload_n 3, 1) := by decide +kernel
theorem dL_law_350 : decode cL_law 350 = .ok (.iconst 0, 1) := by decide +kernel
theorem dL_law_351 : decode cL_law 351 = .ok (.laload, 1) := by decide +kernel
theorem dL_law_352 : decode cL_law 352 = .ok (.iload 7, 2) := by decide +kernel
theorem dL_law_354 : decode cL_law 354 = .ok (.i2l, 1) := by decide +kernel
theorem dL_law_355 : decode cL_law 355 = .ok (.lcmp, 1) := by decide +kernel
theorem dL_law_356 : decode cL_law 356 = .ok (.ifCond .eq 5, 3) := by decide +kernel
theorem dL_law_359 : decode cL_law 359 = .ok (.iconst 0, 1) := by decide +kernel
theorem dL_law_360 : decode cL_law 360 = .ok (.ireturn, 1) := by decide +kernel
theorem dL_law_361 : decode cL_law 361 = .ok (.goto 1772, 3) := by decide +kernel
def T_L_law_c2 (sp_L_revoke sp_X9_revoke sp_X9_thrown : List ab_V → ab_M → ab_O) : ab_T := [(296, some (s_aload 1 297)), (297, some (s_aload 0 298)), (298, some (s_iload 5 300)), (300, some (s_const (vI 1) 301)), (301, some (s_bin (· + ·) 302)), (302, some (s_ald 100 303)), (303, some (s_aload 0 304)), (304, some (s_iload 5 306)), (306, some (s_const (vI 2) 307)), (307, some (s_bin (· + ·) 308)), (308, some (s_ald 100 309)), (309, some (s_aload 3 310)), (310, some (s_call 999 sp_L_revoke 4 [] 313)), (313, some (s_istore 6 315)), (315, some (s_aload 2 316)), (316, some (s_aload 0 317)), (317, some (s_iload 5 319)), (319, some (s_const (vI 1) 320)), (320, some (s_bin (· + ·) 321)), (321, some (s_ald 100 322)), (322, some (s_aload 0 323)), (323, some (s_iload 5 325)), (325, some (s_const (vI 2) 326)), (326, some (s_bin (· + ·) 327)), (327, some (s_ald 100 328)), (328, some (s_call 11 sp_X9_revoke 3 [] 331)), (331, some (s_istore 7 333)), (333, some (s_aload 2 334)), (334, some (s_call 11 sp_X9_thrown 1 [] 337)), (337, some (s_iload 6 339)), (339, some (s_cmpeq 344 342)), (342, some (s_const (vI 0) 343)), (343, some (s_ret 1)), (344, some (s_iload 6 346)), (346, some (s_ifeq 349 361)), (349, some (s_aload 3 350)), (350, some (s_const (vI 0) 351)), (351, some (s_lald 352)), (352, some (s_iload 7 354)), (354, some (s_i2l 355)), (355, some (s_lcmp 356)), (356, some (s_ifeq 361 359)), (359, some (s_const (vI 0) 360)), (360, some (s_ret 1)), (361, some (s_goto 2133))]
set_option maxRecDepth 20000 in
theorem mt_L_law_c2 {sp_L_revoke sp_X9_revoke sp_X9_thrown : List ab_V → ab_M → ab_O} : MonoT (T_L_law_c2 sp_L_revoke sp_X9_revoke sp_X9_thrown) := MA_mem (And.intro mono_aload (And.intro mono_aload (And.intro mono_iload (And.intro mono_const (And.intro mono_bin (And.intro mono_ald (And.intro mono_aload (And.intro mono_iload (And.intro mono_const (And.intro mono_bin (And.intro mono_ald (And.intro mono_aload (And.intro mono_call (And.intro mono_istore (And.intro mono_aload (And.intro mono_aload (And.intro mono_iload (And.intro mono_const (And.intro mono_bin (And.intro mono_ald (And.intro mono_aload (And.intro mono_iload (And.intro mono_const (And.intro mono_bin (And.intro mono_ald (And.intro mono_call (And.intro mono_istore (And.intro mono_aload (And.intro mono_call (And.intro mono_iload (And.intro mono_cmpeq (And.intro mono_const (And.intro mono_ret (And.intro mono_iload (And.intro mono_ifeq (And.intro mono_aload (And.intro mono_const (And.intro mono_lald (And.intro mono_iload (And.intro mono_i2l (And.intro mono_lcmp (And.intro mono_ifeq (And.intro mono_const (And.intro mono_ret (And.intro mono_goto trivial)))))))))))))))))))))))))))))))))))))))))))))
set_option maxRecDepth 20000 in
set_option maxHeartbeats 4000000 in
theorem snd_L_law_c2 {l : Launch} {D : va_G} {cA : Nat → ClassId} {d : Nat} {sp_L_revoke sp_X9_revoke sp_X9_thrown : List ab_V → ab_M → ab_O} {d' : Nat} (hd9 : d' + 1 ≤ d) (hC_L_revoke : ∀ as m, Ctr l D cA d' yL_revoke (Cond.codeWith yL_revoke cL_revoke 5 (some .int) [(0, 10, 13, 13), (0, 10, 17, 24), (0, 10, 21, 15)] :: TB) as m (sp_L_revoke as m)) (hC_X9_revoke : ∀ as m, Ctr l D cA d' yX9_revoke (Cond.code yX9_revoke cX9_revoke 6 (some .int) :: TB) as m (sp_X9_revoke as m)) (hC_X9_thrown : ∀ as m, Ctr l D cA d' yX9_thrown (Cond.code yX9_thrown cX9_thrown 1 (some .int) :: TB) as m (sp_X9_thrown as m)) : Sound l D cA d 9 yL_law cL_law (some .boolean) [] (T_L_law_c2 sp_L_revoke sp_X9_revoke sp_X9_thrown) := by
  intro p e R s m args below meth c loc0 m0 r Q E hQ h0 hrt hnm htab
  exact SA_mem (And.intro (fun ls st mm h => so_aload_n E rfl dL_law_296 h) (And.intro (fun ls st mm h => so_aload_n E rfl dL_law_297 h) (And.intro (fun ls st mm h => so_iload E dL_law_298 h) (And.intro (fun ls st mm h => so_iconst E (by decide) dL_law_300 h) (And.intro (fun ls st mm h => so_iadd E dL_law_301 h) (And.intro (fun ls st mm h => so_iald E dL_law_302 h) (And.intro (fun ls st mm h => so_aload_n E rfl dL_law_303 h) (And.intro (fun ls st mm h => so_iload E dL_law_304 h) (And.intro (fun ls st mm h => so_iconst E (by decide) dL_law_306 h) (And.intro (fun ls st mm h => so_iadd E dL_law_307 h) (And.intro (fun ls st mm h => so_iald E dL_law_308 h) (And.intro (fun ls st mm h => so_aload_n E rfl dL_law_309 h) (And.intro (fun ls st mm h => so_callSX E hQ rfl (fun _ h => h) h0 (idx := 123) hd9 (by decide) hC_L_revoke (hd_nil htab) tw_t3_130 tw_t3_131 tw_t1_0 tw_t3_132 (by decide +kernel) dL_law_310 h) (And.intro (fun ls st mm h => so_istore E dL_law_313 h) (And.intro (fun ls st mm h => so_aload_n E rfl dL_law_315 h) (And.intro (fun ls st mm h => so_aload_n E rfl dL_law_316 h) (And.intro (fun ls st mm h => so_iload E dL_law_317 h) (And.intro (fun ls st mm h => so_iconst E (by decide) dL_law_319 h) (And.intro (fun ls st mm h => so_iadd E dL_law_320 h) (And.intro (fun ls st mm h => so_iald E dL_law_321 h) (And.intro (fun ls st mm h => so_aload_n E rfl dL_law_322 h) (And.intro (fun ls st mm h => so_iload E dL_law_323 h) (And.intro (fun ls st mm h => so_iconst E (by decide) dL_law_325 h) (And.intro (fun ls st mm h => so_iadd E dL_law_326 h) (And.intro (fun ls st mm h => so_iald E dL_law_327 h) (And.intro (fun ls st mm h => so_callV E hQ rfl (fun _ h => h) h0 (idx := 125) (C := RX9) (T := TX9) (N := 10) rfl (by decide) (by decide) rfl hd9 (by decide) hC_X9_revoke (hd_nil htab) tw_t5_153 tw_t5_154 tw_t5_155 tw_t1_8 tw_t5_156 (by decide +kernel) dL_law_328 h) (And.intro (fun ls st mm h => so_istore E dL_law_331 h) (And.intro (fun ls st mm h => so_aload_n E rfl dL_law_333 h) (And.intro (fun ls st mm h => so_callV E hQ rfl (fun _ h => h) h0 (idx := 115) (C := RX9) (T := TX9) (N := 10) rfl (by decide) (by decide) rfl hd9 (by decide) hC_X9_thrown (hd_nil htab) tw_t4_222 tw_t4_223 tw_t4_224 tw_t1_8 tw_t4_225 (by decide +kernel) dL_law_334 h) (And.intro (fun ls st mm h => so_iload E dL_law_337 h) (And.intro (fun ls st mm h => so_icmpeq E (tgt := 344) (by decide) dL_law_339 h) (And.intro (fun ls st mm h => so_iconst E (by decide) dL_law_342 h) (And.intro (fun ls st mm h => so_ireturn E hQ rfl (fun _ h => h) h0 (ty := .boolean) hrt (Or.inr ⟨rfl, rfl⟩) dL_law_343 h) (And.intro (fun ls st mm h => so_iload E dL_law_344 h) (And.intro (fun ls st mm h => so_ifne E (tgt := 361) (by decide) dL_law_346 h) (And.intro (fun ls st mm h => so_aload_n E rfl dL_law_349 h) (And.intro (fun ls st mm h => so_iconst E (by decide) dL_law_350 h) (And.intro (fun ls st mm h => so_lald E dL_law_351 h) (And.intro (fun ls st mm h => so_iload E dL_law_352 h) (And.intro (fun ls st mm h => so_i2l E dL_law_354 h) (And.intro (fun ls st mm h => so_lcmp E dL_law_355 h) (And.intro (fun ls st mm h => so_ifeq E (tgt := 361) (by decide) dL_law_356 h) (And.intro (fun ls st mm h => so_iconst E (by decide) dL_law_359 h) (And.intro (fun ls st mm h => so_ireturn E hQ rfl (fun _ h => h) h0 (ty := .boolean) hrt (Or.inr ⟨rfl, rfl⟩) dL_law_360 h) (And.intro (fun ls st mm h => so_goto E (tgt := 2133) (by decide) dL_law_361 h) (trivial))))))))))))))))))))))))))))))))))))))))))))))
theorem dL_law_364 : decode cL_law 364 = .ok (.aload_n 1, 1) := by decide +kernel
theorem dL_law_365 : decode cL_law 365 = .ok (.aload_n 0, 1) := by decide +kernel
theorem dL_law_366 : decode cL_law 366 = .ok (.iload 5, 2) := by decide +kernel
theorem dL_law_368 : decode cL_law 368 = .ok (.iconst 1, 1) := by decide +kernel
theorem dL_law_369 : decode cL_law 369 = .ok (.iadd, 1) := by decide +kernel
theorem dL_law_370 : decode cL_law 370 = .ok (.iaload, 1) := by decide +kernel
theorem dL_law_371 : decode cL_law 371 = .ok (.aload_n 3, 1) := by decide +kernel
theorem dL_law_372 : decode cL_law 372 = .ok (.invokestatic 126, 3) := by decide +kernel
theorem dL_law_375 : decode cL_law 375 = .ok (.istore 6, 2) := by decide +kernel
theorem dL_law_377 : decode cL_law 377 = .ok (.aload_n 2, 1) := by decide +kernel
theorem dL_law_378 : decode cL_law 378 = .ok (.aload_n 0, 1) := by decide +kernel
theorem dL_law_379 : decode cL_law 379 = .ok (.iload 5, 2) := by decide +kernel
theorem dL_law_381 : decode cL_law 381 = .ok (.iconst 1, 1) := by decide +kernel
theorem dL_law_382 : decode cL_law 382 = .ok (.iadd, 1) := by decide +kernel
theorem dL_law_383 : decode cL_law 383 = .ok (.iaload, 1) := by decide +kernel
theorem dL_law_384 : decode cL_law 384 = .ok (.invokevirtual 128, 3) := by decide +kernel
theorem dL_law_387 : decode cL_law 387 = .ok (.istore 7, 2) := by decide +kernel
theorem dL_law_389 : decode cL_law 389 = .ok (.aload_n 2, 1) := by decide +kernel
theorem dL_law_390 : decode cL_law 390 = .ok (.invokevirtual 115, 3) := by decide +kernel
theorem dL_law_393 : decode cL_law 393 = .ok (.iload 6, 2) := by decide +kernel
theorem dL_law_395 : decode cL_law 395 = .ok (.if_icmp .eq 5, 3) := by decide +kernel
theorem dL_law_398 : decode cL_law 398 = .ok (.iconst 0, 1) := by decide +kernel
theorem dL_law_399 : decode cL_law 399 = .ok (.ireturn, 1) := by decide +kernel
theorem dL_law_400 : decode cL_law 400 = .ok (.iload 6, 2) := by decide +kernel
theorem dL_law_402 : decode cL_law 402 = .ok (.ifCond .ne 15, 3) := by decide +kernel
theorem dL_law_405 : decode cL_law 405 = .ok (.aload_n 3, 1) := by decide +kernel
theorem dL_law_406 : decode cL_law 406 = .ok (.iconst 0, 1) := by decide +kernel
theorem dL_law_407 : decode cL_law 407 = .ok (.laload, 1) := by decide +kernel
theorem dL_law_408 : decode cL_law 408 = .ok (.iload 7, 2) := by decide +kernel
theorem dL_law_410 : decode cL_law 410 = .ok (.i2l, 1) := by decide +kernel
theorem dL_law_411 : decode cL_law 411 = .ok (.lcmp, 1) := by decide +kernel
theorem dL_law_412 : decode cL_law 412 = .ok (.ifCond .eq 5, 3) := by decide +kernel
theorem dL_law_415 : decode cL_law 415 = .ok (.iconst 0, 1) := by decide +kernel
theorem dL_law_416 : decode cL_law 416 = .ok (.ireturn, 1) := by decide +kernel
theorem dL_law_417 : decode cL_law 417 = .ok (.goto 1716, 3) := by decide +kernel
def T_L_law_c3 (sp_L_die sp_X9_die sp_X9_thrown : List ab_V → ab_M → ab_O) : ab_T := [(364, some (s_aload 1 365)), (365, some (s_aload 0 366)), (366, some (s_iload 5 368)), (368, some (s_const (vI 1) 369)), (369, some (s_bin (· + ·) 370)), (370, some (s_ald 100 371)), (371, some (s_aload 3 372)), (372, some (s_call 999 sp_L_die 3 [] 375)), (375, some (s_istore 6 377)), (377, some (s_aload 2 378)), (378, some (s_aload 0 379)), (379, some (s_iload 5 381)), (381, some (s_const (vI 1) 382)), (382, some (s_bin (· + ·) 383)), (383, some (s_ald 100 384)), (384, some (s_call 11 sp_X9_die 2 [] 387)), (387, some (s_istore 7 389)), (389, some (s_aload 2 390)), (390, some (s_call 11 sp_X9_thrown 1 [] 393)), (393, some (s_iload 6 395)), (395, some (s_cmpeq 400 398)), (398, some (s_const (vI 0) 399)), (399, some (s_ret 1)), (400, some (s_iload 6 402)), (402, some (s_ifeq 405 417)), (405, some (s_aload 3 406)), (406, some (s_const (vI 0) 407)), (407, some (s_lald 408)), (408, some (s_iload 7 410)), (410, some (s_i2l 411)), (411, some (s_lcmp 412)), (412, some (s_ifeq 417 415)), (415, some (s_const (vI 0) 416)), (416, some (s_ret 1)), (417, some (s_goto 2133))]
set_option maxRecDepth 20000 in
theorem mt_L_law_c3 {sp_L_die sp_X9_die sp_X9_thrown : List ab_V → ab_M → ab_O} : MonoT (T_L_law_c3 sp_L_die sp_X9_die sp_X9_thrown) := MA_mem (And.intro mono_aload (And.intro mono_aload (And.intro mono_iload (And.intro mono_const (And.intro mono_bin (And.intro mono_ald (And.intro mono_aload (And.intro mono_call (And.intro mono_istore (And.intro mono_aload (And.intro mono_aload (And.intro mono_iload (And.intro mono_const (And.intro mono_bin (And.intro mono_ald (And.intro mono_call (And.intro mono_istore (And.intro mono_aload (And.intro mono_call (And.intro mono_iload (And.intro mono_cmpeq (And.intro mono_const (And.intro mono_ret (And.intro mono_iload (And.intro mono_ifeq (And.intro mono_aload (And.intro mono_const (And.intro mono_lald (And.intro mono_iload (And.intro mono_i2l (And.intro mono_lcmp (And.intro mono_ifeq (And.intro mono_const (And.intro mono_ret (And.intro mono_goto trivial)))))))))))))))))))))))))))))))))))
set_option maxRecDepth 20000 in
set_option maxHeartbeats 4000000 in
theorem snd_L_law_c3 {l : Launch} {D : va_G} {cA : Nat → ClassId} {d : Nat} {sp_L_die sp_X9_die sp_X9_thrown : List ab_V → ab_M → ab_O} {d' : Nat} (hd9 : d' + 1 ≤ d) (hC_L_die : ∀ as m, Ctr l D cA d' yL_die (Cond.codeWith yL_die cL_die 4 (some .int) [(0, 9, 12, 13), (0, 9, 15, 15)] :: TB) as m (sp_L_die as m)) (hC_X9_die : ∀ as m, Ctr l D cA d' yX9_die (Cond.code yX9_die cX9_die 7 (some .int) :: TB) as m (sp_X9_die as m)) (hC_X9_thrown : ∀ as m, Ctr l D cA d' yX9_thrown (Cond.code yX9_thrown cX9_thrown 1 (some .int) :: TB) as m (sp_X9_thrown as m)) : Sound l D cA d 9 yL_law cL_law (some .boolean) [] (T_L_law_c3 sp_L_die sp_X9_die sp_X9_thrown) := by
  intro p e R s m args below meth c loc0 m0 r Q E hQ h0 hrt hnm htab
  exact SA_mem (And.intro (fun ls st mm h => so_aload_n E rfl dL_law_364 h) (And.intro (fun ls st mm h => so_aload_n E rfl dL_law_365 h) (And.intro (fun ls st mm h => so_iload E dL_law_366 h) (And.intro (fun ls st mm h => so_iconst E (by decide) dL_law_368 h) (And.intro (fun ls st mm h => so_iadd E dL_law_369 h) (And.intro (fun ls st mm h => so_iald E dL_law_370 h) (And.intro (fun ls st mm h => so_aload_n E rfl dL_law_371 h) (And.intro (fun ls st mm h => so_callSX E hQ rfl (fun _ h => h) h0 (idx := 126) hd9 (by decide) hC_L_die (hd_nil htab) tw_t3_143 tw_t3_144 tw_t1_0 tw_t3_145 (by decide +kernel) dL_law_372 h) (And.intro (fun ls st mm h => so_istore E dL_law_375 h) (And.intro (fun ls st mm h => so_aload_n E rfl dL_law_377 h) (And.intro (fun ls st mm h => so_aload_n E rfl dL_law_378 h) (And.intro (fun ls st mm h => so_iload E dL_law_379 h) (And.intro (fun ls st mm h => so_iconst E (by decide) dL_law_381 h) (And.intro (fun ls st mm h => so_iadd E dL_law_382 h) (And.intro (fun ls st mm h => so_iald E dL_law_383 h) (And.intro (fun ls st mm h => so_callV E hQ rfl (fun _ h => h) h0 (idx := 128) (C := RX9) (T := TX9) (N := 10) rfl (by decide) (by decide) rfl hd9 (by decide) hC_X9_die (hd_nil htab) tw_t5_169 tw_t5_170 tw_t5_171 tw_t1_8 tw_t5_172 (by decide +kernel) dL_law_384 h) (And.intro (fun ls st mm h => so_istore E dL_law_387 h) (And.intro (fun ls st mm h => so_aload_n E rfl dL_law_389 h) (And.intro (fun ls st mm h => so_callV E hQ rfl (fun _ h => h) h0 (idx := 115) (C := RX9) (T := TX9) (N := 10) rfl (by decide) (by decide) rfl hd9 (by decide) hC_X9_thrown (hd_nil htab) tw_t4_222 tw_t4_223 tw_t4_224 tw_t1_8 tw_t4_225 (by decide +kernel) dL_law_390 h) (And.intro (fun ls st mm h => so_iload E dL_law_393 h) (And.intro (fun ls st mm h => so_icmpeq E (tgt := 400) (by decide) dL_law_395 h) (And.intro (fun ls st mm h => so_iconst E (by decide) dL_law_398 h) (And.intro (fun ls st mm h => so_ireturn E hQ rfl (fun _ h => h) h0 (ty := .boolean) hrt (Or.inr ⟨rfl, rfl⟩) dL_law_399 h) (And.intro (fun ls st mm h => so_iload E dL_law_400 h) (And.intro (fun ls st mm h => so_ifne E (tgt := 417) (by decide) dL_law_402 h) (And.intro (fun ls st mm h => so_aload_n E rfl dL_law_405 h) (And.intro (fun ls st mm h => so_iconst E (by decide) dL_law_406 h) (And.intro (fun ls st mm h => so_lald E dL_law_407 h) (And.intro (fun ls st mm h => so_iload E dL_law_408 h) (And.intro (fun ls st mm h => so_i2l E dL_law_410 h) (And.intro (fun ls st mm h => so_lcmp E dL_law_411 h) (And.intro (fun ls st mm h => so_ifeq E (tgt := 417) (by decide) dL_law_412 h) (And.intro (fun ls st mm h => so_iconst E (by decide) dL_law_415 h) (And.intro (fun ls st mm h => so_ireturn E hQ rfl (fun _ h => h) h0 (ty := .boolean) hrt (Or.inr ⟨rfl, rfl⟩) dL_law_416 h) (And.intro (fun ls st mm h => so_goto E (tgt := 2133) (by decide) dL_law_417 h) (trivial))))))))))))))))))))))))))))))))))))
