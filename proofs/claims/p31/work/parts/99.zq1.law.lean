/-! the law: p h a c0a c0b c0c c1 c2 c3 -/
theorem dL_law_0 : decode cL_law 0 = .ok (.new 10, 3) := by decide +kernel
theorem dL_law_3 : decode cL_law 3 = .ok (.dup, 1) := by decide +kernel
theorem dL_law_4 : decode cL_law 4 = .ok (.invokespecial 31, 3) := by decide +kernel
theorem dL_law_7 : decode cL_law 7 = .ok (.astore_n 1, 1) := by decide +kernel
theorem dL_law_8 : decode cL_law 8 = .ok (.aload_n 1, 1) := by decide +kernel
theorem dL_law_9 : decode cL_law 9 = .ok (.aload_n 0, 1) := by decide +kernel
theorem dL_law_10 : decode cL_law 10 = .ok (.iconst 5, 1) := by decide +kernel
theorem dL_law_11 : decode cL_law 11 = .ok (.invokestatic 32, 3) := by decide +kernel
theorem dL_law_14 : decode cL_law 14 = .ok (.iconst 0, 1) := by decide +kernel
theorem dL_law_15 : decode cL_law 15 = .ok (.istore_n 2, 1) := by decide +kernel
def T_L_law_p (sp_X6_init sp_L_write : List ab_V → ab_M → ab_O) : ab_T := [(0, some (s_new 61 3)), (3, some (s_dup 4)), (4, some (s_call 8 sp_X6_init 1 [] 7)), (7, some (s_astore 1 8)), (8, some (s_aload 1 9)), (9, some (s_aload 0 10)), (10, some (s_const (vI 5) 11)), (11, some (s_call 999 sp_L_write 3 [] 14)), (14, some (s_const (vI 0) 15)), (15, some (s_istore 2 16))]
set_option maxRecDepth 20000 in
theorem mt_L_law_p {sp_X6_init sp_L_write : List ab_V → ab_M → ab_O} : MonoT (T_L_law_p sp_X6_init sp_L_write) := MA_mem (And.intro mono_new (And.intro mono_dup (And.intro mono_call (And.intro mono_astore (And.intro mono_aload (And.intro mono_aload (And.intro mono_const (And.intro mono_call (And.intro mono_const (And.intro mono_istore trivial))))))))))
set_option maxRecDepth 20000 in
set_option maxHeartbeats 4000000 in
theorem snd_L_law_p {l : Launch} {D : va_G} {cA : Nat → ClassId} {d : Nat} {sp_X6_init sp_L_write : List ab_V → ab_M → ab_O} {d' : Nat} (hd9 : d' + 1 ≤ d) (hC_X6_init : ∀ as m, Ctr l D cA d' yX6_init (Cond.code yX6_init cX6_init 1 none :: TB) as m (sp_X6_init as m)) (hC_L_write : ∀ as m, Ctr l D cA d' yL_write (Cond.code yL_write cL_write 5 none :: TB) as m (sp_L_write as m)) : Sound l D cA d 12 yL_law cL_law (some .boolean) [] (T_L_law_p sp_X6_init sp_L_write) := by
  intro p e R s m args below meth c loc0 m0 r Q E hQ h0 hrt hnm htab
  exact SA_mem (And.intro (fun ls st mm h => so_new E (t := 61) (C := RX6) (T := TX6) (N := 11) (ck := 8) rfl rfl (by decide) tu_X6 tyX6 tyX6_ok dv_X6 rfl tw_t1_16 tw_t1_17 tw_t1_1 dL_law_0 h) (And.intro (fun ls st mm h => so_dup E dL_law_3 h) (And.intro (fun ls st mm h => so_callI E hQ rfl (fun _ h => h) h0 (idx := 31) (by decide) (by decide) rfl rfl hd9 (by decide) hC_X6_init (hd_nil htab) tw_t1_18 tw_t1_19 tw_t1_1 tw_t1_20 (by decide +kernel) dL_law_4 h) (And.intro (fun ls st mm h => so_astore_n E rfl dL_law_7 h) (And.intro (fun ls st mm h => so_aload_n E rfl dL_law_8 h) (And.intro (fun ls st mm h => so_aload_n E rfl dL_law_9 h) (And.intro (fun ls st mm h => so_iconst E (by decide) dL_law_10 h) (And.intro (fun ls st mm h => so_callS E hQ rfl (fun _ h => h) h0 (idx := 32) hd9 (by decide) hC_L_write (hd_nil htab) tw_t3_191 tw_t3_192 tw_t1_0 tw_t3_193 (by decide +kernel) dL_law_11 h) (And.intro (fun ls st mm h => so_iconst E (by decide) dL_law_14 h) (And.intro (fun ls st mm h => so_istore_n E rfl dL_law_15 h) (trivial)))))))))))
theorem dL_law_16 : decode cL_law 16 = .ok (.iload_n 2, 1) := by decide +kernel
theorem dL_law_17 : decode cL_law 17 = .ok (.bipush 26, 2) := by decide +kernel
theorem dL_law_19 : decode cL_law 19 = .ok (.if_icmp .ge 478, 3) := by decide +kernel
def T_L_law_h : ab_T := [(16, some (s_iload 2 17)), (17, some (s_const (vI 26) 19)), (19, some (s_cmplt 22 497))]
set_option maxRecDepth 20000 in
theorem mt_L_law_h : MonoT (T_L_law_h) := MA_mem (And.intro mono_iload (And.intro mono_const (And.intro mono_cmplt trivial)))
set_option maxRecDepth 20000 in
set_option maxHeartbeats 4000000 in
theorem snd_L_law_h {l : Launch} {D : va_G} {cA : Nat → ClassId} {d : Nat} : Sound l D cA d 12 yL_law cL_law (some .boolean) [] (T_L_law_h) := by
  intro p e R s m args below meth c loc0 m0 r Q E hQ h0 hrt hnm htab
  exact SA_mem (And.intro (fun ls st mm h => so_iload_n E rfl dL_law_16 h) (And.intro (fun ls st mm h => so_bipush E (by decide) dL_law_17 h) (And.intro (fun ls st mm h => so_icmpge E (tgt := 497) (by decide) dL_law_19 h) (trivial))))
theorem dL_law_22 : decode cL_law 22 = .ok (.aload_n 0, 1) := by decide +kernel
theorem dL_law_23 : decode cL_law 23 = .ok (.iload_n 2, 1) := by decide +kernel
theorem dL_law_24 : decode cL_law 24 = .ok (.bipush 16, 2) := by decide +kernel
theorem dL_law_26 : decode cL_law 26 = .ok (.irem, 1) := by decide +kernel
theorem dL_law_27 : decode cL_law 27 = .ok (.invokestatic 19, 3) := by decide +kernel
theorem dL_law_30 : decode cL_law 30 = .ok (.bipush 43, 2) := by decide +kernel
theorem dL_law_32 : decode cL_law 32 = .ok (.iload_n 2, 1) := by decide +kernel
theorem dL_law_33 : decode cL_law 33 = .ok (.imul, 1) := by decide +kernel
theorem dL_law_34 : decode cL_law 34 = .ok (.iadd, 1) := by decide +kernel
theorem dL_law_35 : decode cL_law 35 = .ok (.istore_n 3, 1) := by decide +kernel
theorem dL_law_36 : decode cL_law 36 = .ok (.iload_n 3, 1) := by decide +kernel
theorem dL_law_37 : decode cL_law 37 = .ok (.iconst 1, 1) := by decide +kernel
theorem dL_law_38 : decode cL_law 38 = .ok (.ishr, 1) := by decide +kernel
theorem dL_law_39 : decode cL_law 39 = .ok (.bipush 8, 2) := by decide +kernel
theorem dL_law_41 : decode cL_law 41 = .ok (.invokestatic 25, 3) := by decide +kernel
theorem dL_law_44 : decode cL_law 44 = .ok (.istore 4, 2) := by decide +kernel
theorem dL_law_46 : decode cL_law 46 = .ok (.aload_n 1, 1) := by decide +kernel
theorem dL_law_47 : decode cL_law 47 = .ok (.bipush 9, 2) := by decide +kernel
theorem dL_law_49 : decode cL_law 49 = .ok (.invokevirtual 36, 3) := by decide +kernel
theorem dL_law_52 : decode cL_law 52 = .ok (.istore 5, 2) := by decide +kernel
theorem dL_law_54 : decode cL_law 54 = .ok (.aload_n 1, 1) := by decide +kernel
theorem dL_law_55 : decode cL_law 55 = .ok (.bipush 12, 2) := by decide +kernel
theorem dL_law_57 : decode cL_law 57 = .ok (.invokevirtual 36, 3) := by decide +kernel
theorem dL_law_60 : decode cL_law 60 = .ok (.istore 6, 2) := by decide +kernel
theorem dL_law_62 : decode cL_law 62 = .ok (.iconst 0, 1) := by decide +kernel
theorem dL_law_63 : decode cL_law 63 = .ok (.istore 7, 2) := by decide +kernel
theorem dL_law_65 : decode cL_law 65 = .ok (.aload_n 1, 1) := by decide +kernel
theorem dL_law_66 : decode cL_law 66 = .ok (.iload 4, 2) := by decide +kernel
theorem dL_law_68 : decode cL_law 68 = .ok (.iconst 4, 1) := by decide +kernel
theorem dL_law_69 : decode cL_law 69 = .ok (.invokevirtual 39, 3) := by decide +kernel
theorem dL_law_72 : decode cL_law 72 = .ok (.iconst 1, 1) := by decide +kernel
theorem dL_law_73 : decode cL_law 73 = .ok (.if_icmp .ne 7, 3) := by decide +kernel
theorem dL_law_76 : decode cL_law 76 = .ok (.iconst 1, 1) := by decide +kernel
theorem dL_law_77 : decode cL_law 77 = .ok (.goto 4, 3) := by decide +kernel
theorem dL_law_80 : decode cL_law 80 = .ok (.iconst 0, 1) := by decide +kernel
theorem dL_law_81 : decode cL_law 81 = .ok (.istore 8, 2) := by decide +kernel
theorem dL_law_83 : decode cL_law 83 = .ok (.iload_n 3, 1) := by decide +kernel
theorem dL_law_84 : decode cL_law 84 = .ok (.bipush 7, 2) := by decide +kernel
theorem dL_law_86 : decode cL_law 86 = .ok (.invokestatic 25, 3) := by decide +kernel
theorem dL_law_89 : decode cL_law 89 = .ok (.tableswitch 330 0 4 #[35, 101, 126, 206, 267], 35) := by decide +kernel
def T_L_law_a (sp_L_cell sp_L_below sp_X6_many sp_X6_ofPerson : List ab_V → ab_M → ab_O) : ab_T := [(22, some (s_aload 0 23)), (23, some (s_iload 2 24)), (24, some (s_const (vI 16) 26)), (26, some (s_div (fun x y => x - x / y * y) 27)), (27, some (s_call 999 sp_L_cell 2 [] 30)), (30, some (s_const (vI 43) 32)), (32, some (s_iload 2 33)), (33, some (s_bin (· * ·) 34)), (34, some (s_bin (· + ·) 35)), (35, some (s_istore 3 36)), (36, some (s_iload 3 37)), (37, some (s_const (vI 1) 38)), (38, some (s_bin (fun x y => x >>> (y &&& 31)) 39)), (39, some (s_const (vI 8) 41)), (41, some (s_call 999 sp_L_below 2 [] 44)), (44, some (s_istore 4 46)), (46, some (s_aload 1 47)), (47, some (s_const (vI 9) 49)), (49, some (s_call 8 sp_X6_many 2 [] 52)), (52, some (s_istore 5 54)), (54, some (s_aload 1 55)), (55, some (s_const (vI 12) 57)), (57, some (s_call 8 sp_X6_many 2 [] 60)), (60, some (s_istore 6 62)), (62, some (s_const (vI 0) 63)), (63, some (s_istore 7 65)), (65, some (s_aload 1 66)), (66, some (s_iload 4 68)), (68, some (s_const (vI 4) 69)), (69, some (s_call 8 sp_X6_ofPerson 3 [] 72)), (72, some (s_const (vI 1) 73)), (73, some (s_cmpeq 76 80)), (76, some (s_const (vI 1) 77)), (77, some (s_goto 81)), (80, some (s_const (vI 0) 81)), (81, some (s_istore 8 83)), (83, some (s_iload 3 84)), (84, some (s_const (vI 7) 86)), (86, some (s_call 999 sp_L_below 2 [] 89)), (89, some (s_tab 0 4 [124, 190, 215, 295, 356] 419))]
set_option maxRecDepth 20000 in
theorem mt_L_law_a {sp_L_cell sp_L_below sp_X6_many sp_X6_ofPerson : List ab_V → ab_M → ab_O} : MonoT (T_L_law_a sp_L_cell sp_L_below sp_X6_many sp_X6_ofPerson) := MA_mem (And.intro mono_aload (And.intro mono_iload (And.intro mono_const (And.intro mono_div (And.intro mono_call (And.intro mono_const (And.intro mono_iload (And.intro mono_bin (And.intro mono_bin (And.intro mono_istore (And.intro mono_iload (And.intro mono_const (And.intro mono_bin (And.intro mono_const (And.intro mono_call (And.intro mono_istore (And.intro mono_aload (And.intro mono_const (And.intro mono_call (And.intro mono_istore (And.intro mono_aload (And.intro mono_const (And.intro mono_call (And.intro mono_istore (And.intro mono_const (And.intro mono_istore (And.intro mono_aload (And.intro mono_iload (And.intro mono_const (And.intro mono_call (And.intro mono_const (And.intro mono_cmpeq (And.intro mono_const (And.intro mono_goto (And.intro mono_const (And.intro mono_istore (And.intro mono_iload (And.intro mono_const (And.intro mono_call (And.intro mono_tab trivial))))))))))))))))))))))))))))))))))))))))
set_option maxRecDepth 20000 in
set_option maxHeartbeats 4000000 in
theorem snd_L_law_a {l : Launch} {D : va_G} {cA : Nat → ClassId} {d : Nat} {sp_L_cell sp_L_below sp_X6_many sp_X6_ofPerson : List ab_V → ab_M → ab_O} {d' : Nat} (hd9 : d' + 1 ≤ d) (hC_L_cell : ∀ as m, Ctr l D cA d' yL_cell (Cond.code yL_cell cL_cell 2 (some .int) :: TB) as m (sp_L_cell as m)) (hC_L_below : ∀ as m, Ctr l D cA d' yL_below (Cond.code yL_below cL_below 2 (some .int) :: TB) as m (sp_L_below as m)) (hC_X6_many : ∀ as m, Ctr l D cA d' yX6_many (Cond.code yX6_many cX6_many 2 (some .int) :: TB) as m (sp_X6_many as m)) (hC_X6_ofPerson : ∀ as m, Ctr l D cA d' yX6_ofPerson (Cond.code yX6_ofPerson cX6_ofPerson 3 (some .int) :: TB) as m (sp_X6_ofPerson as m)) : Sound l D cA d 12 yL_law cL_law (some .boolean) [] (T_L_law_a sp_L_cell sp_L_below sp_X6_many sp_X6_ofPerson) := by
  intro p e R s m args below meth c loc0 m0 r Q E hQ h0 hrt hnm htab
  exact SA_mem (And.intro (fun ls st mm h => so_aload_n E rfl dL_law_22 h) (And.intro (fun ls st mm h => so_iload_n E rfl dL_law_23 h) (And.intro (fun ls st mm h => so_bipush E (by decide) dL_law_24 h) (And.intro (fun ls st mm h => so_irem E dL_law_26 h) (And.intro (fun ls st mm h => so_callS E hQ rfl (fun _ h => h) h0 (idx := 19) hd9 (by decide) hC_L_cell (hd_nil htab) tw_t3_187 tw_t3_188 tw_t1_0 tw_t3_189 (by decide +kernel) dL_law_27 h) (And.intro (fun ls st mm h => so_bipush E (by decide) dL_law_30 h) (And.intro (fun ls st mm h => so_iload_n E rfl dL_law_32 h) (And.intro (fun ls st mm h => so_imul E dL_law_33 h) (And.intro (fun ls st mm h => so_iadd E dL_law_34 h) (And.intro (fun ls st mm h => so_istore_n E rfl dL_law_35 h) (And.intro (fun ls st mm h => so_iload_n E rfl dL_law_36 h) (And.intro (fun ls st mm h => so_iconst E (by decide) dL_law_37 h) (And.intro (fun ls st mm h => so_ishr E dL_law_38 h) (And.intro (fun ls st mm h => so_bipush E (by decide) dL_law_39 h) (And.intro (fun ls st mm h => so_callS E hQ rfl (fun _ h => h) h0 (idx := 25) hd9 (by decide) hC_L_below (hd_nil htab) tw_t3_183 tw_t3_184 tw_t1_0 tw_t3_185 (by decide +kernel) dL_law_41 h) (And.intro (fun ls st mm h => so_istore E dL_law_44 h) (And.intro (fun ls st mm h => so_aload_n E rfl dL_law_46 h) (And.intro (fun ls st mm h => so_bipush E (by decide) dL_law_47 h) (And.intro (fun ls st mm h => so_callV E hQ rfl (fun _ h => h) h0 (idx := 36) (C := RX6) (T := TX6) (N := 11) rfl (by decide) (by decide) rfl hd9 (by decide) hC_X6_many (hd_nil htab) tw_t3_112 tw_t3_113 tw_t3_114 tw_t1_1 tw_t3_115 (by decide +kernel) dL_law_49 h) (And.intro (fun ls st mm h => so_istore E dL_law_52 h) (And.intro (fun ls st mm h => so_aload_n E rfl dL_law_54 h) (And.intro (fun ls st mm h => so_bipush E (by decide) dL_law_55 h) (And.intro (fun ls st mm h => so_callV E hQ rfl (fun _ h => h) h0 (idx := 36) (C := RX6) (T := TX6) (N := 11) rfl (by decide) (by decide) rfl hd9 (by decide) hC_X6_many (hd_nil htab) tw_t3_112 tw_t3_113 tw_t3_114 tw_t1_1 tw_t3_115 (by decide +kernel) dL_law_57 h) (And.intro (fun ls st mm h => so_istore E dL_law_60 h) (And.intro (fun ls st mm h => so_iconst E (by decide) dL_law_62 h) (And.intro (fun ls st mm h => so_istore E dL_law_63 h) (And.intro (fun ls st mm h => so_aload_n E rfl dL_law_65 h) (And.intro (fun ls st mm h => so_iload E dL_law_66 h) (And.intro (fun ls st mm h => so_iconst E (by decide) dL_law_68 h) (And.intro (fun ls st mm h => so_callV E hQ rfl (fun _ h => h) h0 (idx := 39) (C := RX6) (T := TX6) (N := 11) rfl (by decide) (by decide) rfl hd9 (by decide) hC_X6_ofPerson (hd_nil htab) tw_t3_71 tw_t3_72 tw_t3_73 tw_t1_1 tw_t3_74 (by decide +kernel) dL_law_69 h) (And.intro (fun ls st mm h => so_iconst E (by decide) dL_law_72 h) (And.intro (fun ls st mm h => so_icmpne E (tgt := 80) (by decide) dL_law_73 h) (And.intro (fun ls st mm h => so_iconst E (by decide) dL_law_76 h) (And.intro (fun ls st mm h => so_goto E (tgt := 81) (by decide) dL_law_77 h) (And.intro (fun ls st mm h => so_iconst E (by decide) dL_law_80 h) (And.intro (fun ls st mm h => so_istore E dL_law_81 h) (And.intro (fun ls st mm h => so_iload_n E rfl dL_law_83 h) (And.intro (fun ls st mm h => so_bipush E (by decide) dL_law_84 h) (And.intro (fun ls st mm h => so_callS E hQ rfl (fun _ h => h) h0 (idx := 25) hd9 (by decide) hC_L_below (hd_nil htab) tw_t3_183 tw_t3_184 tw_t1_0 tw_t3_185 (by decide +kernel) dL_law_86 h) (And.intro (fun ls st mm h => so_tab E (dt := 419) (by decide) rfl (by decide +kernel) dL_law_89 h) (trivial)))))))))))))))))))))))))))))))))))))))))
theorem dL_law_124 : decode cL_law 124 = .ok (.iconst 1, 1) := by decide +kernel
theorem dL_law_125 : decode cL_law 125 = .ok (.iload_n 3, 1) := by decide +kernel
theorem dL_law_126 : decode cL_law 126 = .ok (.iconst 2, 1) := by decide +kernel
theorem dL_law_127 : decode cL_law 127 = .ok (.ishr, 1) := by decide +kernel
theorem dL_law_128 : decode cL_law 128 = .ok (.bipush 30, 2) := by decide +kernel
theorem dL_law_130 : decode cL_law 130 = .ok (.invokestatic 25, 3) := by decide +kernel
theorem dL_law_133 : decode cL_law 133 = .ok (.iadd, 1) := by decide +kernel
theorem dL_law_134 : decode cL_law 134 = .ok (.istore 9, 2) := by decide +kernel
theorem dL_law_136 : decode cL_law 136 = .ok (.iconst 0, 1) := by decide +kernel
theorem dL_law_137 : decode cL_law 137 = .ok (.istore 10, 2) := by decide +kernel
def T_L_law_c0a (sp_L_below : List ab_V → ab_M → ab_O) : ab_T := [(124, some (s_const (vI 1) 125)), (125, some (s_iload 3 126)), (126, some (s_const (vI 2) 127)), (127, some (s_bin (fun x y => x >>> (y &&& 31)) 128)), (128, some (s_const (vI 30) 130)), (130, some (s_call 999 sp_L_below 2 [] 133)), (133, some (s_bin (· + ·) 134)), (134, some (s_istore 9 136)), (136, some (s_const (vI 0) 137)), (137, some (s_istore 10 139))]
set_option maxRecDepth 20000 in
theorem mt_L_law_c0a {sp_L_below : List ab_V → ab_M → ab_O} : MonoT (T_L_law_c0a sp_L_below) := MA_mem (And.intro mono_const (And.intro mono_iload (And.intro mono_const (And.intro mono_bin (And.intro mono_const (And.intro mono_call (And.intro mono_bin (And.intro mono_istore (And.intro mono_const (And.intro mono_istore trivial))))))))))
set_option maxRecDepth 20000 in
set_option maxHeartbeats 4000000 in
theorem snd_L_law_c0a {l : Launch} {D : va_G} {cA : Nat → ClassId} {d : Nat} {sp_L_below : List ab_V → ab_M → ab_O} {d' : Nat} (hd9 : d' + 1 ≤ d) (hC_L_below : ∀ as m, Ctr l D cA d' yL_below (Cond.code yL_below cL_below 2 (some .int) :: TB) as m (sp_L_below as m)) : Sound l D cA d 12 yL_law cL_law (some .boolean) [] (T_L_law_c0a sp_L_below) := by
  intro p e R s m args below meth c loc0 m0 r Q E hQ h0 hrt hnm htab
  exact SA_mem (And.intro (fun ls st mm h => so_iconst E (by decide) dL_law_124 h) (And.intro (fun ls st mm h => so_iload_n E rfl dL_law_125 h) (And.intro (fun ls st mm h => so_iconst E (by decide) dL_law_126 h) (And.intro (fun ls st mm h => so_ishr E dL_law_127 h) (And.intro (fun ls st mm h => so_bipush E (by decide) dL_law_128 h) (And.intro (fun ls st mm h => so_callS E hQ rfl (fun _ h => h) h0 (idx := 25) hd9 (by decide) hC_L_below (hd_nil htab) tw_t3_183 tw_t3_184 tw_t1_0 tw_t3_185 (by decide +kernel) dL_law_130 h) (And.intro (fun ls st mm h => so_iadd E dL_law_133 h) (And.intro (fun ls st mm h => so_istore E dL_law_134 h) (And.intro (fun ls st mm h => so_iconst E (by decide) dL_law_136 h) (And.intro (fun ls st mm h => so_istore E dL_law_137 h) (trivial)))))))))))
theorem dL_law_139 : decode cL_law 139 = .ok (.iload 10, 2) := by decide +kernel
theorem dL_law_141 : decode cL_law 141 = .ok (.bipush 8, 2) := by decide +kernel
theorem dL_law_143 : decode cL_law 143 = .ok (.if_icmp .ge 37, 3) := by decide +kernel
theorem dL_law_146 : decode cL_law 146 = .ok (.iload 7, 2) := by decide +kernel
theorem dL_law_148 : decode cL_law 148 = .ok (.aload_n 1, 1) := by decide +kernel
theorem dL_law_149 : decode cL_law 149 = .ok (.iload 10, 2) := by decide +kernel
theorem dL_law_151 : decode cL_law 151 = .ok (.iconst 4, 1) := by decide +kernel
theorem dL_law_152 : decode cL_law 152 = .ok (.invokevirtual 39, 3) := by decide +kernel
theorem dL_law_155 : decode cL_law 155 = .ok (.iload 9, 2) := by decide +kernel
theorem dL_law_157 : decode cL_law 157 = .ok (.imul, 1) := by decide +kernel
theorem dL_law_158 : decode cL_law 158 = .ok (.iconst 1, 1) := by decide +kernel
theorem dL_law_159 : decode cL_law 159 = .ok (.iconst 2, 1) := by decide +kernel
theorem dL_law_160 : decode cL_law 160 = .ok (.aload_n 1, 1) := by decide +kernel
theorem dL_law_161 : decode cL_law 161 = .ok (.iload 10, 2) := by decide +kernel
theorem dL_law_163 : decode cL_law 163 = .ok (.bipush 8, 2) := by decide +kernel
theorem dL_law_165 : decode cL_law 165 = .ok (.invokevirtual 39, 3) := by decide +kernel
theorem dL_law_168 : decode cL_law 168 = .ok (.imul, 1) := by decide +kernel
theorem dL_law_169 : decode cL_law 169 = .ok (.iadd, 1) := by decide +kernel
theorem dL_law_170 : decode cL_law 170 = .ok (.imul, 1) := by decide +kernel
theorem dL_law_171 : decode cL_law 171 = .ok (.iadd, 1) := by decide +kernel
theorem dL_law_172 : decode cL_law 172 = .ok (.istore 7, 2) := by decide +kernel
theorem dL_law_174 : decode cL_law 174 = .ok (.iinc 10 1, 3) := by decide +kernel
theorem dL_law_177 : decode cL_law 177 = .ok (.goto (-38), 3) := by decide +kernel
def T_L_law_c0b (sp_X6_ofPerson : List ab_V → ab_M → ab_O) : ab_T := [(139, some (s_iload 10 141)), (141, some (s_const (vI 8) 143)), (143, some (s_cmplt 146 180)), (146, some (s_iload 7 148)), (148, some (s_aload 1 149)), (149, some (s_iload 10 151)), (151, some (s_const (vI 4) 152)), (152, some (s_call 8 sp_X6_ofPerson 3 [] 155)), (155, some (s_iload 9 157)), (157, some (s_bin (· * ·) 158)), (158, some (s_const (vI 1) 159)), (159, some (s_const (vI 2) 160)), (160, some (s_aload 1 161)), (161, some (s_iload 10 163)), (163, some (s_const (vI 8) 165)), (165, some (s_call 8 sp_X6_ofPerson 3 [] 168)), (168, some (s_bin (· * ·) 169)), (169, some (s_bin (· + ·) 170)), (170, some (s_bin (· * ·) 171)), (171, some (s_bin (· + ·) 172)), (172, some (s_istore 7 174)), (174, some (s_iinc 10 1 177)), (177, some (s_goto 139))]
set_option maxRecDepth 20000 in
theorem mt_L_law_c0b {sp_X6_ofPerson : List ab_V → ab_M → ab_O} : MonoT (T_L_law_c0b sp_X6_ofPerson) := MA_mem (And.intro mono_iload (And.intro mono_const (And.intro mono_cmplt (And.intro mono_iload (And.intro mono_aload (And.intro mono_iload (And.intro mono_const (And.intro mono_call (And.intro mono_iload (And.intro mono_bin (And.intro mono_const (And.intro mono_const (And.intro mono_aload (And.intro mono_iload (And.intro mono_const (And.intro mono_call (And.intro mono_bin (And.intro mono_bin (And.intro mono_bin (And.intro mono_bin (And.intro mono_istore (And.intro mono_iinc (And.intro mono_goto trivial)))))))))))))))))))))))
set_option maxRecDepth 20000 in
set_option maxHeartbeats 4000000 in
theorem snd_L_law_c0b {l : Launch} {D : va_G} {cA : Nat → ClassId} {d : Nat} {sp_X6_ofPerson : List ab_V → ab_M → ab_O} {d' : Nat} (hd9 : d' + 1 ≤ d) (hC_X6_ofPerson : ∀ as m, Ctr l D cA d' yX6_ofPerson (Cond.code yX6_ofPerson cX6_ofPerson 3 (some .int) :: TB) as m (sp_X6_ofPerson as m)) : Sound l D cA d 12 yL_law cL_law (some .boolean) [] (T_L_law_c0b sp_X6_ofPerson) := by
  intro p e R s m args below meth c loc0 m0 r Q E hQ h0 hrt hnm htab
  exact SA_mem (And.intro (fun ls st mm h => so_iload E dL_law_139 h) (And.intro (fun ls st mm h => so_bipush E (by decide) dL_law_141 h) (And.intro (fun ls st mm h => so_icmpge E (tgt := 180) (by decide) dL_law_143 h) (And.intro (fun ls st mm h => so_iload E dL_law_146 h) (And.intro (fun ls st mm h => so_aload_n E rfl dL_law_148 h) (And.intro (fun ls st mm h => so_iload E dL_law_149 h) (And.intro (fun ls st mm h => so_iconst E (by decide) dL_law_151 h) (And.intro (fun ls st mm h => so_callV E hQ rfl (fun _ h => h) h0 (idx := 39) (C := RX6) (T := TX6) (N := 11) rfl (by decide) (by decide) rfl hd9 (by decide) hC_X6_ofPerson (hd_nil htab) tw_t3_71 tw_t3_72 tw_t3_73 tw_t1_1 tw_t3_74 (by decide +kernel) dL_law_152 h) (And.intro (fun ls st mm h => so_iload E dL_law_155 h) (And.intro (fun ls st mm h => so_imul E dL_law_157 h) (And.intro (fun ls st mm h => so_iconst E (by decide) dL_law_158 h) (And.intro (fun ls st mm h => so_iconst E (by decide) dL_law_159 h) (And.intro (fun ls st mm h => so_aload_n E rfl dL_law_160 h) (And.intro (fun ls st mm h => so_iload E dL_law_161 h) (And.intro (fun ls st mm h => so_bipush E (by decide) dL_law_163 h) (And.intro (fun ls st mm h => so_callV E hQ rfl (fun _ h => h) h0 (idx := 39) (C := RX6) (T := TX6) (N := 11) rfl (by decide) (by decide) rfl hd9 (by decide) hC_X6_ofPerson (hd_nil htab) tw_t3_71 tw_t3_72 tw_t3_73 tw_t1_1 tw_t3_74 (by decide +kernel) dL_law_165 h) (And.intro (fun ls st mm h => so_imul E dL_law_168 h) (And.intro (fun ls st mm h => so_iadd E dL_law_169 h) (And.intro (fun ls st mm h => so_imul E dL_law_170 h) (And.intro (fun ls st mm h => so_iadd E dL_law_171 h) (And.intro (fun ls st mm h => so_istore E dL_law_172 h) (And.intro (fun ls st mm h => so_iinc E (by decide) dL_law_174 h) (And.intro (fun ls st mm h => so_goto E (tgt := 139) (by decide) dL_law_177 h) (trivial))))))))))))))))))))))))
theorem dL_law_180 : decode cL_law 180 = .ok (.aload_n 1, 1) := by decide +kernel
theorem dL_law_181 : decode cL_law 181 = .ok (.iload 9, 2) := by decide +kernel
theorem dL_law_183 : decode cL_law 183 = .ok (.invokevirtual 15, 3) := by decide +kernel
theorem dL_law_186 : decode cL_law 186 = .ok (.pop, 1) := by decide +kernel
theorem dL_law_187 : decode cL_law 187 = .ok (.goto 281, 3) := by decide +kernel
def T_L_law_c0c (sp_X6_pass : List ab_V → ab_M → ab_O) : ab_T := [(180, some (s_aload 1 181)), (181, some (s_iload 9 183)), (183, some (s_call 8 sp_X6_pass 2 [] 186)), (186, some (s_pop 187)), (187, some (s_goto 468))]
set_option maxRecDepth 20000 in
theorem mt_L_law_c0c {sp_X6_pass : List ab_V → ab_M → ab_O} : MonoT (T_L_law_c0c sp_X6_pass) := MA_mem (And.intro mono_aload (And.intro mono_iload (And.intro mono_call (And.intro mono_pop (And.intro mono_goto trivial)))))
set_option maxRecDepth 20000 in
set_option maxHeartbeats 4000000 in
theorem snd_L_law_c0c {l : Launch} {D : va_G} {cA : Nat → ClassId} {d : Nat} {sp_X6_pass : List ab_V → ab_M → ab_O} {d' : Nat} (hd9 : d' + 1 ≤ d) (hC_X6_pass : ∀ as m, Ctr l D cA d' yX6_pass (Cond.code yX6_pass cX6_pass 3 (some .int) :: TB) as m (sp_X6_pass as m)) : Sound l D cA d 12 yL_law cL_law (some .boolean) [] (T_L_law_c0c sp_X6_pass) := by
  intro p e R s m args below meth c loc0 m0 r Q E hQ h0 hrt hnm htab
  exact SA_mem (And.intro (fun ls st mm h => so_aload_n E rfl dL_law_180 h) (And.intro (fun ls st mm h => so_iload E dL_law_181 h) (And.intro (fun ls st mm h => so_callV E hQ rfl (fun _ h => h) h0 (idx := 15) (C := RX6) (T := TX6) (N := 11) rfl (by decide) (by decide) rfl hd9 (by decide) hC_X6_pass (hd_nil htab) tw_t2_219 tw_t2_220 tw_t2_221 tw_t1_1 tw_t2_222 (by decide +kernel) dL_law_183 h) (And.intro (fun ls st mm h => so_pop E dL_law_186 h) (And.intro (fun ls st mm h => so_goto E (tgt := 468) (by decide) dL_law_187 h) (trivial))))))
theorem dL_law_190 : decode cL_law 190 = .ok (.iload 8, 2) := by decide +kernel
theorem dL_law_192 : decode cL_law 192 = .ok (.ifCond .eq 276, 3) := by decide +kernel
theorem dL_law_195 : decode cL_law 195 = .ok (.iload_n 3, 1) := by decide +kernel
theorem dL_law_196 : decode cL_law 196 = .ok (.iconst 2, 1) := by decide +kernel
theorem dL_law_197 : decode cL_law 197 = .ok (.ishr, 1) := by decide +kernel
theorem dL_law_198 : decode cL_law 198 = .ok (.iconst 4, 1) := by decide +kernel
theorem dL_law_199 : decode cL_law 199 = .ok (.invokestatic 25, 3) := by decide +kernel
theorem dL_law_202 : decode cL_law 202 = .ok (.ifCond .ne 266, 3) := by decide +kernel
theorem dL_law_205 : decode cL_law 205 = .ok (.aload_n 1, 1) := by decide +kernel
theorem dL_law_206 : decode cL_law 206 = .ok (.iload 4, 2) := by decide +kernel
theorem dL_law_208 : decode cL_law 208 = .ok (.invokevirtual 42, 3) := by decide +kernel
theorem dL_law_211 : decode cL_law 211 = .ok (.pop, 1) := by decide +kernel
theorem dL_law_212 : decode cL_law 212 = .ok (.goto 256, 3) := by decide +kernel
def T_L_law_c1 (sp_L_below sp_X6_die : List ab_V → ab_M → ab_O) : ab_T := [(190, some (s_iload 8 192)), (192, some (s_ifeq 468 195)), (195, some (s_iload 3 196)), (196, some (s_const (vI 2) 197)), (197, some (s_bin (fun x y => x >>> (y &&& 31)) 198)), (198, some (s_const (vI 4) 199)), (199, some (s_call 999 sp_L_below 2 [] 202)), (202, some (s_ifeq 205 468)), (205, some (s_aload 1 206)), (206, some (s_iload 4 208)), (208, some (s_call 8 sp_X6_die 2 [] 211)), (211, some (s_pop 212)), (212, some (s_goto 468))]
set_option maxRecDepth 20000 in
theorem mt_L_law_c1 {sp_L_below sp_X6_die : List ab_V → ab_M → ab_O} : MonoT (T_L_law_c1 sp_L_below sp_X6_die) := MA_mem (And.intro mono_iload (And.intro mono_ifeq (And.intro mono_iload (And.intro mono_const (And.intro mono_bin (And.intro mono_const (And.intro mono_call (And.intro mono_ifeq (And.intro mono_aload (And.intro mono_iload (And.intro mono_call (And.intro mono_pop (And.intro mono_goto trivial)))))))))))))
set_option maxRecDepth 20000 in
set_option maxHeartbeats 4000000 in
theorem snd_L_law_c1 {l : Launch} {D : va_G} {cA : Nat → ClassId} {d : Nat} {sp_L_below sp_X6_die : List ab_V → ab_M → ab_O} {d' : Nat} (hd9 : d' + 1 ≤ d) (hC_L_below : ∀ as m, Ctr l D cA d' yL_below (Cond.code yL_below cL_below 2 (some .int) :: TB) as m (sp_L_below as m)) (hC_X6_die : ∀ as m, Ctr l D cA d' yX6_die (Cond.code yX6_die cX6_die 3 (some .int) :: TB) as m (sp_X6_die as m)) : Sound l D cA d 12 yL_law cL_law (some .boolean) [] (T_L_law_c1 sp_L_below sp_X6_die) := by
  intro p e R s m args below meth c loc0 m0 r Q E hQ h0 hrt hnm htab
  exact SA_mem (And.intro (fun ls st mm h => so_iload E dL_law_190 h) (And.intro (fun ls st mm h => so_ifeq E (tgt := 468) (by decide) dL_law_192 h) (And.intro (fun ls st mm h => so_iload_n E rfl dL_law_195 h) (And.intro (fun ls st mm h => so_iconst E (by decide) dL_law_196 h) (And.intro (fun ls st mm h => so_ishr E dL_law_197 h) (And.intro (fun ls st mm h => so_iconst E (by decide) dL_law_198 h) (And.intro (fun ls st mm h => so_callS E hQ rfl (fun _ h => h) h0 (idx := 25) hd9 (by decide) hC_L_below (hd_nil htab) tw_t3_183 tw_t3_184 tw_t1_0 tw_t3_185 (by decide +kernel) dL_law_199 h) (And.intro (fun ls st mm h => so_ifne E (tgt := 468) (by decide) dL_law_202 h) (And.intro (fun ls st mm h => so_aload_n E rfl dL_law_205 h) (And.intro (fun ls st mm h => so_iload E dL_law_206 h) (And.intro (fun ls st mm h => so_callV E hQ rfl (fun _ h => h) h0 (idx := 42) (C := RX6) (T := TX6) (N := 11) rfl (by decide) (by decide) rfl hd9 (by decide) hC_X6_die (hd_nil htab) tw_t2_169 tw_t2_170 tw_t2_171 tw_t1_1 tw_t2_172 (by decide +kernel) dL_law_208 h) (And.intro (fun ls st mm h => so_pop E dL_law_211 h) (And.intro (fun ls st mm h => so_goto E (tgt := 468) (by decide) dL_law_212 h) (trivial))))))))))))))
theorem dL_law_215 : decode cL_law 215 = .ok (.iconst 1, 1) := by decide +kernel
theorem dL_law_216 : decode cL_law 216 = .ok (.iload_n 3, 1) := by decide +kernel
theorem dL_law_217 : decode cL_law 217 = .ok (.iconst 2, 1) := by decide +kernel
theorem dL_law_218 : decode cL_law 218 = .ok (.ishr, 1) := by decide +kernel
theorem dL_law_219 : decode cL_law 219 = .ok (.bipush 9, 2) := by decide +kernel
theorem dL_law_221 : decode cL_law 221 = .ok (.invokestatic 25, 3) := by decide +kernel
theorem dL_law_224 : decode cL_law 224 = .ok (.iadd, 1) := by decide +kernel
theorem dL_law_225 : decode cL_law 225 = .ok (.istore 10, 2) := by decide +kernel
theorem dL_law_227 : decode cL_law 227 = .ok (.iload 8, 2) := by decide +kernel
theorem dL_law_229 : decode cL_law 229 = .ok (.ifCond .eq 239, 3) := by decide +kernel
theorem dL_law_232 : decode cL_law 232 = .ok (.aload_n 1, 1) := by decide +kernel
theorem dL_law_233 : decode cL_law 233 = .ok (.iload 4, 2) := by decide +kernel
theorem dL_law_235 : decode cL_law 235 = .ok (.iconst 3, 1) := by decide +kernel
theorem dL_law_236 : decode cL_law 236 = .ok (.invokevirtual 39, 3) := by decide +kernel
theorem dL_law_239 : decode cL_law 239 = .ok (.iconst 4, 1) := by decide +kernel
theorem dL_law_240 : decode cL_law 240 = .ok (.iload 10, 2) := by decide +kernel
theorem dL_law_242 : decode cL_law 242 = .ok (.imul, 1) := by decide +kernel
theorem dL_law_243 : decode cL_law 243 = .ok (.if_icmp .lt 225, 3) := by decide +kernel
theorem dL_law_246 : decode cL_law 246 = .ok (.aload_n 1, 1) := by decide +kernel
theorem dL_law_247 : decode cL_law 247 = .ok (.bipush 6, 2) := by decide +kernel
theorem dL_law_249 : decode cL_law 249 = .ok (.invokevirtual 36, 3) := by decide +kernel
theorem dL_law_252 : decode cL_law 252 = .ok (.bipush 12, 2) := by decide +kernel
theorem dL_law_254 : decode cL_law 254 = .ok (.if_icmp .ne 6, 3) := by decide +kernel
theorem dL_law_257 : decode cL_law 257 = .ok (.goto 211, 3) := by decide +kernel
theorem dL_law_260 : decode cL_law 260 = .ok (.aload_n 1, 1) := by decide +kernel
theorem dL_law_261 : decode cL_law 261 = .ok (.iload 4, 2) := by decide +kernel
theorem dL_law_263 : decode cL_law 263 = .ok (.iload_n 3, 1) := by decide +kernel
theorem dL_law_264 : decode cL_law 264 = .ok (.iconst 3, 1) := by decide +kernel
theorem dL_law_265 : decode cL_law 265 = .ok (.ishr, 1) := by decide +kernel
theorem dL_law_266 : decode cL_law 266 = .ok (.iconst 4, 1) := by decide +kernel
theorem dL_law_267 : decode cL_law 267 = .ok (.invokestatic 25, 3) := by decide +kernel
theorem dL_law_270 : decode cL_law 270 = .ok (.iconst (-1), 1) := by decide +kernel
theorem dL_law_271 : decode cL_law 271 = .ok (.iload_n 3, 1) := by decide +kernel
theorem dL_law_272 : decode cL_law 272 = .ok (.iconst 4, 1) := by decide +kernel
theorem dL_law_273 : decode cL_law 273 = .ok (.ishr, 1) := by decide +kernel
theorem dL_law_274 : decode cL_law 274 = .ok (.bipush 10, 2) := by decide +kernel
theorem dL_law_276 : decode cL_law 276 = .ok (.invokestatic 25, 3) := by decide +kernel
theorem dL_law_279 : decode cL_law 279 = .ok (.iload 10, 2) := by decide +kernel
theorem dL_law_281 : decode cL_law 281 = .ok (.invokevirtual 45, 3) := by decide +kernel
theorem dL_law_284 : decode cL_law 284 = .ok (.pop, 1) := by decide +kernel
theorem dL_law_285 : decode cL_law 285 = .ok (.bipush (-4), 2) := by decide +kernel
theorem dL_law_287 : decode cL_law 287 = .ok (.iload 10, 2) := by decide +kernel
theorem dL_law_289 : decode cL_law 289 = .ok (.imul, 1) := by decide +kernel
theorem dL_law_290 : decode cL_law 290 = .ok (.istore 7, 2) := by decide +kernel
theorem dL_law_292 : decode cL_law 292 = .ok (.goto 176, 3) := by decide +kernel
def T_L_law_c2 (sp_L_below sp_X6_ofPerson sp_X6_many sp_X6_utensil : List ab_V → ab_M → ab_O) : ab_T := [(215, some (s_const (vI 1) 216)), (216, some (s_iload 3 217)), (217, some (s_const (vI 2) 218)), (218, some (s_bin (fun x y => x >>> (y &&& 31)) 219)), (219, some (s_const (vI 9) 221)), (221, some (s_call 999 sp_L_below 2 [] 224)), (224, some (s_bin (· + ·) 225)), (225, some (s_istore 10 227)), (227, some (s_iload 8 229)), (229, some (s_ifeq 468 232)), (232, some (s_aload 1 233)), (233, some (s_iload 4 235)), (235, some (s_const (vI 3) 236)), (236, some (s_call 8 sp_X6_ofPerson 3 [] 239)), (239, some (s_const (vI 4) 240)), (240, some (s_iload 10 242)), (242, some (s_bin (· * ·) 243)), (243, some (s_cmplt 468 246)), (246, some (s_aload 1 247)), (247, some (s_const (vI 6) 249)), (249, some (s_call 8 sp_X6_many 2 [] 252)), (252, some (s_const (vI 12) 254)), (254, some (s_cmpeq 257 260)), (257, some (s_goto 468)), (260, some (s_aload 1 261)), (261, some (s_iload 4 263)), (263, some (s_iload 3 264)), (264, some (s_const (vI 3) 265)), (265, some (s_bin (fun x y => x >>> (y &&& 31)) 266)), (266, some (s_const (vI 4) 267)), (267, some (s_call 999 sp_L_below 2 [] 270)), (270, some (s_const (vI (-1)) 271)), (271, some (s_iload 3 272)), (272, some (s_const (vI 4) 273)), (273, some (s_bin (fun x y => x >>> (y &&& 31)) 274)), (274, some (s_const (vI 10) 276)), (276, some (s_call 999 sp_L_below 2 [] 279)), (279, some (s_iload 10 281)), (281, some (s_call 8 sp_X6_utensil 6 [] 284)), (284, some (s_pop 285)), (285, some (s_const (vI (-4)) 287)), (287, some (s_iload 10 289)), (289, some (s_bin (· * ·) 290)), (290, some (s_istore 7 292)), (292, some (s_goto 468))]
set_option maxRecDepth 20000 in
theorem mt_L_law_c2 {sp_L_below sp_X6_ofPerson sp_X6_many sp_X6_utensil : List ab_V → ab_M → ab_O} : MonoT (T_L_law_c2 sp_L_below sp_X6_ofPerson sp_X6_many sp_X6_utensil) := MA_mem (And.intro mono_const (And.intro mono_iload (And.intro mono_const (And.intro mono_bin (And.intro mono_const (And.intro mono_call (And.intro mono_bin (And.intro mono_istore (And.intro mono_iload (And.intro mono_ifeq (And.intro mono_aload (And.intro mono_iload (And.intro mono_const (And.intro mono_call (And.intro mono_const (And.intro mono_iload (And.intro mono_bin (And.intro mono_cmplt (And.intro mono_aload (And.intro mono_const (And.intro mono_call (And.intro mono_const (And.intro mono_cmpeq (And.intro mono_goto (And.intro mono_aload (And.intro mono_iload (And.intro mono_iload (And.intro mono_const (And.intro mono_bin (And.intro mono_const (And.intro mono_call (And.intro mono_const (And.intro mono_iload (And.intro mono_const (And.intro mono_bin (And.intro mono_const (And.intro mono_call (And.intro mono_iload (And.intro mono_call (And.intro mono_pop (And.intro mono_const (And.intro mono_iload (And.intro mono_bin (And.intro mono_istore (And.intro mono_goto trivial)))))))))))))))))))))))))))))))))))))))))))))
set_option maxRecDepth 20000 in
set_option maxHeartbeats 4000000 in
theorem snd_L_law_c2 {l : Launch} {D : va_G} {cA : Nat → ClassId} {d : Nat} {sp_L_below sp_X6_ofPerson sp_X6_many sp_X6_utensil : List ab_V → ab_M → ab_O} {d' : Nat} (hd9 : d' + 1 ≤ d) (hC_L_below : ∀ as m, Ctr l D cA d' yL_below (Cond.code yL_below cL_below 2 (some .int) :: TB) as m (sp_L_below as m)) (hC_X6_ofPerson : ∀ as m, Ctr l D cA d' yX6_ofPerson (Cond.code yX6_ofPerson cX6_ofPerson 3 (some .int) :: TB) as m (sp_X6_ofPerson as m)) (hC_X6_many : ∀ as m, Ctr l D cA d' yX6_many (Cond.code yX6_many cX6_many 2 (some .int) :: TB) as m (sp_X6_many as m)) (hC_X6_utensil : ∀ as m, Ctr l D cA d' yX6_utensil (Cond.code yX6_utensil cX6_utensil 8 (some .int) :: TB) as m (sp_X6_utensil as m)) : Sound l D cA d 12 yL_law cL_law (some .boolean) [] (T_L_law_c2 sp_L_below sp_X6_ofPerson sp_X6_many sp_X6_utensil) := by
  intro p e R s m args below meth c loc0 m0 r Q E hQ h0 hrt hnm htab
  exact SA_mem (And.intro (fun ls st mm h => so_iconst E (by decide) dL_law_215 h) (And.intro (fun ls st mm h => so_iload_n E rfl dL_law_216 h) (And.intro (fun ls st mm h => so_iconst E (by decide) dL_law_217 h) (And.intro (fun ls st mm h => so_ishr E dL_law_218 h) (And.intro (fun ls st mm h => so_bipush E (by decide) dL_law_219 h) (And.intro (fun ls st mm h => so_callS E hQ rfl (fun _ h => h) h0 (idx := 25) hd9 (by decide) hC_L_below (hd_nil htab) tw_t3_183 tw_t3_184 tw_t1_0 tw_t3_185 (by decide +kernel) dL_law_221 h) (And.intro (fun ls st mm h => so_iadd E dL_law_224 h) (And.intro (fun ls st mm h => so_istore E dL_law_225 h) (And.intro (fun ls st mm h => so_iload E dL_law_227 h) (And.intro (fun ls st mm h => so_ifeq E (tgt := 468) (by decide) dL_law_229 h) (And.intro (fun ls st mm h => so_aload_n E rfl dL_law_232 h) (And.intro (fun ls st mm h => so_iload E dL_law_233 h) (And.intro (fun ls st mm h => so_iconst E (by decide) dL_law_235 h) (And.intro (fun ls st mm h => so_callV E hQ rfl (fun _ h => h) h0 (idx := 39) (C := RX6) (T := TX6) (N := 11) rfl (by decide) (by decide) rfl hd9 (by decide) hC_X6_ofPerson (hd_nil htab) tw_t3_71 tw_t3_72 tw_t3_73 tw_t1_1 tw_t3_74 (by decide +kernel) dL_law_236 h) (And.intro (fun ls st mm h => so_iconst E (by decide) dL_law_239 h) (And.intro (fun ls st mm h => so_iload E dL_law_240 h) (And.intro (fun ls st mm h => so_imul E dL_law_242 h) (And.intro (fun ls st mm h => so_icmplt E (tgt := 468) (by decide) dL_law_243 h) (And.intro (fun ls st mm h => so_aload_n E rfl dL_law_246 h) (And.intro (fun ls st mm h => so_bipush E (by decide) dL_law_247 h) (And.intro (fun ls st mm h => so_callV E hQ rfl (fun _ h => h) h0 (idx := 36) (C := RX6) (T := TX6) (N := 11) rfl (by decide) (by decide) rfl hd9 (by decide) hC_X6_many (hd_nil htab) tw_t3_112 tw_t3_113 tw_t3_114 tw_t1_1 tw_t3_115 (by decide +kernel) dL_law_249 h) (And.intro (fun ls st mm h => so_bipush E (by decide) dL_law_252 h) (And.intro (fun ls st mm h => so_icmpne E (tgt := 260) (by decide) dL_law_254 h) (And.intro (fun ls st mm h => so_goto E (tgt := 468) (by decide) dL_law_257 h) (And.intro (fun ls st mm h => so_aload_n E rfl dL_law_260 h) (And.intro (fun ls st mm h => so_iload E dL_law_261 h) (And.intro (fun ls st mm h => so_iload_n E rfl dL_law_263 h) (And.intro (fun ls st mm h => so_iconst E (by decide) dL_law_264 h) (And.intro (fun ls st mm h => so_ishr E dL_law_265 h) (And.intro (fun ls st mm h => so_iconst E (by decide) dL_law_266 h) (And.intro (fun ls st mm h => so_callS E hQ rfl (fun _ h => h) h0 (idx := 25) hd9 (by decide) hC_L_below (hd_nil htab) tw_t3_183 tw_t3_184 tw_t1_0 tw_t3_185 (by decide +kernel) dL_law_267 h) (And.intro (fun ls st mm h => so_iconst E (by decide) dL_law_270 h) (And.intro (fun ls st mm h => so_iload_n E rfl dL_law_271 h) (And.intro (fun ls st mm h => so_iconst E (by decide) dL_law_272 h) (And.intro (fun ls st mm h => so_ishr E dL_law_273 h) (And.intro (fun ls st mm h => so_bipush E (by decide) dL_law_274 h) (And.intro (fun ls st mm h => so_callS E hQ rfl (fun _ h => h) h0 (idx := 25) hd9 (by decide) hC_L_below (hd_nil htab) tw_t3_183 tw_t3_184 tw_t1_0 tw_t3_185 (by decide +kernel) dL_law_276 h) (And.intro (fun ls st mm h => so_iload E dL_law_279 h) (And.intro (fun ls st mm h => so_callV E hQ rfl (fun _ h => h) h0 (idx := 45) (C := RX6) (T := TX6) (N := 11) rfl (by decide) (by decide) rfl hd9 (by decide) hC_X6_utensil (hd_nil htab) tw_t2_227 tw_t2_228 tw_t2_229 tw_t1_1 tw_t2_230 (by decide +kernel) dL_law_281 h) (And.intro (fun ls st mm h => so_pop E dL_law_284 h) (And.intro (fun ls st mm h => so_bipush E (by decide) dL_law_285 h) (And.intro (fun ls st mm h => so_iload E dL_law_287 h) (And.intro (fun ls st mm h => so_imul E dL_law_289 h) (And.intro (fun ls st mm h => so_istore E dL_law_290 h) (And.intro (fun ls st mm h => so_goto E (tgt := 468) (by decide) dL_law_292 h) (trivial))))))))))))))))))))))))))))))))))))))))))))))
theorem dL_law_295 : decode cL_law 295 = .ok (.aload_n 1, 1) := by decide +kernel
theorem dL_law_296 : decode cL_law 296 = .ok (.iload 4, 2) := by decide +kernel
theorem dL_law_298 : decode cL_law 298 = .ok (.iconst 2, 1) := by decide +kernel
theorem dL_law_299 : decode cL_law 299 = .ok (.invokevirtual 39, 3) := by decide +kernel
theorem dL_law_302 : decode cL_law 302 = .ok (.ifCond .le 166, 3) := by decide +kernel
theorem dL_law_305 : decode cL_law 305 = .ok (.aload_n 1, 1) := by decide +kernel
theorem dL_law_306 : decode cL_law 306 = .ok (.iload 4, 2) := by decide +kernel
theorem dL_law_308 : decode cL_law 308 = .ok (.iconst 1, 1) := by decide +kernel
theorem dL_law_309 : decode cL_law 309 = .ok (.iload_n 3, 1) := by decide +kernel
theorem dL_law_310 : decode cL_law 310 = .ok (.iconst 2, 1) := by decide +kernel
theorem dL_law_311 : decode cL_law 311 = .ok (.ishr, 1) := by decide +kernel
theorem dL_law_312 : decode cL_law 312 = .ok (.aload_n 1, 1) := by decide +kernel
theorem dL_law_313 : decode cL_law 313 = .ok (.iload 4, 2) := by decide +kernel
theorem dL_law_315 : decode cL_law 315 = .ok (.iconst 2, 1) := by decide +kernel
theorem dL_law_316 : decode cL_law 316 = .ok (.invokevirtual 39, 3) := by decide +kernel
theorem dL_law_319 : decode cL_law 319 = .ok (.invokestatic 25, 3) := by decide +kernel
theorem dL_law_322 : decode cL_law 322 = .ok (.iadd, 1) := by decide +kernel
theorem dL_law_323 : decode cL_law 323 = .ok (.iconst 0, 1) := by decide +kernel
theorem dL_law_324 : decode cL_law 324 = .ok (.invokevirtual 49, 3) := by decide +kernel
theorem dL_law_327 : decode cL_law 327 = .ok (.iconst (-1), 1) := by decide +kernel
theorem dL_law_328 : decode cL_law 328 = .ok (.if_icmp .eq 140, 3) := by decide +kernel
theorem dL_law_331 : decode cL_law 331 = .ok (.aload_n 1, 1) := by decide +kernel
theorem dL_law_332 : decode cL_law 332 = .ok (.iload 4, 2) := by decide +kernel
theorem dL_law_334 : decode cL_law 334 = .ok (.iconst 1, 1) := by decide +kernel
theorem dL_law_335 : decode cL_law 335 = .ok (.iload_n 3, 1) := by decide +kernel
theorem dL_law_336 : decode cL_law 336 = .ok (.iconst 2, 1) := by decide +kernel
theorem dL_law_337 : decode cL_law 337 = .ok (.ishr, 1) := by decide +kernel
theorem dL_law_338 : decode cL_law 338 = .ok (.aload_n 1, 1) := by decide +kernel
theorem dL_law_339 : decode cL_law 339 = .ok (.iload 4, 2) := by decide +kernel
theorem dL_law_341 : decode cL_law 341 = .ok (.iconst 2, 1) := by decide +kernel
theorem dL_law_342 : decode cL_law 342 = .ok (.invokevirtual 39, 3) := by decide +kernel
theorem dL_law_345 : decode cL_law 345 = .ok (.invokestatic 25, 3) := by decide +kernel
theorem dL_law_348 : decode cL_law 348 = .ok (.iadd, 1) := by decide +kernel
theorem dL_law_349 : decode cL_law 349 = .ok (.invokevirtual 53, 3) := by decide +kernel
theorem dL_law_352 : decode cL_law 352 = .ok (.pop, 1) := by decide +kernel
theorem dL_law_353 : decode cL_law 353 = .ok (.goto 115, 3) := by decide +kernel
def T_L_law_c3 (sp_X6_ofPerson sp_L_below sp_X6_giver sp_X6_revoke : List ab_V → ab_M → ab_O) : ab_T := [(295, some (s_aload 1 296)), (296, some (s_iload 4 298)), (298, some (s_const (vI 2) 299)), (299, some (s_call 8 sp_X6_ofPerson 3 [] 302)), (302, some (s_ifgt 305 468)), (305, some (s_aload 1 306)), (306, some (s_iload 4 308)), (308, some (s_const (vI 1) 309)), (309, some (s_iload 3 310)), (310, some (s_const (vI 2) 311)), (311, some (s_bin (fun x y => x >>> (y &&& 31)) 312)), (312, some (s_aload 1 313)), (313, some (s_iload 4 315)), (315, some (s_const (vI 2) 316)), (316, some (s_call 8 sp_X6_ofPerson 3 [] 319)), (319, some (s_call 999 sp_L_below 2 [] 322)), (322, some (s_bin (· + ·) 323)), (323, some (s_const (vI 0) 324)), (324, some (s_call 8 sp_X6_giver 4 [] 327)), (327, some (s_const (vI (-1)) 328)), (328, some (s_cmpeq 468 331)), (331, some (s_aload 1 332)), (332, some (s_iload 4 334)), (334, some (s_const (vI 1) 335)), (335, some (s_iload 3 336)), (336, some (s_const (vI 2) 337)), (337, some (s_bin (fun x y => x >>> (y &&& 31)) 338)), (338, some (s_aload 1 339)), (339, some (s_iload 4 341)), (341, some (s_const (vI 2) 342)), (342, some (s_call 8 sp_X6_ofPerson 3 [] 345)), (345, some (s_call 999 sp_L_below 2 [] 348)), (348, some (s_bin (· + ·) 349)), (349, some (s_call 8 sp_X6_revoke 3 [] 352)), (352, some (s_pop 353)), (353, some (s_goto 468))]
set_option maxRecDepth 20000 in
theorem mt_L_law_c3 {sp_X6_ofPerson sp_L_below sp_X6_giver sp_X6_revoke : List ab_V → ab_M → ab_O} : MonoT (T_L_law_c3 sp_X6_ofPerson sp_L_below sp_X6_giver sp_X6_revoke) := MA_mem (And.intro mono_aload (And.intro mono_iload (And.intro mono_const (And.intro mono_call (And.intro mono_ifgt (And.intro mono_aload (And.intro mono_iload (And.intro mono_const (And.intro mono_iload (And.intro mono_const (And.intro mono_bin (And.intro mono_aload (And.intro mono_iload (And.intro mono_const (And.intro mono_call (And.intro mono_call (And.intro mono_bin (And.intro mono_const (And.intro mono_call (And.intro mono_const (And.intro mono_cmpeq (And.intro mono_aload (And.intro mono_iload (And.intro mono_const (And.intro mono_iload (And.intro mono_const (And.intro mono_bin (And.intro mono_aload (And.intro mono_iload (And.intro mono_const (And.intro mono_call (And.intro mono_call (And.intro mono_bin (And.intro mono_call (And.intro mono_pop (And.intro mono_goto trivial))))))))))))))))))))))))))))))))))))
set_option maxRecDepth 20000 in
set_option maxHeartbeats 4000000 in
theorem snd_L_law_c3 {l : Launch} {D : va_G} {cA : Nat → ClassId} {d : Nat} {sp_X6_ofPerson sp_L_below sp_X6_giver sp_X6_revoke : List ab_V → ab_M → ab_O} {d' : Nat} (hd9 : d' + 1 ≤ d) (hC_X6_ofPerson : ∀ as m, Ctr l D cA d' yX6_ofPerson (Cond.code yX6_ofPerson cX6_ofPerson 3 (some .int) :: TB) as m (sp_X6_ofPerson as m)) (hC_L_below : ∀ as m, Ctr l D cA d' yL_below (Cond.code yL_below cL_below 2 (some .int) :: TB) as m (sp_L_below as m)) (hC_X6_giver : ∀ as m, Ctr l D cA d' yX6_giver (Cond.code yX6_giver cX6_giver 4 (some .int) :: TB) as m (sp_X6_giver as m)) (hC_X6_revoke : ∀ as m, Ctr l D cA d' yX6_revoke (Cond.code yX6_revoke cX6_revoke 4 (some .int) :: TB) as m (sp_X6_revoke as m)) : Sound l D cA d 12 yL_law cL_law (some .boolean) [] (T_L_law_c3 sp_X6_ofPerson sp_L_below sp_X6_giver sp_X6_revoke) := by
  intro p e R s m args below meth c loc0 m0 r Q E hQ h0 hrt hnm htab
  exact SA_mem (And.intro (fun ls st mm h => so_aload_n E rfl dL_law_295 h) (And.intro (fun ls st mm h => so_iload E dL_law_296 h) (And.intro (fun ls st mm h => so_iconst E (by decide) dL_law_298 h) (And.intro (fun ls st mm h => so_callV E hQ rfl (fun _ h => h) h0 (idx := 39) (C := RX6) (T := TX6) (N := 11) rfl (by decide) (by decide) rfl hd9 (by decide) hC_X6_ofPerson (hd_nil htab) tw_t3_71 tw_t3_72 tw_t3_73 tw_t1_1 tw_t3_74 (by decide +kernel) dL_law_299 h) (And.intro (fun ls st mm h => so_ifle E (tgt := 468) (by decide) dL_law_302 h) (And.intro (fun ls st mm h => so_aload_n E rfl dL_law_305 h) (And.intro (fun ls st mm h => so_iload E dL_law_306 h) (And.intro (fun ls st mm h => so_iconst E (by decide) dL_law_308 h) (And.intro (fun ls st mm h => so_iload_n E rfl dL_law_309 h) (And.intro (fun ls st mm h => so_iconst E (by decide) dL_law_310 h) (And.intro (fun ls st mm h => so_ishr E dL_law_311 h) (And.intro (fun ls st mm h => so_aload_n E rfl dL_law_312 h) (And.intro (fun ls st mm h => so_iload E dL_law_313 h) (And.intro (fun ls st mm h => so_iconst E (by decide) dL_law_315 h) (And.intro (fun ls st mm h => so_callV E hQ rfl (fun _ h => h) h0 (idx := 39) (C := RX6) (T := TX6) (N := 11) rfl (by decide) (by decide) rfl hd9 (by decide) hC_X6_ofPerson (hd_nil htab) tw_t3_71 tw_t3_72 tw_t3_73 tw_t1_1 tw_t3_74 (by decide +kernel) dL_law_316 h) (And.intro (fun ls st mm h => so_callS E hQ rfl (fun _ h => h) h0 (idx := 25) hd9 (by decide) hC_L_below (hd_nil htab) tw_t3_183 tw_t3_184 tw_t1_0 tw_t3_185 (by decide +kernel) dL_law_319 h) (And.intro (fun ls st mm h => so_iadd E dL_law_322 h) (And.intro (fun ls st mm h => so_iconst E (by decide) dL_law_323 h) (And.intro (fun ls st mm h => so_callV E hQ rfl (fun _ h => h) h0 (idx := 49) (C := RX6) (T := TX6) (N := 11) rfl (by decide) (by decide) rfl hd9 (by decide) hC_X6_giver (hd_nil htab) tw_t3_91 tw_t3_92 tw_t3_93 tw_t1_1 tw_t3_94 (by decide +kernel) dL_law_324 h) (And.intro (fun ls st mm h => so_iconst E (by decide) dL_law_327 h) (And.intro (fun ls st mm h => so_icmpeq E (tgt := 468) (by decide) dL_law_328 h) (And.intro (fun ls st mm h => so_aload_n E rfl dL_law_331 h) (And.intro (fun ls st mm h => so_iload E dL_law_332 h) (And.intro (fun ls st mm h => so_iconst E (by decide) dL_law_334 h) (And.intro (fun ls st mm h => so_iload_n E rfl dL_law_335 h) (And.intro (fun ls st mm h => so_iconst E (by decide) dL_law_336 h) (And.intro (fun ls st mm h => so_ishr E dL_law_337 h) (And.intro (fun ls st mm h => so_aload_n E rfl dL_law_338 h) (And.intro (fun ls st mm h => so_iload E dL_law_339 h) (And.intro (fun ls st mm h => so_iconst E (by decide) dL_law_341 h) (And.intro (fun ls st mm h => so_callV E hQ rfl (fun _ h => h) h0 (idx := 39) (C := RX6) (T := TX6) (N := 11) rfl (by decide) (by decide) rfl hd9 (by decide) hC_X6_ofPerson (hd_nil htab) tw_t3_71 tw_t3_72 tw_t3_73 tw_t1_1 tw_t3_74 (by decide +kernel) dL_law_342 h) (And.intro (fun ls st mm h => so_callS E hQ rfl (fun _ h => h) h0 (idx := 25) hd9 (by decide) hC_L_below (hd_nil htab) tw_t3_183 tw_t3_184 tw_t1_0 tw_t3_185 (by decide +kernel) dL_law_345 h) (And.intro (fun ls st mm h => so_iadd E dL_law_348 h) (And.intro (fun ls st mm h => so_callV E hQ rfl (fun _ h => h) h0 (idx := 53) (C := RX6) (T := TX6) (N := 11) rfl (by decide) (by decide) rfl hd9 (by decide) hC_X6_revoke (hd_nil htab) tw_t2_133 tw_t2_134 tw_t2_135 tw_t1_1 tw_t2_136 (by decide +kernel) dL_law_349 h) (And.intro (fun ls st mm h => so_pop E dL_law_352 h) (And.intro (fun ls st mm h => so_goto E (tgt := 468) (by decide) dL_law_353 h) (trivial)))))))))))))))))))))))))))))))))))))
