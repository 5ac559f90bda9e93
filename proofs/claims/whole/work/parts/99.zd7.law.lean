/-! the law: c26 c27 t -/
theorem dL_law_2063 : decode cL_law 2063 = .ok (.aload_n 1, 1) := by decide +kernel
theorem dL_law_2064 : decode cL_law 2064 = .ok (.aload_n 0, 1) := by decide +kernel
theorem dL_law_2065 : decode cL_law 2065 = .ok (.iload 5, 2) := by decide +kernel
theorem dL_law_2067 : decode cL_law 2067 = .ok (.iconst 1, 1) := by decide +kernel
theorem dL_law_2068 : decode cL_law 2068 = .ok (.iadd, 1) := by decide +kernel
theorem dL_law_2069 : decode cL_law 2069 = .ok (.iaload, 1) := by decide +kernel
theorem dL_law_2070 : decode cL_law 2070 = .ok (.aload_n 3, 1) := by decide +kernel
theorem dL_law_2071 : decode cL_law 2071 = .ok (.invokestatic 200, 3) := by decide +kernel
theorem dL_law_2074 : decode cL_law 2074 = .ok (.istore 6, 2) := by decide +kernel
theorem dL_law_2076 : decode cL_law 2076 = .ok (.aload_n 2, 1) := by decide +kernel
theorem dL_law_2077 : decode cL_law 2077 = .ok (.aload_n 0, 1) := by decide +kernel
theorem dL_law_2078 : decode cL_law 2078 = .ok (.iload 5, 2) := by decide +kernel
theorem dL_law_2080 : decode cL_law 2080 = .ok (.iconst 1, 1) := by decide +kernel
theorem dL_law_2081 : decode cL_law 2081 = .ok (.iadd, 1) := by decide +kernel
theorem dL_law_2082 : decode cL_law 2082 = .ok (.iaload, 1) := by decide +kernel
theorem dL_law_2083 : decode cL_law 2083 = .ok (.invokevirtual 202, 3) := by decide +kernel
theorem dL_law_2086 : decode cL_law 2086 = .ok (.istore 7, 2) := by decide +kernel
theorem dL_law_2088 : decode cL_law 2088 = .ok (.aload_n 2, 1) := by decide +kernel
theorem dL_law_2089 : decode cL_law 2089 = .ok (.invokevirtual 115, 3) := by decide +kernel
theorem dL_law_2092 : decode cL_law 2092 = .ok (.iload 6, 2) := by decide +kernel
theorem dL_law_2094 : decode cL_law 2094 = .ok (.if_icmp .eq 5, 3) := by decide +kernel
theorem dL_law_2097 : decode cL_law 2097 = .ok (.iconst 0, 1) := by decide +kernel
theorem dL_law_2098 : decode cL_law 2098 = .ok (.ireturn, 1) := by decide +kernel
theorem dL_law_2099 : decode cL_law 2099 = .ok (.iload 6, 2) := by decide +kernel
theorem dL_law_2101 : decode cL_law 2101 = .ok (.ifCond .ne 15, 3) := by decide +kernel
theorem dL_law_2104 : decode cL_law 2104 = .ok (.aload_n 3, 1) := by decide +kernel
theorem dL_law_2105 : decode cL_law 2105 = .ok (.iconst 0, 1) := by decide +kernel
theorem dL_law_2106 : decode cL_law 2106 = .ok (.laload, 1) := by decide +kernel
theorem dL_law_2107 : decode cL_law 2107 = .ok (.iload 7, 2) := by decide +kernel
theorem dL_law_2109 : decode cL_law 2109 = .ok (.i2l, 1) := by decide +kernel
theorem dL_law_2110 : decode cL_law 2110 = .ok (.lcmp, 1) := by decide +kernel
theorem dL_law_2111 : decode cL_law 2111 = .ok (.ifCond .eq 5, 3) := by decide +kernel
theorem dL_law_2114 : decode cL_law 2114 = .ok (.iconst 0, 1) := by decide +kernel
theorem dL_law_2115 : decode cL_law 2115 = .ok (.ireturn, 1) := by decide +kernel
theorem dL_law_2116 : decode cL_law 2116 = .ok (.goto 17, 3) := by decide +kernel
def T_L_law_c26 (sp_L_wouldLose sp_X9_wouldLose sp_X9_thrown : List ab_V → ab_M → ab_O) : ab_T := [(2063, some (s_aload 1 2064)), (2064, some (s_aload 0 2065)), (2065, some (s_iload 5 2067)), (2067, some (s_const (vI 1) 2068)), (2068, some (s_bin (· + ·) 2069)), (2069, some (s_ald 100 2070)), (2070, some (s_aload 3 2071)), (2071, some (s_call 999 sp_L_wouldLose 3 [] 2074)), (2074, some (s_istore 6 2076)), (2076, some (s_aload 2 2077)), (2077, some (s_aload 0 2078)), (2078, some (s_iload 5 2080)), (2080, some (s_const (vI 1) 2081)), (2081, some (s_bin (· + ·) 2082)), (2082, some (s_ald 100 2083)), (2083, some (s_call 11 sp_X9_wouldLose 2 [] 2086)), (2086, some (s_istore 7 2088)), (2088, some (s_aload 2 2089)), (2089, some (s_call 11 sp_X9_thrown 1 [] 2092)), (2092, some (s_iload 6 2094)), (2094, some (s_cmpeq 2099 2097)), (2097, some (s_const (vI 0) 2098)), (2098, some (s_ret 1)), (2099, some (s_iload 6 2101)), (2101, some (s_ifeq 2104 2116)), (2104, some (s_aload 3 2105)), (2105, some (s_const (vI 0) 2106)), (2106, some (s_lald 2107)), (2107, some (s_iload 7 2109)), (2109, some (s_i2l 2110)), (2110, some (s_lcmp 2111)), (2111, some (s_ifeq 2116 2114)), (2114, some (s_const (vI 0) 2115)), (2115, some (s_ret 1)), (2116, some (s_goto 2133))]
set_option maxRecDepth 20000 in
theorem mt_L_law_c26 {sp_L_wouldLose sp_X9_wouldLose sp_X9_thrown : List ab_V → ab_M → ab_O} : MonoT (T_L_law_c26 sp_L_wouldLose sp_X9_wouldLose sp_X9_thrown) := MA_mem (And.intro mono_aload (And.intro mono_aload (And.intro mono_iload (And.intro mono_const (And.intro mono_bin (And.intro mono_ald (And.intro mono_aload (And.intro mono_call (And.intro mono_istore (And.intro mono_aload (And.intro mono_aload (And.intro mono_iload (And.intro mono_const (And.intro mono_bin (And.intro mono_ald (And.intro mono_call (And.intro mono_istore (And.intro mono_aload (And.intro mono_call (And.intro mono_iload (And.intro mono_cmpeq (And.intro mono_const (And.intro mono_ret (And.intro mono_iload (And.intro mono_ifeq (And.intro mono_aload (And.intro mono_const (And.intro mono_lald (And.intro mono_iload (And.intro mono_i2l (And.intro mono_lcmp (And.intro mono_ifeq (And.intro mono_const (And.intro mono_ret (And.intro mono_goto trivial)))))))))))))))))))))))))))))))))))
set_option maxRecDepth 20000 in
set_option maxHeartbeats 4000000 in
theorem snd_L_law_c26 {l : Launch} {D : va_G} {cA : Nat → ClassId} {d : Nat} {sp_L_wouldLose sp_X9_wouldLose sp_X9_thrown : List ab_V → ab_M → ab_O} {d' : Nat} (hd9 : d' + 1 ≤ d) (hC_L_wouldLose : ∀ as m, Ctr l D cA d' yL_wouldLose (Cond.codeWith yL_wouldLose cL_wouldLose 4 (some .int) [(0, 9, 12, 13)] :: TB) as m (sp_L_wouldLose as m)) (hC_X9_wouldLose : ∀ as m, Ctr l D cA d' yX9_wouldLose (Cond.code yX9_wouldLose cX9_wouldLose 2 (some .int) :: TB) as m (sp_X9_wouldLose as m)) (hC_X9_thrown : ∀ as m, Ctr l D cA d' yX9_thrown (Cond.code yX9_thrown cX9_thrown 1 (some .int) :: TB) as m (sp_X9_thrown as m)) : Sound l D cA d 9 yL_law cL_law (some .boolean) [] (T_L_law_c26 sp_L_wouldLose sp_X9_wouldLose sp_X9_thrown) := by
  intro p e R s m args below meth c loc0 m0 r Q E hQ h0 hrt hnm htab
  exact SA_mem (And.intro (fun ls st mm h => so_aload_n E rfl dL_law_2063 h) (And.intro (fun ls st mm h => so_aload_n E rfl dL_law_2064 h) (And.intro (fun ls st mm h => so_iload E dL_law_2065 h) (And.intro (fun ls st mm h => so_iconst E (by decide) dL_law_2067 h) (And.intro (fun ls st mm h => so_iadd E dL_law_2068 h) (And.intro (fun ls st mm h => so_iald E dL_law_2069 h) (And.intro (fun ls st mm h => so_aload_n E rfl dL_law_2070 h) (And.intro (fun ls st mm h => so_callSX E hQ rfl (fun _ h => h) h0 (idx := 200) hd9 (by decide) hC_L_wouldLose (hd_nil htab) tw_t4_152 tw_t4_153 tw_t1_0 tw_t4_154 (by decide +kernel) dL_law_2071 h) (And.intro (fun ls st mm h => so_istore E dL_law_2074 h) (And.intro (fun ls st mm h => so_aload_n E rfl dL_law_2076 h) (And.intro (fun ls st mm h => so_aload_n E rfl dL_law_2077 h) (And.intro (fun ls st mm h => so_iload E dL_law_2078 h) (And.intro (fun ls st mm h => so_iconst E (by decide) dL_law_2080 h) (And.intro (fun ls st mm h => so_iadd E dL_law_2081 h) (And.intro (fun ls st mm h => so_iald E dL_law_2082 h) (And.intro (fun ls st mm h => so_callV E hQ rfl (fun _ h => h) h0 (idx := 202) (C := RX9) (T := TX9) (N := 10) rfl (by decide) (by decide) rfl hd9 (by decide) hC_X9_wouldLose (hd_nil htab) tw_t6_225 tw_t6_226 tw_t6_227 tw_t1_8 tw_t6_228 (by decide +kernel) dL_law_2083 h) (And.intro (fun ls st mm h => so_istore E dL_law_2086 h) (And.intro (fun ls st mm h => so_aload_n E rfl dL_law_2088 h) (And.intro (fun ls st mm h => so_callV E hQ rfl (fun _ h => h) h0 (idx := 115) (C := RX9) (T := TX9) (N := 10) rfl (by decide) (by decide) rfl hd9 (by decide) hC_X9_thrown (hd_nil htab) tw_t4_222 tw_t4_223 tw_t4_224 tw_t1_8 tw_t4_225 (by decide +kernel) dL_law_2089 h) (And.intro (fun ls st mm h => so_iload E dL_law_2092 h) (And.intro (fun ls st mm h => so_icmpeq E (tgt := 2099) (by decide) dL_law_2094 h) (And.intro (fun ls st mm h => so_iconst E (by decide) dL_law_2097 h) (And.intro (fun ls st mm h => so_ireturn E hQ rfl (fun _ h => h) h0 (ty := .boolean) hrt (Or.inr ⟨rfl, rfl⟩) dL_law_2098 h) (And.intro (fun ls st mm h => so_iload E dL_law_2099 h) (And.intro (fun ls st mm h => so_ifne E (tgt := 2116) (by decide) dL_law_2101 h) (And.intro (fun ls st mm h => so_aload_n E rfl dL_law_2104 h) (And.intro (fun ls st mm h => so_iconst E (by decide) dL_law_2105 h) (And.intro (fun ls st mm h => so_lald E dL_law_2106 h) (And.intro (fun ls st mm h => so_iload E dL_law_2107 h) (And.intro (fun ls st mm h => so_i2l E dL_law_2109 h) (And.intro (fun ls st mm h => so_lcmp E dL_law_2110 h) (And.intro (fun ls st mm h => so_ifeq E (tgt := 2116) (by decide) dL_law_2111 h) (And.intro (fun ls st mm h => so_iconst E (by decide) dL_law_2114 h) (And.intro (fun ls st mm h => so_ireturn E hQ rfl (fun _ h => h) h0 (ty := .boolean) hrt (Or.inr ⟨rfl, rfl⟩) dL_law_2115 h) (And.intro (fun ls st mm h => so_goto E (tgt := 2133) (by decide) dL_law_2116 h) (trivial))))))))))))))))))))))))))))))))))))
theorem dL_law_2119 : decode cL_law 2119 = .ok (.aload_n 1, 1) := by decide +kernel
theorem dL_law_2120 : decode cL_law 2120 = .ok (.invokevirtual 203, 3) := by decide +kernel
theorem dL_law_2123 : decode cL_law 2123 = .ok (.aload_n 2, 1) := by decide +kernel
theorem dL_law_2124 : decode cL_law 2124 = .ok (.invokevirtual 207, 3) := by decide +kernel
theorem dL_law_2127 : decode cL_law 2127 = .ok (.lcmp, 1) := by decide +kernel
theorem dL_law_2128 : decode cL_law 2128 = .ok (.ifCond .eq 5, 3) := by decide +kernel
theorem dL_law_2131 : decode cL_law 2131 = .ok (.iconst 0, 1) := by decide +kernel
theorem dL_law_2132 : decode cL_law 2132 = .ok (.ireturn, 1) := by decide +kernel
def T_L_law_c27 (sp_X6_digest sp_X9_digest : List ab_V → ab_M → ab_O) : ab_T := [(2119, some (s_aload 1 2120)), (2120, some (s_call 8 sp_X6_digest 1 [] 2123)), (2123, some (s_aload 2 2124)), (2124, some (s_call 11 sp_X9_digest 1 [] 2127)), (2127, some (s_lcmp 2128)), (2128, some (s_ifeq 2133 2131)), (2131, some (s_const (vI 0) 2132)), (2132, some (s_ret 1))]
set_option maxRecDepth 20000 in
theorem mt_L_law_c27 {sp_X6_digest sp_X9_digest : List ab_V → ab_M → ab_O} : MonoT (T_L_law_c27 sp_X6_digest sp_X9_digest) := MA_mem (And.intro mono_aload (And.intro mono_call (And.intro mono_aload (And.intro mono_call (And.intro mono_lcmp (And.intro mono_ifeq (And.intro mono_const (And.intro mono_ret trivial))))))))
set_option maxRecDepth 20000 in
set_option maxHeartbeats 4000000 in
theorem snd_L_law_c27 {l : Launch} {D : va_G} {cA : Nat → ClassId} {d : Nat} {sp_X6_digest sp_X9_digest : List ab_V → ab_M → ab_O} {d' : Nat} (hd9 : d' + 1 ≤ d) (hC_X6_digest : ∀ as m, Ctr l D cA d' yX6_digest (Cond.code yX6_digest cX6_digest 5 (some .long) :: TB) as m (sp_X6_digest as m)) (hC_X9_digest : ∀ as m, Ctr l D cA d' yX9_digest (Cond.code yX9_digest cX9_digest 5 (some .long) :: TB) as m (sp_X9_digest as m)) : Sound l D cA d 9 yL_law cL_law (some .boolean) [] (T_L_law_c27 sp_X6_digest sp_X9_digest) := by
  intro p e R s m args below meth c loc0 m0 r Q E hQ h0 hrt hnm htab
  exact SA_mem (And.intro (fun ls st mm h => so_aload_n E rfl dL_law_2119 h) (And.intro (fun ls st mm h => so_callV E hQ rfl (fun _ h => h) h0 (idx := 203) (C := RX6) (T := TX6) (N := 11) rfl (by decide) (by decide) rfl hd9 (by decide) hC_X6_digest (hd_nil htab) tw_t2_30 tw_t2_31 tw_t2_32 tw_t1_1 tw_t2_33 (by decide +kernel) dL_law_2120 h) (And.intro (fun ls st mm h => so_aload_n E rfl dL_law_2123 h) (And.intro (fun ls st mm h => so_callV E hQ rfl (fun _ h => h) h0 (idx := 207) (C := RX9) (T := TX9) (N := 10) rfl (by decide) (by decide) rfl hd9 (by decide) hC_X9_digest (hd_nil htab) tw_t6_229 tw_t6_230 tw_t6_231 tw_t1_8 tw_t6_232 (by decide +kernel) dL_law_2124 h) (And.intro (fun ls st mm h => so_lcmp E dL_law_2127 h) (And.intro (fun ls st mm h => so_ifeq E (tgt := 2133) (by decide) dL_law_2128 h) (And.intro (fun ls st mm h => so_iconst E (by decide) dL_law_2131 h) (And.intro (fun ls st mm h => so_ireturn E hQ rfl (fun _ h => h) h0 (ty := .boolean) hrt (Or.inr ⟨rfl, rfl⟩) dL_law_2132 h) (trivial)))))))))
theorem dL_law_2133 : decode cL_law 2133 = .ok (.iinc 5 6, 3) := by decide +kernel
theorem dL_law_2136 : decode cL_law 2136 = .ok (.goto (-2108), 3) := by decide +kernel
theorem dL_law_2139 : decode cL_law 2139 = .ok (.iconst 1, 1) := by decide +kernel
theorem dL_law_2140 : decode cL_law 2140 = .ok (.ireturn, 1) := by decide +kernel
def T_L_law_t : ab_T := [(2133, some (s_iinc 5 6 2136)), (2136, some (s_goto 28)), (2139, some (s_const (vI 1) 2140)), (2140, some (s_ret 1))]
set_option maxRecDepth 20000 in
theorem mt_L_law_t : MonoT (T_L_law_t) := MA_mem (And.intro mono_iinc (And.intro mono_goto (And.intro mono_const (And.intro mono_ret trivial))))
set_option maxRecDepth 20000 in
set_option maxHeartbeats 4000000 in
theorem snd_L_law_t {l : Launch} {D : va_G} {cA : Nat → ClassId} {d : Nat} : Sound l D cA d 9 yL_law cL_law (some .boolean) [] (T_L_law_t) := by
  intro p e R s m args below meth c loc0 m0 r Q E hQ h0 hrt hnm htab
  exact SA_mem (And.intro (fun ls st mm h => so_iinc E (by decide) dL_law_2133 h) (And.intro (fun ls st mm h => so_goto E (tgt := 28) (by decide) dL_law_2136 h) (And.intro (fun ls st mm h => so_iconst E (by decide) dL_law_2139 h) (And.intro (fun ls st mm h => so_ireturn E hQ rfl (fun _ h => h) h0 (ty := .boolean) hrt (Or.inr ⟨rfl, rfl⟩) dL_law_2140 h) (trivial)))))
