/-! decode rows and tables, by program: L_person L_give L_revoke L_die L_adopt L_heir L_part L_pass L_secret L_read L_copy L_rebuild L_utensil L_lend L_mend L_quarrel L_hold L_ofPerson L_giver L_ofHouse L_ofSecret L_ofUtensil L_many L_meanStep L_plan L_wouldFall L_wouldLose -/
theorem dL_person_0 : decode cL_person 0 = .ok (.aload_n 3, 1) := by decide +kernel
theorem dL_person_1 : decode cL_person 1 = .ok (.iconst 0, 1) := by decide +kernel
theorem dL_person_2 : decode cL_person 2 = .ok (.aload_n 0, 1) := by decide +kernel
theorem dL_person_3 : decode cL_person 3 = .ok (.iload_n 1, 1) := by decide +kernel
theorem dL_person_4 : decode cL_person 4 = .ok (.iload_n 2, 1) := by decide +kernel
theorem dL_person_5 : decode cL_person 5 = .ok (.invokevirtual 7, 3) := by decide +kernel
theorem dL_person_8 : decode cL_person 8 = .ok (.i2l, 1) := by decide +kernel
theorem dL_person_9 : decode cL_person 9 = .ok (.lastore, 1) := by decide +kernel
theorem dL_person_10 : decode cL_person 10 = .ok (.goto 11, 3) := by decide +kernel
theorem dL_person_13 : decode cL_person 13 = .ok (.astore 4, 2) := by decide +kernel
theorem dL_person_15 : decode cL_person 15 = .ok (.iconst 1, 1) := by decide +kernel
theorem dL_person_16 : decode cL_person 16 = .ok (.ireturn, 1) := by decide +kernel
theorem dL_person_17 : decode cL_person 17 = .ok (.astore 4, 2) := by decide +kernel
theorem dL_person_19 : decode cL_person 19 = .ok (.iconst 2, 1) := by decide +kernel
theorem dL_person_20 : decode cL_person 20 = .ok (.ireturn, 1) := by decide +kernel
theorem dL_person_21 : decode cL_person 21 = .ok (.iconst 0, 1) := by decide +kernel
theorem dL_person_22 : decode cL_person 22 = .ok (.ireturn, 1) := by decide +kernel
def T_L_person (sp_X6_person : List ab_V → ab_M → ab_O) : ab_T := [(0, some (s_aload 3 1)), (1, some (s_const (vI 0) 2)), (2, some (s_aload 0 3)), (3, some (s_iload 1 4)), (4, some (s_iload 2 5)), (5, some (s_call 8 sp_X6_person 3 [("java/lang/IndexOutOfBoundsException", 13), ("java/lang/IllegalStateException", 17)] 8)), (8, some (s_i2l 9)), (9, some (s_last 10)), (10, some (s_goto 21)), (13, some (s_astore 4 15)), (15, some (s_const (vI 1) 16)), (16, some (s_ret 0)), (17, some (s_astore 4 19)), (19, some (s_const (vI 2) 20)), (20, some (s_ret 0)), (21, some (s_const (vI 0) 22)), (22, some (s_ret 0))]
set_option maxRecDepth 20000 in
theorem mt_L_person {sp_X6_person : List ab_V → ab_M → ab_O} : MonoT (T_L_person sp_X6_person) := MA_mem (And.intro mono_aload (And.intro mono_const (And.intro mono_aload (And.intro mono_iload (And.intro mono_iload (And.intro mono_call (And.intro mono_i2l (And.intro mono_last (And.intro mono_goto (And.intro mono_astore (And.intro mono_const (And.intro mono_ret (And.intro mono_astore (And.intro mono_const (And.intro mono_ret (And.intro mono_const (And.intro mono_ret trivial)))))))))))))))))
set_option maxRecDepth 20000 in
set_option maxHeartbeats 4000000 in
theorem snd_L_person {l : Launch} {D : va_G} {cA : Nat → ClassId} {d : Nat} {sp_X6_person : List ab_V → ab_M → ab_O} {d' : Nat} (hd9 : d' + 1 ≤ d) (hC_X6_person : ∀ as m, Ctr l D cA d' yX6_person (Cond.code yX6_person cX6_person 4 (some .int) :: TB) as m (sp_X6_person as m)) : Sound l D cA d 5 yL_person cL_person (some .int) (tableOf [(0, 10, 13, 13), (0, 10, 17, 15)]) (T_L_person sp_X6_person) := by
  intro p e R s m args below meth c loc0 m0 r Q E hQ h0 hrt hnm htab
  have hA_L_person : hdA yL_person.cls 5 c.exceptionTable.toList [("java/lang/IndexOutOfBoundsException", 13), ("java/lang/IllegalStateException", 17)] := by rw [htab]; exact ⟨⟨by decide +kernel, by decide +kernel, rfl, tw_t3_91, Or.inl rfl⟩, ⟨⟨by decide +kernel, by decide +kernel, rfl, tw_t3_92, Or.inr (Or.inr rfl)⟩, trivial⟩⟩
  exact SA_mem (And.intro (fun ls st mm h => so_aload_n E rfl dL_person_0 h) (And.intro (fun ls st mm h => so_iconst E (by decide) dL_person_1 h) (And.intro (fun ls st mm h => so_aload_n E rfl dL_person_2 h) (And.intro (fun ls st mm h => so_iload_n E rfl dL_person_3 h) (And.intro (fun ls st mm h => so_iload_n E rfl dL_person_4 h) (And.intro (fun ls st mm h => so_callV E hQ rfl (fun _ h => h) h0 (idx := 7) (C := RX6) (T := TX6) (N := 11) rfl (by decide) (by decide) rfl hd9 (by decide) hC_X6_person hA_L_person tw_t3_93 tw_t3_94 tw_t3_95 tw_t1_1 tw_t3_96 (by decide +kernel) dL_person_5 h) (And.intro (fun ls st mm h => so_i2l E dL_person_8 h) (And.intro (fun ls st mm h => so_last E dL_person_9 h) (And.intro (fun ls st mm h => so_goto E (tgt := 21) (by decide) dL_person_10 h) (And.intro (fun ls st mm h => so_astore E dL_person_13 h) (And.intro (fun ls st mm h => so_iconst E (by decide) dL_person_15 h) (And.intro (fun ls st mm h => so_ireturn E hQ rfl (fun _ h => h) h0 (ty := .int) hrt (Or.inl ⟨rfl, rfl⟩) dL_person_16 h) (And.intro (fun ls st mm h => so_astore E dL_person_17 h) (And.intro (fun ls st mm h => so_iconst E (by decide) dL_person_19 h) (And.intro (fun ls st mm h => so_ireturn E hQ rfl (fun _ h => h) h0 (ty := .int) hrt (Or.inl ⟨rfl, rfl⟩) dL_person_20 h) (And.intro (fun ls st mm h => so_iconst E (by decide) dL_person_21 h) (And.intro (fun ls st mm h => so_ireturn E hQ rfl (fun _ h => h) h0 (ty := .int) hrt (Or.inl ⟨rfl, rfl⟩) dL_person_22 h) (trivial))))))))))))))))))
theorem dL_give_0 : decode cL_give 0 = .ok (.aload_n 2, 1) := by decide +kernel
theorem dL_give_1 : decode cL_give 1 = .ok (.iconst 0, 1) := by decide +kernel
theorem dL_give_2 : decode cL_give 2 = .ok (.aload_n 0, 1) := by decide +kernel
theorem dL_give_3 : decode cL_give 3 = .ok (.iload_n 1, 1) := by decide +kernel
theorem dL_give_4 : decode cL_give 4 = .ok (.invokevirtual 17, 3) := by decide +kernel
theorem dL_give_7 : decode cL_give 7 = .ok (.i2l, 1) := by decide +kernel
theorem dL_give_8 : decode cL_give 8 = .ok (.lastore, 1) := by decide +kernel
theorem dL_give_9 : decode cL_give 9 = .ok (.goto 9, 3) := by decide +kernel
theorem dL_give_12 : decode cL_give 12 = .ok (.astore_n 3, 1) := by decide +kernel
theorem dL_give_13 : decode cL_give 13 = .ok (.iconst 1, 1) := by decide +kernel
theorem dL_give_14 : decode cL_give 14 = .ok (.ireturn, 1) := by decide +kernel
theorem dL_give_15 : decode cL_give 15 = .ok (.astore_n 3, 1) := by decide +kernel
theorem dL_give_16 : decode cL_give 16 = .ok (.iconst 2, 1) := by decide +kernel
theorem dL_give_17 : decode cL_give 17 = .ok (.ireturn, 1) := by decide +kernel
theorem dL_give_18 : decode cL_give 18 = .ok (.iconst 0, 1) := by decide +kernel
theorem dL_give_19 : decode cL_give 19 = .ok (.ireturn, 1) := by decide +kernel
def T_L_give (sp_X6_give : List ab_V → ab_M → ab_O) : ab_T := [(0, some (s_aload 2 1)), (1, some (s_const (vI 0) 2)), (2, some (s_aload 0 3)), (3, some (s_iload 1 4)), (4, some (s_call 8 sp_X6_give 2 [("java/lang/IndexOutOfBoundsException", 12), ("java/lang/IllegalStateException", 15)] 7)), (7, some (s_i2l 8)), (8, some (s_last 9)), (9, some (s_goto 18)), (12, some (s_astore 3 13)), (13, some (s_const (vI 1) 14)), (14, some (s_ret 0)), (15, some (s_astore 3 16)), (16, some (s_const (vI 2) 17)), (17, some (s_ret 0)), (18, some (s_const (vI 0) 19)), (19, some (s_ret 0))]
set_option maxRecDepth 20000 in
theorem mt_L_give {sp_X6_give : List ab_V → ab_M → ab_O} : MonoT (T_L_give sp_X6_give) := MA_mem (And.intro mono_aload (And.intro mono_const (And.intro mono_aload (And.intro mono_iload (And.intro mono_call (And.intro mono_i2l (And.intro mono_last (And.intro mono_goto (And.intro mono_astore (And.intro mono_const (And.intro mono_ret (And.intro mono_astore (And.intro mono_const (And.intro mono_ret (And.intro mono_const (And.intro mono_ret trivial))))))))))))))))
set_option maxRecDepth 20000 in
set_option maxHeartbeats 4000000 in
theorem snd_L_give {l : Launch} {D : va_G} {cA : Nat → ClassId} {d : Nat} {sp_X6_give : List ab_V → ab_M → ab_O} {d' : Nat} (hd9 : d' + 1 ≤ d) (hC_X6_give : ∀ as m, Ctr l D cA d' yX6_give (Cond.code yX6_give cX6_give 5 (some .int) :: TB) as m (sp_X6_give as m)) : Sound l D cA d 4 yL_give cL_give (some .int) (tableOf [(0, 9, 12, 13), (0, 9, 15, 15)]) (T_L_give sp_X6_give) := by
  intro p e R s m args below meth c loc0 m0 r Q E hQ h0 hrt hnm htab
  have hA_L_give : hdA yL_give.cls 4 c.exceptionTable.toList [("java/lang/IndexOutOfBoundsException", 12), ("java/lang/IllegalStateException", 15)] := by rw [htab]; exact ⟨⟨by decide +kernel, by decide +kernel, rfl, tw_t3_91, Or.inl rfl⟩, ⟨⟨by decide +kernel, by decide +kernel, rfl, tw_t3_92, Or.inr (Or.inr rfl)⟩, trivial⟩⟩
  exact SA_mem (And.intro (fun ls st mm h => so_aload_n E rfl dL_give_0 h) (And.intro (fun ls st mm h => so_iconst E (by decide) dL_give_1 h) (And.intro (fun ls st mm h => so_aload_n E rfl dL_give_2 h) (And.intro (fun ls st mm h => so_iload_n E rfl dL_give_3 h) (And.intro (fun ls st mm h => so_callV E hQ rfl (fun _ h => h) h0 (idx := 17) (C := RX6) (T := TX6) (N := 11) rfl (by decide) (by decide) rfl hd9 (by decide) hC_X6_give hA_L_give tw_t3_117 tw_t3_118 tw_t3_119 tw_t1_1 tw_t3_120 (by decide +kernel) dL_give_4 h) (And.intro (fun ls st mm h => so_i2l E dL_give_7 h) (And.intro (fun ls st mm h => so_last E dL_give_8 h) (And.intro (fun ls st mm h => so_goto E (tgt := 18) (by decide) dL_give_9 h) (And.intro (fun ls st mm h => so_astore_n E rfl dL_give_12 h) (And.intro (fun ls st mm h => so_iconst E (by decide) dL_give_13 h) (And.intro (fun ls st mm h => so_ireturn E hQ rfl (fun _ h => h) h0 (ty := .int) hrt (Or.inl ⟨rfl, rfl⟩) dL_give_14 h) (And.intro (fun ls st mm h => so_astore_n E rfl dL_give_15 h) (And.intro (fun ls st mm h => so_iconst E (by decide) dL_give_16 h) (And.intro (fun ls st mm h => so_ireturn E hQ rfl (fun _ h => h) h0 (ty := .int) hrt (Or.inl ⟨rfl, rfl⟩) dL_give_17 h) (And.intro (fun ls st mm h => so_iconst E (by decide) dL_give_18 h) (And.intro (fun ls st mm h => so_ireturn E hQ rfl (fun _ h => h) h0 (ty := .int) hrt (Or.inl ⟨rfl, rfl⟩) dL_give_19 h) (trivial)))))))))))))))))
theorem dL_revoke_0 : decode cL_revoke 0 = .ok (.aload_n 3, 1) := by decide +kernel
theorem dL_revoke_1 : decode cL_revoke 1 = .ok (.iconst 0, 1) := by decide +kernel
theorem dL_revoke_2 : decode cL_revoke 2 = .ok (.aload_n 0, 1) := by decide +kernel
theorem dL_revoke_3 : decode cL_revoke 3 = .ok (.iload_n 1, 1) := by decide +kernel
theorem dL_revoke_4 : decode cL_revoke 4 = .ok (.iload_n 2, 1) := by decide +kernel
theorem dL_revoke_5 : decode cL_revoke 5 = .ok (.invokevirtual 21, 3) := by decide +kernel
theorem dL_revoke_8 : decode cL_revoke 8 = .ok (.i2l, 1) := by decide +kernel
theorem dL_revoke_9 : decode cL_revoke 9 = .ok (.lastore, 1) := by decide +kernel
theorem dL_revoke_10 : decode cL_revoke 10 = .ok (.goto 15, 3) := by decide +kernel
theorem dL_revoke_13 : decode cL_revoke 13 = .ok (.astore 4, 2) := by decide +kernel
theorem dL_revoke_15 : decode cL_revoke 15 = .ok (.iconst 1, 1) := by decide +kernel
theorem dL_revoke_16 : decode cL_revoke 16 = .ok (.ireturn, 1) := by decide +kernel
theorem dL_revoke_17 : decode cL_revoke 17 = .ok (.astore 4, 2) := by decide +kernel
theorem dL_revoke_19 : decode cL_revoke 19 = .ok (.iconst 2, 1) := by decide +kernel
theorem dL_revoke_20 : decode cL_revoke 20 = .ok (.ireturn, 1) := by decide +kernel
theorem dL_revoke_21 : decode cL_revoke 21 = .ok (.astore 4, 2) := by decide +kernel
theorem dL_revoke_23 : decode cL_revoke 23 = .ok (.iconst 3, 1) := by decide +kernel
theorem dL_revoke_24 : decode cL_revoke 24 = .ok (.ireturn, 1) := by decide +kernel
theorem dL_revoke_25 : decode cL_revoke 25 = .ok (.iconst 0, 1) := by decide +kernel
theorem dL_revoke_26 : decode cL_revoke 26 = .ok (.ireturn, 1) := by decide +kernel
def T_L_revoke (sp_X6_revoke : List ab_V → ab_M → ab_O) : ab_T := [(0, some (s_aload 3 1)), (1, some (s_const (vI 0) 2)), (2, some (s_aload 0 3)), (3, some (s_iload 1 4)), (4, some (s_iload 2 5)), (5, some (s_call 8 sp_X6_revoke 3 [("java/lang/IndexOutOfBoundsException", 13), ("java/lang/IllegalArgumentException", 17), ("java/lang/IllegalStateException", 21)] 8)), (8, some (s_i2l 9)), (9, some (s_last 10)), (10, some (s_goto 25)), (13, some (s_astore 4 15)), (15, some (s_const (vI 1) 16)), (16, some (s_ret 0)), (17, some (s_astore 4 19)), (19, some (s_const (vI 2) 20)), (20, some (s_ret 0)), (21, some (s_astore 4 23)), (23, some (s_const (vI 3) 24)), (24, some (s_ret 0)), (25, some (s_const (vI 0) 26)), (26, some (s_ret 0))]
set_option maxRecDepth 20000 in
theorem mt_L_revoke {sp_X6_revoke : List ab_V → ab_M → ab_O} : MonoT (T_L_revoke sp_X6_revoke) := MA_mem (And.intro mono_aload (And.intro mono_const (And.intro mono_aload (And.intro mono_iload (And.intro mono_iload (And.intro mono_call (And.intro mono_i2l (And.intro mono_last (And.intro mono_goto (And.intro mono_astore (And.intro mono_const (And.intro mono_ret (And.intro mono_astore (And.intro mono_const (And.intro mono_ret (And.intro mono_astore (And.intro mono_const (And.intro mono_ret (And.intro mono_const (And.intro mono_ret trivial))))))))))))))))))))
set_option maxRecDepth 20000 in
set_option maxHeartbeats 4000000 in
theorem snd_L_revoke {l : Launch} {D : va_G} {cA : Nat → ClassId} {d : Nat} {sp_X6_revoke : List ab_V → ab_M → ab_O} {d' : Nat} (hd9 : d' + 1 ≤ d) (hC_X6_revoke : ∀ as m, Ctr l D cA d' yX6_revoke (Cond.code yX6_revoke cX6_revoke 4 (some .int) :: TB) as m (sp_X6_revoke as m)) : Sound l D cA d 5 yL_revoke cL_revoke (some .int) (tableOf [(0, 10, 13, 13), (0, 10, 17, 24), (0, 10, 21, 15)]) (T_L_revoke sp_X6_revoke) := by
  intro p e R s m args below meth c loc0 m0 r Q E hQ h0 hrt hnm htab
  have hA_L_revoke : hdA yL_revoke.cls 5 c.exceptionTable.toList [("java/lang/IndexOutOfBoundsException", 13), ("java/lang/IllegalArgumentException", 17), ("java/lang/IllegalStateException", 21)] := by rw [htab]; exact ⟨⟨by decide +kernel, by decide +kernel, rfl, tw_t3_91, Or.inl rfl⟩, ⟨⟨by decide +kernel, by decide +kernel, rfl, tw_t3_133, Or.inr (Or.inl rfl)⟩, ⟨⟨by decide +kernel, by decide +kernel, rfl, tw_t3_92, Or.inr (Or.inr rfl)⟩, trivial⟩⟩⟩
  exact SA_mem (And.intro (fun ls st mm h => so_aload_n E rfl dL_revoke_0 h) (And.intro (fun ls st mm h => so_iconst E (by decide) dL_revoke_1 h) (And.intro (fun ls st mm h => so_aload_n E rfl dL_revoke_2 h) (And.intro (fun ls st mm h => so_iload_n E rfl dL_revoke_3 h) (And.intro (fun ls st mm h => so_iload_n E rfl dL_revoke_4 h) (And.intro (fun ls st mm h => so_callV E hQ rfl (fun _ h => h) h0 (idx := 21) (C := RX6) (T := TX6) (N := 11) rfl (by decide) (by decide) rfl hd9 (by decide) hC_X6_revoke hA_L_revoke tw_t3_134 tw_t3_135 tw_t3_136 tw_t1_1 tw_t3_137 (by decide +kernel) dL_revoke_5 h) (And.intro (fun ls st mm h => so_i2l E dL_revoke_8 h) (And.intro (fun ls st mm h => so_last E dL_revoke_9 h) (And.intro (fun ls st mm h => so_goto E (tgt := 25) (by decide) dL_revoke_10 h) (And.intro (fun ls st mm h => so_astore E dL_revoke_13 h) (And.intro (fun ls st mm h => so_iconst E (by decide) dL_revoke_15 h) (And.intro (fun ls st mm h => so_ireturn E hQ rfl (fun _ h => h) h0 (ty := .int) hrt (Or.inl ⟨rfl, rfl⟩) dL_revoke_16 h) (And.intro (fun ls st mm h => so_astore E dL_revoke_17 h) (And.intro (fun ls st mm h => so_iconst E (by decide) dL_revoke_19 h) (And.intro (fun ls st mm h => so_ireturn E hQ rfl (fun _ h => h) h0 (ty := .int) hrt (Or.inl ⟨rfl, rfl⟩) dL_revoke_20 h) (And.intro (fun ls st mm h => so_astore E dL_revoke_21 h) (And.intro (fun ls st mm h => so_iconst E (by decide) dL_revoke_23 h) (And.intro (fun ls st mm h => so_ireturn E hQ rfl (fun _ h => h) h0 (ty := .int) hrt (Or.inl ⟨rfl, rfl⟩) dL_revoke_24 h) (And.intro (fun ls st mm h => so_iconst E (by decide) dL_revoke_25 h) (And.intro (fun ls st mm h => so_ireturn E hQ rfl (fun _ h => h) h0 (ty := .int) hrt (Or.inl ⟨rfl, rfl⟩) dL_revoke_26 h) (trivial)))))))))))))))))))))
theorem dL_die_0 : decode cL_die 0 = .ok (.aload_n 2, 1) := by decide +kernel
theorem dL_die_1 : decode cL_die 1 = .ok (.iconst 0, 1) := by decide +kernel
theorem dL_die_2 : decode cL_die 2 = .ok (.aload_n 0, 1) := by decide +kernel
theorem dL_die_3 : decode cL_die 3 = .ok (.iload_n 1, 1) := by decide +kernel
theorem dL_die_4 : decode cL_die 4 = .ok (.invokevirtual 26, 3) := by decide +kernel
theorem dL_die_7 : decode cL_die 7 = .ok (.i2l, 1) := by decide +kernel
theorem dL_die_8 : decode cL_die 8 = .ok (.lastore, 1) := by decide +kernel
theorem dL_die_9 : decode cL_die 9 = .ok (.goto 9, 3) := by decide +kernel
theorem dL_die_12 : decode cL_die 12 = .ok (.astore_n 3, 1) := by decide +kernel
theorem dL_die_13 : decode cL_die 13 = .ok (.iconst 1, 1) := by decide +kernel
theorem dL_die_14 : decode cL_die 14 = .ok (.ireturn, 1) := by decide +kernel
theorem dL_die_15 : decode cL_die 15 = .ok (.astore_n 3, 1) := by decide +kernel
theorem dL_die_16 : decode cL_die 16 = .ok (.iconst 2, 1) := by decide +kernel
theorem dL_die_17 : decode cL_die 17 = .ok (.ireturn, 1) := by decide +kernel
theorem dL_die_18 : decode cL_die 18 = .ok (.iconst 0, 1) := by decide +kernel
theorem dL_die_19 : decode cL_die 19 = .ok (.ireturn, 1) := by decide +kernel
def T_L_die (sp_X6_die : List ab_V → ab_M → ab_O) : ab_T := [(0, some (s_aload 2 1)), (1, some (s_const (vI 0) 2)), (2, some (s_aload 0 3)), (3, some (s_iload 1 4)), (4, some (s_call 8 sp_X6_die 2 [("java/lang/IndexOutOfBoundsException", 12), ("java/lang/IllegalStateException", 15)] 7)), (7, some (s_i2l 8)), (8, some (s_last 9)), (9, some (s_goto 18)), (12, some (s_astore 3 13)), (13, some (s_const (vI 1) 14)), (14, some (s_ret 0)), (15, some (s_astore 3 16)), (16, some (s_const (vI 2) 17)), (17, some (s_ret 0)), (18, some (s_const (vI 0) 19)), (19, some (s_ret 0))]
set_option maxRecDepth 20000 in
theorem mt_L_die {sp_X6_die : List ab_V → ab_M → ab_O} : MonoT (T_L_die sp_X6_die) := MA_mem (And.intro mono_aload (And.intro mono_const (And.intro mono_aload (And.intro mono_iload (And.intro mono_call (And.intro mono_i2l (And.intro mono_last (And.intro mono_goto (And.intro mono_astore (And.intro mono_const (And.intro mono_ret (And.intro mono_astore (And.intro mono_const (And.intro mono_ret (And.intro mono_const (And.intro mono_ret trivial))))))))))))))))
set_option maxRecDepth 20000 in
set_option maxHeartbeats 4000000 in
theorem snd_L_die {l : Launch} {D : va_G} {cA : Nat → ClassId} {d : Nat} {sp_X6_die : List ab_V → ab_M → ab_O} {d' : Nat} (hd9 : d' + 1 ≤ d) (hC_X6_die : ∀ as m, Ctr l D cA d' yX6_die (Cond.code yX6_die cX6_die 3 (some .int) :: TB) as m (sp_X6_die as m)) : Sound l D cA d 4 yL_die cL_die (some .int) (tableOf [(0, 9, 12, 13), (0, 9, 15, 15)]) (T_L_die sp_X6_die) := by
  intro p e R s m args below meth c loc0 m0 r Q E hQ h0 hrt hnm htab
  have hA_L_die : hdA yL_die.cls 4 c.exceptionTable.toList [("java/lang/IndexOutOfBoundsException", 12), ("java/lang/IllegalStateException", 15)] := by rw [htab]; exact ⟨⟨by decide +kernel, by decide +kernel, rfl, tw_t3_91, Or.inl rfl⟩, ⟨⟨by decide +kernel, by decide +kernel, rfl, tw_t3_92, Or.inr (Or.inr rfl)⟩, trivial⟩⟩
  exact SA_mem (And.intro (fun ls st mm h => so_aload_n E rfl dL_die_0 h) (And.intro (fun ls st mm h => so_iconst E (by decide) dL_die_1 h) (And.intro (fun ls st mm h => so_aload_n E rfl dL_die_2 h) (And.intro (fun ls st mm h => so_iload_n E rfl dL_die_3 h) (And.intro (fun ls st mm h => so_callV E hQ rfl (fun _ h => h) h0 (idx := 26) (C := RX6) (T := TX6) (N := 11) rfl (by decide) (by decide) rfl hd9 (by decide) hC_X6_die hA_L_die tw_t3_146 tw_t3_147 tw_t3_148 tw_t1_1 tw_t3_149 (by decide +kernel) dL_die_4 h) (And.intro (fun ls st mm h => so_i2l E dL_die_7 h) (And.intro (fun ls st mm h => so_last E dL_die_8 h) (And.intro (fun ls st mm h => so_goto E (tgt := 18) (by decide) dL_die_9 h) (And.intro (fun ls st mm h => so_astore_n E rfl dL_die_12 h) (And.intro (fun ls st mm h => so_iconst E (by decide) dL_die_13 h) (And.intro (fun ls st mm h => so_ireturn E hQ rfl (fun _ h => h) h0 (ty := .int) hrt (Or.inl ⟨rfl, rfl⟩) dL_die_14 h) (And.intro (fun ls st mm h => so_astore_n E rfl dL_die_15 h) (And.intro (fun ls st mm h => so_iconst E (by decide) dL_die_16 h) (And.intro (fun ls st mm h => so_ireturn E hQ rfl (fun _ h => h) h0 (ty := .int) hrt (Or.inl ⟨rfl, rfl⟩) dL_die_17 h) (And.intro (fun ls st mm h => so_iconst E (by decide) dL_die_18 h) (And.intro (fun ls st mm h => so_ireturn E hQ rfl (fun _ h => h) h0 (ty := .int) hrt (Or.inl ⟨rfl, rfl⟩) dL_die_19 h) (trivial)))))))))))))))))
theorem dL_adopt_0 : decode cL_adopt 0 = .ok (.aload 4, 2) := by decide +kernel
theorem dL_adopt_2 : decode cL_adopt 2 = .ok (.iconst 0, 1) := by decide +kernel
theorem dL_adopt_3 : decode cL_adopt 3 = .ok (.aload_n 0, 1) := by decide +kernel
theorem dL_adopt_4 : decode cL_adopt 4 = .ok (.iload_n 1, 1) := by decide +kernel
theorem dL_adopt_5 : decode cL_adopt 5 = .ok (.iload_n 2, 1) := by decide +kernel
theorem dL_adopt_6 : decode cL_adopt 6 = .ok (.iload_n 3, 1) := by decide +kernel
theorem dL_adopt_7 : decode cL_adopt 7 = .ok (.invokevirtual 29, 3) := by decide +kernel
theorem dL_adopt_10 : decode cL_adopt 10 = .ok (.i2l, 1) := by decide +kernel
theorem dL_adopt_11 : decode cL_adopt 11 = .ok (.lastore, 1) := by decide +kernel
theorem dL_adopt_12 : decode cL_adopt 12 = .ok (.goto 11, 3) := by decide +kernel
theorem dL_adopt_15 : decode cL_adopt 15 = .ok (.astore 5, 2) := by decide +kernel
theorem dL_adopt_17 : decode cL_adopt 17 = .ok (.iconst 1, 1) := by decide +kernel
theorem dL_adopt_18 : decode cL_adopt 18 = .ok (.ireturn, 1) := by decide +kernel
theorem dL_adopt_19 : decode cL_adopt 19 = .ok (.astore 5, 2) := by decide +kernel
theorem dL_adopt_21 : decode cL_adopt 21 = .ok (.iconst 2, 1) := by decide +kernel
theorem dL_adopt_22 : decode cL_adopt 22 = .ok (.ireturn, 1) := by decide +kernel
theorem dL_adopt_23 : decode cL_adopt 23 = .ok (.iconst 0, 1) := by decide +kernel
theorem dL_adopt_24 : decode cL_adopt 24 = .ok (.ireturn, 1) := by decide +kernel
def T_L_adopt (sp_X6_adopt : List ab_V → ab_M → ab_O) : ab_T := [(0, some (s_aload 4 2)), (2, some (s_const (vI 0) 3)), (3, some (s_aload 0 4)), (4, some (s_iload 1 5)), (5, some (s_iload 2 6)), (6, some (s_iload 3 7)), (7, some (s_call 8 sp_X6_adopt 4 [("java/lang/IndexOutOfBoundsException", 15), ("java/lang/IllegalStateException", 19)] 10)), (10, some (s_i2l 11)), (11, some (s_last 12)), (12, some (s_goto 23)), (15, some (s_astore 5 17)), (17, some (s_const (vI 1) 18)), (18, some (s_ret 0)), (19, some (s_astore 5 21)), (21, some (s_const (vI 2) 22)), (22, some (s_ret 0)), (23, some (s_const (vI 0) 24)), (24, some (s_ret 0))]
set_option maxRecDepth 20000 in
theorem mt_L_adopt {sp_X6_adopt : List ab_V → ab_M → ab_O} : MonoT (T_L_adopt sp_X6_adopt) := MA_mem (And.intro mono_aload (And.intro mono_const (And.intro mono_aload (And.intro mono_iload (And.intro mono_iload (And.intro mono_iload (And.intro mono_call (And.intro mono_i2l (And.intro mono_last (And.intro mono_goto (And.intro mono_astore (And.intro mono_const (And.intro mono_ret (And.intro mono_astore (And.intro mono_const (And.intro mono_ret (And.intro mono_const (And.intro mono_ret trivial))))))))))))))))))
set_option maxRecDepth 20000 in
set_option maxHeartbeats 4000000 in
theorem snd_L_adopt {l : Launch} {D : va_G} {cA : Nat → ClassId} {d : Nat} {sp_X6_adopt : List ab_V → ab_M → ab_O} {d' : Nat} (hd9 : d' + 1 ≤ d) (hC_X6_adopt : ∀ as m, Ctr l D cA d' yX6_adopt (Cond.code yX6_adopt cX6_adopt 5 (some .int) :: TB) as m (sp_X6_adopt as m)) : Sound l D cA d 6 yL_adopt cL_adopt (some .int) (tableOf [(0, 12, 15, 13), (0, 12, 19, 15)]) (T_L_adopt sp_X6_adopt) := by
  intro p e R s m args below meth c loc0 m0 r Q E hQ h0 hrt hnm htab
  have hA_L_adopt : hdA yL_adopt.cls 7 c.exceptionTable.toList [("java/lang/IndexOutOfBoundsException", 15), ("java/lang/IllegalStateException", 19)] := by rw [htab]; exact ⟨⟨by decide +kernel, by decide +kernel, rfl, tw_t3_91, Or.inl rfl⟩, ⟨⟨by decide +kernel, by decide +kernel, rfl, tw_t3_92, Or.inr (Or.inr rfl)⟩, trivial⟩⟩
  exact SA_mem (And.intro (fun ls st mm h => so_aload E dL_adopt_0 h) (And.intro (fun ls st mm h => so_iconst E (by decide) dL_adopt_2 h) (And.intro (fun ls st mm h => so_aload_n E rfl dL_adopt_3 h) (And.intro (fun ls st mm h => so_iload_n E rfl dL_adopt_4 h) (And.intro (fun ls st mm h => so_iload_n E rfl dL_adopt_5 h) (And.intro (fun ls st mm h => so_iload_n E rfl dL_adopt_6 h) (And.intro (fun ls st mm h => so_callV E hQ rfl (fun _ h => h) h0 (idx := 29) (C := RX6) (T := TX6) (N := 11) rfl (by decide) (by decide) rfl hd9 (by decide) hC_X6_adopt hA_L_adopt tw_t3_163 tw_t3_164 tw_t3_165 tw_t1_1 tw_t3_166 (by decide +kernel) dL_adopt_7 h) (And.intro (fun ls st mm h => so_i2l E dL_adopt_10 h) (And.intro (fun ls st mm h => so_last E dL_adopt_11 h) (And.intro (fun ls st mm h => so_goto E (tgt := 23) (by decide) dL_adopt_12 h) (And.intro (fun ls st mm h => so_astore E dL_adopt_15 h) (And.intro (fun ls st mm h => so_iconst E (by decide) dL_adopt_17 h) (And.intro (fun ls st mm h => so_ireturn E hQ rfl (fun _ h => h) h0 (ty := .int) hrt (Or.inl ⟨rfl, rfl⟩) dL_adopt_18 h) (And.intro (fun ls st mm h => so_astore E dL_adopt_19 h) (And.intro (fun ls st mm h => so_iconst E (by decide) dL_adopt_21 h) (And.intro (fun ls st mm h => so_ireturn E hQ rfl (fun _ h => h) h0 (ty := .int) hrt (Or.inl ⟨rfl, rfl⟩) dL_adopt_22 h) (And.intro (fun ls st mm h => so_iconst E (by decide) dL_adopt_23 h) (And.intro (fun ls st mm h => so_ireturn E hQ rfl (fun _ h => h) h0 (ty := .int) hrt (Or.inl ⟨rfl, rfl⟩) dL_adopt_24 h) (trivial)))))))))))))))))))
theorem dL_heir_0 : decode cL_heir 0 = .ok (.aload_n 3, 1) := by decide +kernel
theorem dL_heir_1 : decode cL_heir 1 = .ok (.iconst 0, 1) := by decide +kernel
theorem dL_heir_2 : decode cL_heir 2 = .ok (.aload_n 0, 1) := by decide +kernel
theorem dL_heir_3 : decode cL_heir 3 = .ok (.iload_n 1, 1) := by decide +kernel
theorem dL_heir_4 : decode cL_heir 4 = .ok (.iload_n 2, 1) := by decide +kernel
theorem dL_heir_5 : decode cL_heir 5 = .ok (.invokevirtual 33, 3) := by decide +kernel
theorem dL_heir_8 : decode cL_heir 8 = .ok (.i2l, 1) := by decide +kernel
theorem dL_heir_9 : decode cL_heir 9 = .ok (.lastore, 1) := by decide +kernel
theorem dL_heir_10 : decode cL_heir 10 = .ok (.goto 11, 3) := by decide +kernel
theorem dL_heir_13 : decode cL_heir 13 = .ok (.astore 4, 2) := by decide +kernel
theorem dL_heir_15 : decode cL_heir 15 = .ok (.iconst 1, 1) := by decide +kernel
theorem dL_heir_16 : decode cL_heir 16 = .ok (.ireturn, 1) := by decide +kernel
theorem dL_heir_17 : decode cL_heir 17 = .ok (.astore 4, 2) := by decide +kernel
theorem dL_heir_19 : decode cL_heir 19 = .ok (.iconst 2, 1) := by decide +kernel
theorem dL_heir_20 : decode cL_heir 20 = .ok (.ireturn, 1) := by decide +kernel
theorem dL_heir_21 : decode cL_heir 21 = .ok (.iconst 0, 1) := by decide +kernel
theorem dL_heir_22 : decode cL_heir 22 = .ok (.ireturn, 1) := by decide +kernel
def T_L_heir (sp_X6_heir : List ab_V → ab_M → ab_O) : ab_T := [(0, some (s_aload 3 1)), (1, some (s_const (vI 0) 2)), (2, some (s_aload 0 3)), (3, some (s_iload 1 4)), (4, some (s_iload 2 5)), (5, some (s_call 8 sp_X6_heir 3 [("java/lang/IndexOutOfBoundsException", 13), ("java/lang/IllegalStateException", 17)] 8)), (8, some (s_i2l 9)), (9, some (s_last 10)), (10, some (s_goto 21)), (13, some (s_astore 4 15)), (15, some (s_const (vI 1) 16)), (16, some (s_ret 0)), (17, some (s_astore 4 19)), (19, some (s_const (vI 2) 20)), (20, some (s_ret 0)), (21, some (s_const (vI 0) 22)), (22, some (s_ret 0))]
set_option maxRecDepth 20000 in
theorem mt_L_heir {sp_X6_heir : List ab_V → ab_M → ab_O} : MonoT (T_L_heir sp_X6_heir) := MA_mem (And.intro mono_aload (And.intro mono_const (And.intro mono_aload (And.intro mono_iload (And.intro mono_iload (And.intro mono_call (And.intro mono_i2l (And.intro mono_last (And.intro mono_goto (And.intro mono_astore (And.intro mono_const (And.intro mono_ret (And.intro mono_astore (And.intro mono_const (And.intro mono_ret (And.intro mono_const (And.intro mono_ret trivial)))))))))))))))))
set_option maxRecDepth 20000 in
set_option maxHeartbeats 4000000 in
theorem snd_L_heir {l : Launch} {D : va_G} {cA : Nat → ClassId} {d : Nat} {sp_X6_heir : List ab_V → ab_M → ab_O} {d' : Nat} (hd9 : d' + 1 ≤ d) (hC_X6_heir : ∀ as m, Ctr l D cA d' yX6_heir (Cond.code yX6_heir cX6_heir 4 (some .int) :: TB) as m (sp_X6_heir as m)) : Sound l D cA d 5 yL_heir cL_heir (some .int) (tableOf [(0, 10, 13, 13), (0, 10, 17, 15)]) (T_L_heir sp_X6_heir) := by
  intro p e R s m args below meth c loc0 m0 r Q E hQ h0 hrt hnm htab
  have hA_L_heir : hdA yL_heir.cls 5 c.exceptionTable.toList [("java/lang/IndexOutOfBoundsException", 13), ("java/lang/IllegalStateException", 17)] := by rw [htab]; exact ⟨⟨by decide +kernel, by decide +kernel, rfl, tw_t3_91, Or.inl rfl⟩, ⟨⟨by decide +kernel, by decide +kernel, rfl, tw_t3_92, Or.inr (Or.inr rfl)⟩, trivial⟩⟩
  exact SA_mem (And.intro (fun ls st mm h => so_aload_n E rfl dL_heir_0 h) (And.intro (fun ls st mm h => so_iconst E (by decide) dL_heir_1 h) (And.intro (fun ls st mm h => so_aload_n E rfl dL_heir_2 h) (And.intro (fun ls st mm h => so_iload_n E rfl dL_heir_3 h) (And.intro (fun ls st mm h => so_iload_n E rfl dL_heir_4 h) (And.intro (fun ls st mm h => so_callV E hQ rfl (fun _ h => h) h0 (idx := 33) (C := RX6) (T := TX6) (N := 11) rfl (by decide) (by decide) rfl hd9 (by decide) hC_X6_heir hA_L_heir tw_t3_179 tw_t3_180 tw_t3_181 tw_t1_1 tw_t3_182 (by decide +kernel) dL_heir_5 h) (And.intro (fun ls st mm h => so_i2l E dL_heir_8 h) (And.intro (fun ls st mm h => so_last E dL_heir_9 h) (And.intro (fun ls st mm h => so_goto E (tgt := 21) (by decide) dL_heir_10 h) (And.intro (fun ls st mm h => so_astore E dL_heir_13 h) (And.intro (fun ls st mm h => so_iconst E (by decide) dL_heir_15 h) (And.intro (fun ls st mm h => so_ireturn E hQ rfl (fun _ h => h) h0 (ty := .int) hrt (Or.inl ⟨rfl, rfl⟩) dL_heir_16 h) (And.intro (fun ls st mm h => so_astore E dL_heir_17 h) (And.intro (fun ls st mm h => so_iconst E (by decide) dL_heir_19 h) (And.intro (fun ls st mm h => so_ireturn E hQ rfl (fun _ h => h) h0 (ty := .int) hrt (Or.inl ⟨rfl, rfl⟩) dL_heir_20 h) (And.intro (fun ls st mm h => so_iconst E (by decide) dL_heir_21 h) (And.intro (fun ls st mm h => so_ireturn E hQ rfl (fun _ h => h) h0 (ty := .int) hrt (Or.inl ⟨rfl, rfl⟩) dL_heir_22 h) (trivial))))))))))))))))))
theorem dL_part_0 : decode cL_part 0 = .ok (.aload_n 2, 1) := by decide +kernel
theorem dL_part_1 : decode cL_part 1 = .ok (.iconst 0, 1) := by decide +kernel
theorem dL_part_2 : decode cL_part 2 = .ok (.aload_n 0, 1) := by decide +kernel
theorem dL_part_3 : decode cL_part 3 = .ok (.iload_n 1, 1) := by decide +kernel
theorem dL_part_4 : decode cL_part 4 = .ok (.invokevirtual 36, 3) := by decide +kernel
theorem dL_part_7 : decode cL_part 7 = .ok (.i2l, 1) := by decide +kernel
theorem dL_part_8 : decode cL_part 8 = .ok (.lastore, 1) := by decide +kernel
theorem dL_part_9 : decode cL_part 9 = .ok (.goto 9, 3) := by decide +kernel
theorem dL_part_12 : decode cL_part 12 = .ok (.astore_n 3, 1) := by decide +kernel
theorem dL_part_13 : decode cL_part 13 = .ok (.iconst 1, 1) := by decide +kernel
theorem dL_part_14 : decode cL_part 14 = .ok (.ireturn, 1) := by decide +kernel
theorem dL_part_15 : decode cL_part 15 = .ok (.astore_n 3, 1) := by decide +kernel
theorem dL_part_16 : decode cL_part 16 = .ok (.iconst 2, 1) := by decide +kernel
theorem dL_part_17 : decode cL_part 17 = .ok (.ireturn, 1) := by decide +kernel
theorem dL_part_18 : decode cL_part 18 = .ok (.iconst 0, 1) := by decide +kernel
theorem dL_part_19 : decode cL_part 19 = .ok (.ireturn, 1) := by decide +kernel
def T_L_part (sp_X6_part : List ab_V → ab_M → ab_O) : ab_T := [(0, some (s_aload 2 1)), (1, some (s_const (vI 0) 2)), (2, some (s_aload 0 3)), (3, some (s_iload 1 4)), (4, some (s_call 8 sp_X6_part 2 [("java/lang/IndexOutOfBoundsException", 12), ("java/lang/IllegalStateException", 15)] 7)), (7, some (s_i2l 8)), (8, some (s_last 9)), (9, some (s_goto 18)), (12, some (s_astore 3 13)), (13, some (s_const (vI 1) 14)), (14, some (s_ret 0)), (15, some (s_astore 3 16)), (16, some (s_const (vI 2) 17)), (17, some (s_ret 0)), (18, some (s_const (vI 0) 19)), (19, some (s_ret 0))]
set_option maxRecDepth 20000 in
theorem mt_L_part {sp_X6_part : List ab_V → ab_M → ab_O} : MonoT (T_L_part sp_X6_part) := MA_mem (And.intro mono_aload (And.intro mono_const (And.intro mono_aload (And.intro mono_iload (And.intro mono_call (And.intro mono_i2l (And.intro mono_last (And.intro mono_goto (And.intro mono_astore (And.intro mono_const (And.intro mono_ret (And.intro mono_astore (And.intro mono_const (And.intro mono_ret (And.intro mono_const (And.intro mono_ret trivial))))))))))))))))
set_option maxRecDepth 20000 in
set_option maxHeartbeats 4000000 in
theorem snd_L_part {l : Launch} {D : va_G} {cA : Nat → ClassId} {d : Nat} {sp_X6_part : List ab_V → ab_M → ab_O} {d' : Nat} (hd9 : d' + 1 ≤ d) (hC_X6_part : ∀ as m, Ctr l D cA d' yX6_part (Cond.code yX6_part cX6_part 4 (some .int) :: TB) as m (sp_X6_part as m)) : Sound l D cA d 4 yL_part cL_part (some .int) (tableOf [(0, 9, 12, 13), (0, 9, 15, 15)]) (T_L_part sp_X6_part) := by
  intro p e R s m args below meth c loc0 m0 r Q E hQ h0 hrt hnm htab
  have hA_L_part : hdA yL_part.cls 4 c.exceptionTable.toList [("java/lang/IndexOutOfBoundsException", 12), ("java/lang/IllegalStateException", 15)] := by rw [htab]; exact ⟨⟨by decide +kernel, by decide +kernel, rfl, tw_t3_91, Or.inl rfl⟩, ⟨⟨by decide +kernel, by decide +kernel, rfl, tw_t3_92, Or.inr (Or.inr rfl)⟩, trivial⟩⟩
  exact SA_mem (And.intro (fun ls st mm h => so_aload_n E rfl dL_part_0 h) (And.intro (fun ls st mm h => so_iconst E (by decide) dL_part_1 h) (And.intro (fun ls st mm h => so_aload_n E rfl dL_part_2 h) (And.intro (fun ls st mm h => so_iload_n E rfl dL_part_3 h) (And.intro (fun ls st mm h => so_callV E hQ rfl (fun _ h => h) h0 (idx := 36) (C := RX6) (T := TX6) (N := 11) rfl (by decide) (by decide) rfl hd9 (by decide) hC_X6_part hA_L_part tw_t3_187 tw_t3_188 tw_t3_189 tw_t1_1 tw_t3_190 (by decide +kernel) dL_part_4 h) (And.intro (fun ls st mm h => so_i2l E dL_part_7 h) (And.intro (fun ls st mm h => so_last E dL_part_8 h) (And.intro (fun ls st mm h => so_goto E (tgt := 18) (by decide) dL_part_9 h) (And.intro (fun ls st mm h => so_astore_n E rfl dL_part_12 h) (And.intro (fun ls st mm h => so_iconst E (by decide) dL_part_13 h) (And.intro (fun ls st mm h => so_ireturn E hQ rfl (fun _ h => h) h0 (ty := .int) hrt (Or.inl ⟨rfl, rfl⟩) dL_part_14 h) (And.intro (fun ls st mm h => so_astore_n E rfl dL_part_15 h) (And.intro (fun ls st mm h => so_iconst E (by decide) dL_part_16 h) (And.intro (fun ls st mm h => so_ireturn E hQ rfl (fun _ h => h) h0 (ty := .int) hrt (Or.inl ⟨rfl, rfl⟩) dL_part_17 h) (And.intro (fun ls st mm h => so_iconst E (by decide) dL_part_18 h) (And.intro (fun ls st mm h => so_ireturn E hQ rfl (fun _ h => h) h0 (ty := .int) hrt (Or.inl ⟨rfl, rfl⟩) dL_part_19 h) (trivial)))))))))))))))))
theorem dL_pass_0 : decode cL_pass 0 = .ok (.aload_n 2, 1) := by decide +kernel
theorem dL_pass_1 : decode cL_pass 1 = .ok (.iconst 0, 1) := by decide +kernel
theorem dL_pass_2 : decode cL_pass 2 = .ok (.aload_n 0, 1) := by decide +kernel
theorem dL_pass_3 : decode cL_pass 3 = .ok (.iload_n 1, 1) := by decide +kernel
theorem dL_pass_4 : decode cL_pass 4 = .ok (.invokevirtual 39, 3) := by decide +kernel
theorem dL_pass_7 : decode cL_pass 7 = .ok (.i2l, 1) := by decide +kernel
theorem dL_pass_8 : decode cL_pass 8 = .ok (.lastore, 1) := by decide +kernel
theorem dL_pass_9 : decode cL_pass 9 = .ok (.goto 6, 3) := by decide +kernel
theorem dL_pass_12 : decode cL_pass 12 = .ok (.astore_n 3, 1) := by decide +kernel
theorem dL_pass_13 : decode cL_pass 13 = .ok (.iconst 1, 1) := by decide +kernel
theorem dL_pass_14 : decode cL_pass 14 = .ok (.ireturn, 1) := by decide +kernel
theorem dL_pass_15 : decode cL_pass 15 = .ok (.iconst 0, 1) := by decide +kernel
theorem dL_pass_16 : decode cL_pass 16 = .ok (.ireturn, 1) := by decide +kernel
def T_L_pass (sp_X6_pass : List ab_V → ab_M → ab_O) : ab_T := [(0, some (s_aload 2 1)), (1, some (s_const (vI 0) 2)), (2, some (s_aload 0 3)), (3, some (s_iload 1 4)), (4, some (s_call 8 sp_X6_pass 2 [("java/lang/IllegalArgumentException", 12)] 7)), (7, some (s_i2l 8)), (8, some (s_last 9)), (9, some (s_goto 15)), (12, some (s_astore 3 13)), (13, some (s_const (vI 1) 14)), (14, some (s_ret 0)), (15, some (s_const (vI 0) 16)), (16, some (s_ret 0))]
set_option maxRecDepth 20000 in
theorem mt_L_pass {sp_X6_pass : List ab_V → ab_M → ab_O} : MonoT (T_L_pass sp_X6_pass) := MA_mem (And.intro mono_aload (And.intro mono_const (And.intro mono_aload (And.intro mono_iload (And.intro mono_call (And.intro mono_i2l (And.intro mono_last (And.intro mono_goto (And.intro mono_astore (And.intro mono_const (And.intro mono_ret (And.intro mono_const (And.intro mono_ret trivial)))))))))))))
set_option maxRecDepth 20000 in
set_option maxHeartbeats 4000000 in
theorem snd_L_pass {l : Launch} {D : va_G} {cA : Nat → ClassId} {d : Nat} {sp_X6_pass : List ab_V → ab_M → ab_O} {d' : Nat} (hd9 : d' + 1 ≤ d) (hC_X6_pass : ∀ as m, Ctr l D cA d' yX6_pass (Cond.code yX6_pass cX6_pass 3 (some .int) :: TB) as m (sp_X6_pass as m)) : Sound l D cA d 4 yL_pass cL_pass (some .int) (tableOf [(0, 9, 12, 24)]) (T_L_pass sp_X6_pass) := by
  intro p e R s m args below meth c loc0 m0 r Q E hQ h0 hrt hnm htab
  have hA_L_pass : hdA yL_pass.cls 4 c.exceptionTable.toList [("java/lang/IllegalArgumentException", 12)] := by rw [htab]; exact ⟨⟨by decide +kernel, by decide +kernel, rfl, tw_t3_133, Or.inr (Or.inl rfl)⟩, trivial⟩
  exact SA_mem (And.intro (fun ls st mm h => so_aload_n E rfl dL_pass_0 h) (And.intro (fun ls st mm h => so_iconst E (by decide) dL_pass_1 h) (And.intro (fun ls st mm h => so_aload_n E rfl dL_pass_2 h) (And.intro (fun ls st mm h => so_iload_n E rfl dL_pass_3 h) (And.intro (fun ls st mm h => so_callV E hQ rfl (fun _ h => h) h0 (idx := 39) (C := RX6) (T := TX6) (N := 11) rfl (by decide) (by decide) rfl hd9 (by decide) hC_X6_pass hA_L_pass tw_t3_195 tw_t3_196 tw_t3_197 tw_t1_1 tw_t3_198 (by decide +kernel) dL_pass_4 h) (And.intro (fun ls st mm h => so_i2l E dL_pass_7 h) (And.intro (fun ls st mm h => so_last E dL_pass_8 h) (And.intro (fun ls st mm h => so_goto E (tgt := 15) (by decide) dL_pass_9 h) (And.intro (fun ls st mm h => so_astore_n E rfl dL_pass_12 h) (And.intro (fun ls st mm h => so_iconst E (by decide) dL_pass_13 h) (And.intro (fun ls st mm h => so_ireturn E hQ rfl (fun _ h => h) h0 (ty := .int) hrt (Or.inl ⟨rfl, rfl⟩) dL_pass_14 h) (And.intro (fun ls st mm h => so_iconst E (by decide) dL_pass_15 h) (And.intro (fun ls st mm h => so_ireturn E hQ rfl (fun _ h => h) h0 (ty := .int) hrt (Or.inl ⟨rfl, rfl⟩) dL_pass_16 h) (trivial))))))))))))))
theorem dL_secret_0 : decode cL_secret 0 = .ok (.aload 4, 2) := by decide +kernel
theorem dL_secret_2 : decode cL_secret 2 = .ok (.iconst 0, 1) := by decide +kernel
theorem dL_secret_3 : decode cL_secret 3 = .ok (.aload_n 0, 1) := by decide +kernel
theorem dL_secret_4 : decode cL_secret 4 = .ok (.iload_n 1, 1) := by decide +kernel
theorem dL_secret_5 : decode cL_secret 5 = .ok (.iload_n 2, 1) := by decide +kernel
theorem dL_secret_6 : decode cL_secret 6 = .ok (.iload_n 3, 1) := by decide +kernel
theorem dL_secret_7 : decode cL_secret 7 = .ok (.invokevirtual 42, 3) := by decide +kernel
theorem dL_secret_10 : decode cL_secret 10 = .ok (.i2l, 1) := by decide +kernel
theorem dL_secret_11 : decode cL_secret 11 = .ok (.lastore, 1) := by decide +kernel
theorem dL_secret_12 : decode cL_secret 12 = .ok (.goto 15, 3) := by decide +kernel
theorem dL_secret_15 : decode cL_secret 15 = .ok (.astore 5, 2) := by decide +kernel
theorem dL_secret_17 : decode cL_secret 17 = .ok (.iconst 1, 1) := by decide +kernel
theorem dL_secret_18 : decode cL_secret 18 = .ok (.ireturn, 1) := by decide +kernel
theorem dL_secret_19 : decode cL_secret 19 = .ok (.astore 5, 2) := by decide +kernel
theorem dL_secret_21 : decode cL_secret 21 = .ok (.iconst 2, 1) := by decide +kernel
theorem dL_secret_22 : decode cL_secret 22 = .ok (.ireturn, 1) := by decide +kernel
theorem dL_secret_23 : decode cL_secret 23 = .ok (.astore 5, 2) := by decide +kernel
theorem dL_secret_25 : decode cL_secret 25 = .ok (.iconst 3, 1) := by decide +kernel
theorem dL_secret_26 : decode cL_secret 26 = .ok (.ireturn, 1) := by decide +kernel
theorem dL_secret_27 : decode cL_secret 27 = .ok (.iconst 0, 1) := by decide +kernel
theorem dL_secret_28 : decode cL_secret 28 = .ok (.ireturn, 1) := by decide +kernel
def T_L_secret (sp_X6_secret : List ab_V → ab_M → ab_O) : ab_T := [(0, some (s_aload 4 2)), (2, some (s_const (vI 0) 3)), (3, some (s_aload 0 4)), (4, some (s_iload 1 5)), (5, some (s_iload 2 6)), (6, some (s_iload 3 7)), (7, some (s_call 8 sp_X6_secret 4 [("java/lang/IndexOutOfBoundsException", 15), ("java/lang/IllegalArgumentException", 19), ("java/lang/IllegalStateException", 23)] 10)), (10, some (s_i2l 11)), (11, some (s_last 12)), (12, some (s_goto 27)), (15, some (s_astore 5 17)), (17, some (s_const (vI 1) 18)), (18, some (s_ret 0)), (19, some (s_astore 5 21)), (21, some (s_const (vI 2) 22)), (22, some (s_ret 0)), (23, some (s_astore 5 25)), (25, some (s_const (vI 3) 26)), (26, some (s_ret 0)), (27, some (s_const (vI 0) 28)), (28, some (s_ret 0))]
set_option maxRecDepth 20000 in
theorem mt_L_secret {sp_X6_secret : List ab_V → ab_M → ab_O} : MonoT (T_L_secret sp_X6_secret) := MA_mem (And.intro mono_aload (And.intro mono_const (And.intro mono_aload (And.intro mono_iload (And.intro mono_iload (And.intro mono_iload (And.intro mono_call (And.intro mono_i2l (And.intro mono_last (And.intro mono_goto (And.intro mono_astore (And.intro mono_const (And.intro mono_ret (And.intro mono_astore (And.intro mono_const (And.intro mono_ret (And.intro mono_astore (And.intro mono_const (And.intro mono_ret (And.intro mono_const (And.intro mono_ret trivial)))))))))))))))))))))
set_option maxRecDepth 20000 in
set_option maxHeartbeats 4000000 in
theorem snd_L_secret {l : Launch} {D : va_G} {cA : Nat → ClassId} {d : Nat} {sp_X6_secret : List ab_V → ab_M → ab_O} {d' : Nat} (hd9 : d' + 1 ≤ d) (hC_X6_secret : ∀ as m, Ctr l D cA d' yX6_secret (Cond.code yX6_secret cX6_secret 5 (some .int) :: TB) as m (sp_X6_secret as m)) : Sound l D cA d 6 yL_secret cL_secret (some .int) (tableOf [(0, 12, 15, 13), (0, 12, 19, 24), (0, 12, 23, 15)]) (T_L_secret sp_X6_secret) := by
  intro p e R s m args below meth c loc0 m0 r Q E hQ h0 hrt hnm htab
  have hA_L_secret : hdA yL_secret.cls 7 c.exceptionTable.toList [("java/lang/IndexOutOfBoundsException", 15), ("java/lang/IllegalArgumentException", 19), ("java/lang/IllegalStateException", 23)] := by rw [htab]; exact ⟨⟨by decide +kernel, by decide +kernel, rfl, tw_t3_91, Or.inl rfl⟩, ⟨⟨by decide +kernel, by decide +kernel, rfl, tw_t3_133, Or.inr (Or.inl rfl)⟩, ⟨⟨by decide +kernel, by decide +kernel, rfl, tw_t3_92, Or.inr (Or.inr rfl)⟩, trivial⟩⟩⟩
  exact SA_mem (And.intro (fun ls st mm h => so_aload E dL_secret_0 h) (And.intro (fun ls st mm h => so_iconst E (by decide) dL_secret_2 h) (And.intro (fun ls st mm h => so_aload_n E rfl dL_secret_3 h) (And.intro (fun ls st mm h => so_iload_n E rfl dL_secret_4 h) (And.intro (fun ls st mm h => so_iload_n E rfl dL_secret_5 h) (And.intro (fun ls st mm h => so_iload_n E rfl dL_secret_6 h) (And.intro (fun ls st mm h => so_callV E hQ rfl (fun _ h => h) h0 (idx := 42) (C := RX6) (T := TX6) (N := 11) rfl (by decide) (by decide) rfl hd9 (by decide) hC_X6_secret hA_L_secret tw_t3_202 tw_t3_203 tw_t3_204 tw_t1_1 tw_t3_205 (by decide +kernel) dL_secret_7 h) (And.intro (fun ls st mm h => so_i2l E dL_secret_10 h) (And.intro (fun ls st mm h => so_last E dL_secret_11 h) (And.intro (fun ls st mm h => so_goto E (tgt := 27) (by decide) dL_secret_12 h) (And.intro (fun ls st mm h => so_astore E dL_secret_15 h) (And.intro (fun ls st mm h => so_iconst E (by decide) dL_secret_17 h) (And.intro (fun ls st mm h => so_ireturn E hQ rfl (fun _ h => h) h0 (ty := .int) hrt (Or.inl ⟨rfl, rfl⟩) dL_secret_18 h) (And.intro (fun ls st mm h => so_astore E dL_secret_19 h) (And.intro (fun ls st mm h => so_iconst E (by decide) dL_secret_21 h) (And.intro (fun ls st mm h => so_ireturn E hQ rfl (fun _ h => h) h0 (ty := .int) hrt (Or.inl ⟨rfl, rfl⟩) dL_secret_22 h) (And.intro (fun ls st mm h => so_astore E dL_secret_23 h) (And.intro (fun ls st mm h => so_iconst E (by decide) dL_secret_25 h) (And.intro (fun ls st mm h => so_ireturn E hQ rfl (fun _ h => h) h0 (ty := .int) hrt (Or.inl ⟨rfl, rfl⟩) dL_secret_26 h) (And.intro (fun ls st mm h => so_iconst E (by decide) dL_secret_27 h) (And.intro (fun ls st mm h => so_ireturn E hQ rfl (fun _ h => h) h0 (ty := .int) hrt (Or.inl ⟨rfl, rfl⟩) dL_secret_28 h) (trivial))))))))))))))))))))))
theorem dL_read_0 : decode cL_read 0 = .ok (.aload_n 3, 1) := by decide +kernel
theorem dL_read_1 : decode cL_read 1 = .ok (.iconst 0, 1) := by decide +kernel
theorem dL_read_2 : decode cL_read 2 = .ok (.aload_n 0, 1) := by decide +kernel
theorem dL_read_3 : decode cL_read 3 = .ok (.iload_n 1, 1) := by decide +kernel
theorem dL_read_4 : decode cL_read 4 = .ok (.iload_n 2, 1) := by decide +kernel
theorem dL_read_5 : decode cL_read 5 = .ok (.invokevirtual 46, 3) := by decide +kernel
theorem dL_read_8 : decode cL_read 8 = .ok (.ifCond .eq 7, 3) := by decide +kernel
theorem dL_read_11 : decode cL_read 11 = .ok (.lconst 1, 1) := by decide +kernel
theorem dL_read_12 : decode cL_read 12 = .ok (.goto 4, 3) := by decide +kernel
theorem dL_read_15 : decode cL_read 15 = .ok (.lconst 0, 1) := by decide +kernel
theorem dL_read_16 : decode cL_read 16 = .ok (.lastore, 1) := by decide +kernel
theorem dL_read_17 : decode cL_read 17 = .ok (.goto 11, 3) := by decide +kernel
theorem dL_read_20 : decode cL_read 20 = .ok (.astore 4, 2) := by decide +kernel
theorem dL_read_22 : decode cL_read 22 = .ok (.iconst 1, 1) := by decide +kernel
theorem dL_read_23 : decode cL_read 23 = .ok (.ireturn, 1) := by decide +kernel
theorem dL_read_24 : decode cL_read 24 = .ok (.astore 4, 2) := by decide +kernel
theorem dL_read_26 : decode cL_read 26 = .ok (.iconst 2, 1) := by decide +kernel
theorem dL_read_27 : decode cL_read 27 = .ok (.ireturn, 1) := by decide +kernel
theorem dL_read_28 : decode cL_read 28 = .ok (.iconst 0, 1) := by decide +kernel
theorem dL_read_29 : decode cL_read 29 = .ok (.ireturn, 1) := by decide +kernel
def T_L_read (sp_X6_read : List ab_V → ab_M → ab_O) : ab_T := [(0, some (s_aload 3 1)), (1, some (s_const (vI 0) 2)), (2, some (s_aload 0 3)), (3, some (s_iload 1 4)), (4, some (s_iload 2 5)), (5, some (s_call 8 sp_X6_read 3 [("java/lang/IndexOutOfBoundsException", 20), ("java/lang/IllegalStateException", 24)] 8)), (8, some (s_ifeq 15 11)), (11, some (s_const (vL 1) 12)), (12, some (s_goto 16)), (15, some (s_const (vL 0) 16)), (16, some (s_last 17)), (17, some (s_goto 28)), (20, some (s_astore 4 22)), (22, some (s_const (vI 1) 23)), (23, some (s_ret 0)), (24, some (s_astore 4 26)), (26, some (s_const (vI 2) 27)), (27, some (s_ret 0)), (28, some (s_const (vI 0) 29)), (29, some (s_ret 0))]
set_option maxRecDepth 20000 in
theorem mt_L_read {sp_X6_read : List ab_V → ab_M → ab_O} : MonoT (T_L_read sp_X6_read) := MA_mem (And.intro mono_aload (And.intro mono_const (And.intro mono_aload (And.intro mono_iload (And.intro mono_iload (And.intro mono_call (And.intro mono_ifeq (And.intro mono_const (And.intro mono_goto (And.intro mono_const (And.intro mono_last (And.intro mono_goto (And.intro mono_astore (And.intro mono_const (And.intro mono_ret (And.intro mono_astore (And.intro mono_const (And.intro mono_ret (And.intro mono_const (And.intro mono_ret trivial))))))))))))))))))))
set_option maxRecDepth 20000 in
set_option maxHeartbeats 4000000 in
theorem snd_L_read {l : Launch} {D : va_G} {cA : Nat → ClassId} {d : Nat} {sp_X6_read : List ab_V → ab_M → ab_O} {d' : Nat} (hd9 : d' + 1 ≤ d) (hC_X6_read : ∀ as m, Ctr l D cA d' yX6_read (Cond.code yX6_read cX6_read 3 (some .boolean) :: TB) as m (sp_X6_read as m)) : Sound l D cA d 5 yL_read cL_read (some .int) (tableOf [(0, 17, 20, 13), (0, 17, 24, 15)]) (T_L_read sp_X6_read) := by
  intro p e R s m args below meth c loc0 m0 r Q E hQ h0 hrt hnm htab
  have hA_L_read : hdA yL_read.cls 5 c.exceptionTable.toList [("java/lang/IndexOutOfBoundsException", 20), ("java/lang/IllegalStateException", 24)] := by rw [htab]; exact ⟨⟨by decide +kernel, by decide +kernel, rfl, tw_t3_91, Or.inl rfl⟩, ⟨⟨by decide +kernel, by decide +kernel, rfl, tw_t3_92, Or.inr (Or.inr rfl)⟩, trivial⟩⟩
  exact SA_mem (And.intro (fun ls st mm h => so_aload_n E rfl dL_read_0 h) (And.intro (fun ls st mm h => so_iconst E (by decide) dL_read_1 h) (And.intro (fun ls st mm h => so_aload_n E rfl dL_read_2 h) (And.intro (fun ls st mm h => so_iload_n E rfl dL_read_3 h) (And.intro (fun ls st mm h => so_iload_n E rfl dL_read_4 h) (And.intro (fun ls st mm h => so_callV E hQ rfl (fun _ h => h) h0 (idx := 46) (C := RX6) (T := TX6) (N := 11) rfl (by decide) (by decide) rfl hd9 (by decide) hC_X6_read hA_L_read tw_t3_218 tw_t3_219 tw_t3_220 tw_t1_1 tw_t3_221 (by decide +kernel) dL_read_5 h) (And.intro (fun ls st mm h => so_ifeq E (tgt := 15) (by decide) dL_read_8 h) (And.intro (fun ls st mm h => so_lconst E (by decide) dL_read_11 h) (And.intro (fun ls st mm h => so_goto E (tgt := 16) (by decide) dL_read_12 h) (And.intro (fun ls st mm h => so_lconst E (by decide) dL_read_15 h) (And.intro (fun ls st mm h => so_last E dL_read_16 h) (And.intro (fun ls st mm h => so_goto E (tgt := 28) (by decide) dL_read_17 h) (And.intro (fun ls st mm h => so_astore E dL_read_20 h) (And.intro (fun ls st mm h => so_iconst E (by decide) dL_read_22 h) (And.intro (fun ls st mm h => so_ireturn E hQ rfl (fun _ h => h) h0 (ty := .int) hrt (Or.inl ⟨rfl, rfl⟩) dL_read_23 h) (And.intro (fun ls st mm h => so_astore E dL_read_24 h) (And.intro (fun ls st mm h => so_iconst E (by decide) dL_read_26 h) (And.intro (fun ls st mm h => so_ireturn E hQ rfl (fun _ h => h) h0 (ty := .int) hrt (Or.inl ⟨rfl, rfl⟩) dL_read_27 h) (And.intro (fun ls st mm h => so_iconst E (by decide) dL_read_28 h) (And.intro (fun ls st mm h => so_ireturn E hQ rfl (fun _ h => h) h0 (ty := .int) hrt (Or.inl ⟨rfl, rfl⟩) dL_read_29 h) (trivial)))))))))))))))))))))
theorem dL_copy_0 : decode cL_copy 0 = .ok (.aload_n 3, 1) := by decide +kernel
theorem dL_copy_1 : decode cL_copy 1 = .ok (.iconst 0, 1) := by decide +kernel
theorem dL_copy_2 : decode cL_copy 2 = .ok (.aload_n 0, 1) := by decide +kernel
theorem dL_copy_3 : decode cL_copy 3 = .ok (.iload_n 1, 1) := by decide +kernel
theorem dL_copy_4 : decode cL_copy 4 = .ok (.iload_n 2, 1) := by decide +kernel
theorem dL_copy_5 : decode cL_copy 5 = .ok (.invokevirtual 50, 3) := by decide +kernel
theorem dL_copy_8 : decode cL_copy 8 = .ok (.i2l, 1) := by decide +kernel
theorem dL_copy_9 : decode cL_copy 9 = .ok (.lastore, 1) := by decide +kernel
theorem dL_copy_10 : decode cL_copy 10 = .ok (.goto 11, 3) := by decide +kernel
theorem dL_copy_13 : decode cL_copy 13 = .ok (.astore 4, 2) := by decide +kernel
theorem dL_copy_15 : decode cL_copy 15 = .ok (.iconst 1, 1) := by decide +kernel
theorem dL_copy_16 : decode cL_copy 16 = .ok (.ireturn, 1) := by decide +kernel
theorem dL_copy_17 : decode cL_copy 17 = .ok (.astore 4, 2) := by decide +kernel
theorem dL_copy_19 : decode cL_copy 19 = .ok (.iconst 2, 1) := by decide +kernel
theorem dL_copy_20 : decode cL_copy 20 = .ok (.ireturn, 1) := by decide +kernel
theorem dL_copy_21 : decode cL_copy 21 = .ok (.iconst 0, 1) := by decide +kernel
theorem dL_copy_22 : decode cL_copy 22 = .ok (.ireturn, 1) := by decide +kernel
def T_L_copy (sp_X6_copy : List ab_V → ab_M → ab_O) : ab_T := [(0, some (s_aload 3 1)), (1, some (s_const (vI 0) 2)), (2, some (s_aload 0 3)), (3, some (s_iload 1 4)), (4, some (s_iload 2 5)), (5, some (s_call 8 sp_X6_copy 3 [("java/lang/IndexOutOfBoundsException", 13), ("java/lang/IllegalStateException", 17)] 8)), (8, some (s_i2l 9)), (9, some (s_last 10)), (10, some (s_goto 21)), (13, some (s_astore 4 15)), (15, some (s_const (vI 1) 16)), (16, some (s_ret 0)), (17, some (s_astore 4 19)), (19, some (s_const (vI 2) 20)), (20, some (s_ret 0)), (21, some (s_const (vI 0) 22)), (22, some (s_ret 0))]
set_option maxRecDepth 20000 in
theorem mt_L_copy {sp_X6_copy : List ab_V → ab_M → ab_O} : MonoT (T_L_copy sp_X6_copy) := MA_mem (And.intro mono_aload (And.intro mono_const (And.intro mono_aload (And.intro mono_iload (And.intro mono_iload (And.intro mono_call (And.intro mono_i2l (And.intro mono_last (And.intro mono_goto (And.intro mono_astore (And.intro mono_const (And.intro mono_ret (And.intro mono_astore (And.intro mono_const (And.intro mono_ret (And.intro mono_const (And.intro mono_ret trivial)))))))))))))))))
set_option maxRecDepth 20000 in
set_option maxHeartbeats 4000000 in
theorem snd_L_copy {l : Launch} {D : va_G} {cA : Nat → ClassId} {d : Nat} {sp_X6_copy : List ab_V → ab_M → ab_O} {d' : Nat} (hd9 : d' + 1 ≤ d) (hC_X6_copy : ∀ as m, Ctr l D cA d' yX6_copy (Cond.code yX6_copy cX6_copy 3 (some .int) :: TB) as m (sp_X6_copy as m)) : Sound l D cA d 5 yL_copy cL_copy (some .int) (tableOf [(0, 10, 13, 13), (0, 10, 17, 15)]) (T_L_copy sp_X6_copy) := by
  intro p e R s m args below meth c loc0 m0 r Q E hQ h0 hrt hnm htab
  have hA_L_copy : hdA yL_copy.cls 5 c.exceptionTable.toList [("java/lang/IndexOutOfBoundsException", 13), ("java/lang/IllegalStateException", 17)] := by rw [htab]; exact ⟨⟨by decide +kernel, by decide +kernel, rfl, tw_t3_91, Or.inl rfl⟩, ⟨⟨by decide +kernel, by decide +kernel, rfl, tw_t3_92, Or.inr (Or.inr rfl)⟩, trivial⟩⟩
  exact SA_mem (And.intro (fun ls st mm h => so_aload_n E rfl dL_copy_0 h) (And.intro (fun ls st mm h => so_iconst E (by decide) dL_copy_1 h) (And.intro (fun ls st mm h => so_aload_n E rfl dL_copy_2 h) (And.intro (fun ls st mm h => so_iload_n E rfl dL_copy_3 h) (And.intro (fun ls st mm h => so_iload_n E rfl dL_copy_4 h) (And.intro (fun ls st mm h => so_callV E hQ rfl (fun _ h => h) h0 (idx := 50) (C := RX6) (T := TX6) (N := 11) rfl (by decide) (by decide) rfl hd9 (by decide) hC_X6_copy hA_L_copy tw_t3_226 tw_t3_227 tw_t3_228 tw_t1_1 tw_t3_229 (by decide +kernel) dL_copy_5 h) (And.intro (fun ls st mm h => so_i2l E dL_copy_8 h) (And.intro (fun ls st mm h => so_last E dL_copy_9 h) (And.intro (fun ls st mm h => so_goto E (tgt := 21) (by decide) dL_copy_10 h) (And.intro (fun ls st mm h => so_astore E dL_copy_13 h) (And.intro (fun ls st mm h => so_iconst E (by decide) dL_copy_15 h) (And.intro (fun ls st mm h => so_ireturn E hQ rfl (fun _ h => h) h0 (ty := .int) hrt (Or.inl ⟨rfl, rfl⟩) dL_copy_16 h) (And.intro (fun ls st mm h => so_astore E dL_copy_17 h) (And.intro (fun ls st mm h => so_iconst E (by decide) dL_copy_19 h) (And.intro (fun ls st mm h => so_ireturn E hQ rfl (fun _ h => h) h0 (ty := .int) hrt (Or.inl ⟨rfl, rfl⟩) dL_copy_20 h) (And.intro (fun ls st mm h => so_iconst E (by decide) dL_copy_21 h) (And.intro (fun ls st mm h => so_ireturn E hQ rfl (fun _ h => h) h0 (ty := .int) hrt (Or.inl ⟨rfl, rfl⟩) dL_copy_22 h) (trivial))))))))))))))))))
theorem dL_rebuild_0 : decode cL_rebuild 0 = .ok (.aload_n 3, 1) := by decide +kernel
theorem dL_rebuild_1 : decode cL_rebuild 1 = .ok (.iconst 0, 1) := by decide +kernel
theorem dL_rebuild_2 : decode cL_rebuild 2 = .ok (.aload_n 0, 1) := by decide +kernel
theorem dL_rebuild_3 : decode cL_rebuild 3 = .ok (.iload_n 1, 1) := by decide +kernel
theorem dL_rebuild_4 : decode cL_rebuild 4 = .ok (.iload_n 2, 1) := by decide +kernel
theorem dL_rebuild_5 : decode cL_rebuild 5 = .ok (.invokevirtual 53, 3) := by decide +kernel
theorem dL_rebuild_8 : decode cL_rebuild 8 = .ok (.i2l, 1) := by decide +kernel
theorem dL_rebuild_9 : decode cL_rebuild 9 = .ok (.lastore, 1) := by decide +kernel
theorem dL_rebuild_10 : decode cL_rebuild 10 = .ok (.goto 11, 3) := by decide +kernel
theorem dL_rebuild_13 : decode cL_rebuild 13 = .ok (.astore 4, 2) := by decide +kernel
theorem dL_rebuild_15 : decode cL_rebuild 15 = .ok (.iconst 1, 1) := by decide +kernel
theorem dL_rebuild_16 : decode cL_rebuild 16 = .ok (.ireturn, 1) := by decide +kernel
theorem dL_rebuild_17 : decode cL_rebuild 17 = .ok (.astore 4, 2) := by decide +kernel
theorem dL_rebuild_19 : decode cL_rebuild 19 = .ok (.iconst 2, 1) := by decide +kernel
theorem dL_rebuild_20 : decode cL_rebuild 20 = .ok (.ireturn, 1) := by decide +kernel
theorem dL_rebuild_21 : decode cL_rebuild 21 = .ok (.iconst 0, 1) := by decide +kernel
theorem dL_rebuild_22 : decode cL_rebuild 22 = .ok (.ireturn, 1) := by decide +kernel
def T_L_rebuild (sp_X6_rebuild : List ab_V → ab_M → ab_O) : ab_T := [(0, some (s_aload 3 1)), (1, some (s_const (vI 0) 2)), (2, some (s_aload 0 3)), (3, some (s_iload 1 4)), (4, some (s_iload 2 5)), (5, some (s_call 8 sp_X6_rebuild 3 [("java/lang/IndexOutOfBoundsException", 13), ("java/lang/IllegalStateException", 17)] 8)), (8, some (s_i2l 9)), (9, some (s_last 10)), (10, some (s_goto 21)), (13, some (s_astore 4 15)), (15, some (s_const (vI 1) 16)), (16, some (s_ret 0)), (17, some (s_astore 4 19)), (19, some (s_const (vI 2) 20)), (20, some (s_ret 0)), (21, some (s_const (vI 0) 22)), (22, some (s_ret 0))]
set_option maxRecDepth 20000 in
theorem mt_L_rebuild {sp_X6_rebuild : List ab_V → ab_M → ab_O} : MonoT (T_L_rebuild sp_X6_rebuild) := MA_mem (And.intro mono_aload (And.intro mono_const (And.intro mono_aload (And.intro mono_iload (And.intro mono_iload (And.intro mono_call (And.intro mono_i2l (And.intro mono_last (And.intro mono_goto (And.intro mono_astore (And.intro mono_const (And.intro mono_ret (And.intro mono_astore (And.intro mono_const (And.intro mono_ret (And.intro mono_const (And.intro mono_ret trivial)))))))))))))))))
set_option maxRecDepth 20000 in
set_option maxHeartbeats 4000000 in
theorem snd_L_rebuild {l : Launch} {D : va_G} {cA : Nat → ClassId} {d : Nat} {sp_X6_rebuild : List ab_V → ab_M → ab_O} {d' : Nat} (hd9 : d' + 1 ≤ d) (hC_X6_rebuild : ∀ as m, Ctr l D cA d' yX6_rebuild (Cond.code yX6_rebuild cX6_rebuild 3 (some .int) :: TB) as m (sp_X6_rebuild as m)) : Sound l D cA d 5 yL_rebuild cL_rebuild (some .int) (tableOf [(0, 10, 13, 13), (0, 10, 17, 15)]) (T_L_rebuild sp_X6_rebuild) := by
  intro p e R s m args below meth c loc0 m0 r Q E hQ h0 hrt hnm htab
  have hA_L_rebuild : hdA yL_rebuild.cls 5 c.exceptionTable.toList [("java/lang/IndexOutOfBoundsException", 13), ("java/lang/IllegalStateException", 17)] := by rw [htab]; exact ⟨⟨by decide +kernel, by decide +kernel, rfl, tw_t3_91, Or.inl rfl⟩, ⟨⟨by decide +kernel, by decide +kernel, rfl, tw_t3_92, Or.inr (Or.inr rfl)⟩, trivial⟩⟩
  exact SA_mem (And.intro (fun ls st mm h => so_aload_n E rfl dL_rebuild_0 h) (And.intro (fun ls st mm h => so_iconst E (by decide) dL_rebuild_1 h) (And.intro (fun ls st mm h => so_aload_n E rfl dL_rebuild_2 h) (And.intro (fun ls st mm h => so_iload_n E rfl dL_rebuild_3 h) (And.intro (fun ls st mm h => so_iload_n E rfl dL_rebuild_4 h) (And.intro (fun ls st mm h => so_callV E hQ rfl (fun _ h => h) h0 (idx := 53) (C := RX6) (T := TX6) (N := 11) rfl (by decide) (by decide) rfl hd9 (by decide) hC_X6_rebuild hA_L_rebuild tw_t3_234 tw_t3_235 tw_t3_236 tw_t1_1 tw_t3_237 (by decide +kernel) dL_rebuild_5 h) (And.intro (fun ls st mm h => so_i2l E dL_rebuild_8 h) (And.intro (fun ls st mm h => so_last E dL_rebuild_9 h) (And.intro (fun ls st mm h => so_goto E (tgt := 21) (by decide) dL_rebuild_10 h) (And.intro (fun ls st mm h => so_astore E dL_rebuild_13 h) (And.intro (fun ls st mm h => so_iconst E (by decide) dL_rebuild_15 h) (And.intro (fun ls st mm h => so_ireturn E hQ rfl (fun _ h => h) h0 (ty := .int) hrt (Or.inl ⟨rfl, rfl⟩) dL_rebuild_16 h) (And.intro (fun ls st mm h => so_astore E dL_rebuild_17 h) (And.intro (fun ls st mm h => so_iconst E (by decide) dL_rebuild_19 h) (And.intro (fun ls st mm h => so_ireturn E hQ rfl (fun _ h => h) h0 (ty := .int) hrt (Or.inl ⟨rfl, rfl⟩) dL_rebuild_20 h) (And.intro (fun ls st mm h => so_iconst E (by decide) dL_rebuild_21 h) (And.intro (fun ls st mm h => so_ireturn E hQ rfl (fun _ h => h) h0 (ty := .int) hrt (Or.inl ⟨rfl, rfl⟩) dL_rebuild_22 h) (trivial))))))))))))))))))
theorem dL_utensil_0 : decode cL_utensil 0 = .ok (.aload 6, 2) := by decide +kernel
theorem dL_utensil_2 : decode cL_utensil 2 = .ok (.iconst 0, 1) := by decide +kernel
theorem dL_utensil_3 : decode cL_utensil 3 = .ok (.aload_n 0, 1) := by decide +kernel
theorem dL_utensil_4 : decode cL_utensil 4 = .ok (.iload_n 1, 1) := by decide +kernel
theorem dL_utensil_5 : decode cL_utensil 5 = .ok (.iload_n 2, 1) := by decide +kernel
theorem dL_utensil_6 : decode cL_utensil 6 = .ok (.iload_n 3, 1) := by decide +kernel
theorem dL_utensil_7 : decode cL_utensil 7 = .ok (.iload 4, 2) := by decide +kernel
theorem dL_utensil_9 : decode cL_utensil 9 = .ok (.iload 5, 2) := by decide +kernel
theorem dL_utensil_11 : decode cL_utensil 11 = .ok (.invokevirtual 56, 3) := by decide +kernel
theorem dL_utensil_14 : decode cL_utensil 14 = .ok (.i2l, 1) := by decide +kernel
theorem dL_utensil_15 : decode cL_utensil 15 = .ok (.lastore, 1) := by decide +kernel
theorem dL_utensil_16 : decode cL_utensil 16 = .ok (.goto 15, 3) := by decide +kernel
theorem dL_utensil_19 : decode cL_utensil 19 = .ok (.astore 7, 2) := by decide +kernel
theorem dL_utensil_21 : decode cL_utensil 21 = .ok (.iconst 1, 1) := by decide +kernel
theorem dL_utensil_22 : decode cL_utensil 22 = .ok (.ireturn, 1) := by decide +kernel
theorem dL_utensil_23 : decode cL_utensil 23 = .ok (.astore 7, 2) := by decide +kernel
theorem dL_utensil_25 : decode cL_utensil 25 = .ok (.iconst 2, 1) := by decide +kernel
theorem dL_utensil_26 : decode cL_utensil 26 = .ok (.ireturn, 1) := by decide +kernel
theorem dL_utensil_27 : decode cL_utensil 27 = .ok (.astore 7, 2) := by decide +kernel
theorem dL_utensil_29 : decode cL_utensil 29 = .ok (.iconst 3, 1) := by decide +kernel
theorem dL_utensil_30 : decode cL_utensil 30 = .ok (.ireturn, 1) := by decide +kernel
theorem dL_utensil_31 : decode cL_utensil 31 = .ok (.iconst 0, 1) := by decide +kernel
theorem dL_utensil_32 : decode cL_utensil 32 = .ok (.ireturn, 1) := by decide +kernel
def T_L_utensil (sp_X6_utensil : List ab_V → ab_M → ab_O) : ab_T := [(0, some (s_aload 6 2)), (2, some (s_const (vI 0) 3)), (3, some (s_aload 0 4)), (4, some (s_iload 1 5)), (5, some (s_iload 2 6)), (6, some (s_iload 3 7)), (7, some (s_iload 4 9)), (9, some (s_iload 5 11)), (11, some (s_call 8 sp_X6_utensil 6 [("java/lang/IndexOutOfBoundsException", 19), ("java/lang/IllegalArgumentException", 23), ("java/lang/IllegalStateException", 27)] 14)), (14, some (s_i2l 15)), (15, some (s_last 16)), (16, some (s_goto 31)), (19, some (s_astore 7 21)), (21, some (s_const (vI 1) 22)), (22, some (s_ret 0)), (23, some (s_astore 7 25)), (25, some (s_const (vI 2) 26)), (26, some (s_ret 0)), (27, some (s_astore 7 29)), (29, some (s_const (vI 3) 30)), (30, some (s_ret 0)), (31, some (s_const (vI 0) 32)), (32, some (s_ret 0))]
set_option maxRecDepth 20000 in
theorem mt_L_utensil {sp_X6_utensil : List ab_V → ab_M → ab_O} : MonoT (T_L_utensil sp_X6_utensil) := MA_mem (And.intro mono_aload (And.intro mono_const (And.intro mono_aload (And.intro mono_iload (And.intro mono_iload (And.intro mono_iload (And.intro mono_iload (And.intro mono_iload (And.intro mono_call (And.intro mono_i2l (And.intro mono_last (And.intro mono_goto (And.intro mono_astore (And.intro mono_const (And.intro mono_ret (And.intro mono_astore (And.intro mono_const (And.intro mono_ret (And.intro mono_astore (And.intro mono_const (And.intro mono_ret (And.intro mono_const (And.intro mono_ret trivial)))))))))))))))))))))))
set_option maxRecDepth 20000 in
set_option maxHeartbeats 4000000 in
theorem snd_L_utensil {l : Launch} {D : va_G} {cA : Nat → ClassId} {d : Nat} {sp_X6_utensil : List ab_V → ab_M → ab_O} {d' : Nat} (hd9 : d' + 1 ≤ d) (hC_X6_utensil : ∀ as m, Ctr l D cA d' yX6_utensil (Cond.code yX6_utensil cX6_utensil 8 (some .int) :: TB) as m (sp_X6_utensil as m)) : Sound l D cA d 8 yL_utensil cL_utensil (some .int) (tableOf [(0, 16, 19, 13), (0, 16, 23, 24), (0, 16, 27, 15)]) (T_L_utensil sp_X6_utensil) := by
  intro p e R s m args below meth c loc0 m0 r Q E hQ h0 hrt hnm htab
  have hA_L_utensil : hdA yL_utensil.cls 11 c.exceptionTable.toList [("java/lang/IndexOutOfBoundsException", 19), ("java/lang/IllegalArgumentException", 23), ("java/lang/IllegalStateException", 27)] := by rw [htab]; exact ⟨⟨by decide +kernel, by decide +kernel, rfl, tw_t3_91, Or.inl rfl⟩, ⟨⟨by decide +kernel, by decide +kernel, rfl, tw_t3_133, Or.inr (Or.inl rfl)⟩, ⟨⟨by decide +kernel, by decide +kernel, rfl, tw_t3_92, Or.inr (Or.inr rfl)⟩, trivial⟩⟩⟩
  exact SA_mem (And.intro (fun ls st mm h => so_aload E dL_utensil_0 h) (And.intro (fun ls st mm h => so_iconst E (by decide) dL_utensil_2 h) (And.intro (fun ls st mm h => so_aload_n E rfl dL_utensil_3 h) (And.intro (fun ls st mm h => so_iload_n E rfl dL_utensil_4 h) (And.intro (fun ls st mm h => so_iload_n E rfl dL_utensil_5 h) (And.intro (fun ls st mm h => so_iload_n E rfl dL_utensil_6 h) (And.intro (fun ls st mm h => so_iload E dL_utensil_7 h) (And.intro (fun ls st mm h => so_iload E dL_utensil_9 h) (And.intro (fun ls st mm h => so_callV E hQ rfl (fun _ h => h) h0 (idx := 56) (C := RX6) (T := TX6) (N := 11) rfl (by decide) (by decide) rfl hd9 (by decide) hC_X6_utensil hA_L_utensil tw_t4_6 tw_t4_7 tw_t4_8 tw_t1_1 tw_t4_9 (by decide +kernel) dL_utensil_11 h) (And.intro (fun ls st mm h => so_i2l E dL_utensil_14 h) (And.intro (fun ls st mm h => so_last E dL_utensil_15 h) (And.intro (fun ls st mm h => so_goto E (tgt := 31) (by decide) dL_utensil_16 h) (And.intro (fun ls st mm h => so_astore E dL_utensil_19 h) (And.intro (fun ls st mm h => so_iconst E (by decide) dL_utensil_21 h) (And.intro (fun ls st mm h => so_ireturn E hQ rfl (fun _ h => h) h0 (ty := .int) hrt (Or.inl ⟨rfl, rfl⟩) dL_utensil_22 h) (And.intro (fun ls st mm h => so_astore E dL_utensil_23 h) (And.intro (fun ls st mm h => so_iconst E (by decide) dL_utensil_25 h) (And.intro (fun ls st mm h => so_ireturn E hQ rfl (fun _ h => h) h0 (ty := .int) hrt (Or.inl ⟨rfl, rfl⟩) dL_utensil_26 h) (And.intro (fun ls st mm h => so_astore E dL_utensil_27 h) (And.intro (fun ls st mm h => so_iconst E (by decide) dL_utensil_29 h) (And.intro (fun ls st mm h => so_ireturn E hQ rfl (fun _ h => h) h0 (ty := .int) hrt (Or.inl ⟨rfl, rfl⟩) dL_utensil_30 h) (And.intro (fun ls st mm h => so_iconst E (by decide) dL_utensil_31 h) (And.intro (fun ls st mm h => so_ireturn E hQ rfl (fun _ h => h) h0 (ty := .int) hrt (Or.inl ⟨rfl, rfl⟩) dL_utensil_32 h) (trivial))))))))))))))))))))))))
theorem dL_lend_0 : decode cL_lend 0 = .ok (.aload_n 3, 1) := by decide +kernel
theorem dL_lend_1 : decode cL_lend 1 = .ok (.iconst 0, 1) := by decide +kernel
theorem dL_lend_2 : decode cL_lend 2 = .ok (.aload_n 0, 1) := by decide +kernel
theorem dL_lend_3 : decode cL_lend 3 = .ok (.iload_n 1, 1) := by decide +kernel
theorem dL_lend_4 : decode cL_lend 4 = .ok (.iload_n 2, 1) := by decide +kernel
theorem dL_lend_5 : decode cL_lend 5 = .ok (.invokevirtual 60, 3) := by decide +kernel
theorem dL_lend_8 : decode cL_lend 8 = .ok (.i2l, 1) := by decide +kernel
theorem dL_lend_9 : decode cL_lend 9 = .ok (.lastore, 1) := by decide +kernel
theorem dL_lend_10 : decode cL_lend 10 = .ok (.goto 11, 3) := by decide +kernel
theorem dL_lend_13 : decode cL_lend 13 = .ok (.astore 4, 2) := by decide +kernel
theorem dL_lend_15 : decode cL_lend 15 = .ok (.iconst 1, 1) := by decide +kernel
theorem dL_lend_16 : decode cL_lend 16 = .ok (.ireturn, 1) := by decide +kernel
theorem dL_lend_17 : decode cL_lend 17 = .ok (.astore 4, 2) := by decide +kernel
theorem dL_lend_19 : decode cL_lend 19 = .ok (.iconst 2, 1) := by decide +kernel
theorem dL_lend_20 : decode cL_lend 20 = .ok (.ireturn, 1) := by decide +kernel
theorem dL_lend_21 : decode cL_lend 21 = .ok (.iconst 0, 1) := by decide +kernel
theorem dL_lend_22 : decode cL_lend 22 = .ok (.ireturn, 1) := by decide +kernel
def T_L_lend (sp_X6_lend : List ab_V → ab_M → ab_O) : ab_T := [(0, some (s_aload 3 1)), (1, some (s_const (vI 0) 2)), (2, some (s_aload 0 3)), (3, some (s_iload 1 4)), (4, some (s_iload 2 5)), (5, some (s_call 8 sp_X6_lend 3 [("java/lang/IndexOutOfBoundsException", 13), ("java/lang/IllegalStateException", 17)] 8)), (8, some (s_i2l 9)), (9, some (s_last 10)), (10, some (s_goto 21)), (13, some (s_astore 4 15)), (15, some (s_const (vI 1) 16)), (16, some (s_ret 0)), (17, some (s_astore 4 19)), (19, some (s_const (vI 2) 20)), (20, some (s_ret 0)), (21, some (s_const (vI 0) 22)), (22, some (s_ret 0))]
set_option maxRecDepth 20000 in
theorem mt_L_lend {sp_X6_lend : List ab_V → ab_M → ab_O} : MonoT (T_L_lend sp_X6_lend) := MA_mem (And.intro mono_aload (And.intro mono_const (And.intro mono_aload (And.intro mono_iload (And.intro mono_iload (And.intro mono_call (And.intro mono_i2l (And.intro mono_last (And.intro mono_goto (And.intro mono_astore (And.intro mono_const (And.intro mono_ret (And.intro mono_astore (And.intro mono_const (And.intro mono_ret (And.intro mono_const (And.intro mono_ret trivial)))))))))))))))))
set_option maxRecDepth 20000 in
set_option maxHeartbeats 4000000 in
theorem snd_L_lend {l : Launch} {D : va_G} {cA : Nat → ClassId} {d : Nat} {sp_X6_lend : List ab_V → ab_M → ab_O} {d' : Nat} (hd9 : d' + 1 ≤ d) (hC_X6_lend : ∀ as m, Ctr l D cA d' yX6_lend (Cond.code yX6_lend cX6_lend 4 (some .int) :: TB) as m (sp_X6_lend as m)) : Sound l D cA d 5 yL_lend cL_lend (some .int) (tableOf [(0, 10, 13, 13), (0, 10, 17, 15)]) (T_L_lend sp_X6_lend) := by
  intro p e R s m args below meth c loc0 m0 r Q E hQ h0 hrt hnm htab
  have hA_L_lend : hdA yL_lend.cls 5 c.exceptionTable.toList [("java/lang/IndexOutOfBoundsException", 13), ("java/lang/IllegalStateException", 17)] := by rw [htab]; exact ⟨⟨by decide +kernel, by decide +kernel, rfl, tw_t3_91, Or.inl rfl⟩, ⟨⟨by decide +kernel, by decide +kernel, rfl, tw_t3_92, Or.inr (Or.inr rfl)⟩, trivial⟩⟩
  exact SA_mem (And.intro (fun ls st mm h => so_aload_n E rfl dL_lend_0 h) (And.intro (fun ls st mm h => so_iconst E (by decide) dL_lend_1 h) (And.intro (fun ls st mm h => so_aload_n E rfl dL_lend_2 h) (And.intro (fun ls st mm h => so_iload_n E rfl dL_lend_3 h) (And.intro (fun ls st mm h => so_iload_n E rfl dL_lend_4 h) (And.intro (fun ls st mm h => so_callV E hQ rfl (fun _ h => h) h0 (idx := 60) (C := RX6) (T := TX6) (N := 11) rfl (by decide) (by decide) rfl hd9 (by decide) hC_X6_lend hA_L_lend tw_t4_18 tw_t4_19 tw_t4_20 tw_t1_1 tw_t4_21 (by decide +kernel) dL_lend_5 h) (And.intro (fun ls st mm h => so_i2l E dL_lend_8 h) (And.intro (fun ls st mm h => so_last E dL_lend_9 h) (And.intro (fun ls st mm h => so_goto E (tgt := 21) (by decide) dL_lend_10 h) (And.intro (fun ls st mm h => so_astore E dL_lend_13 h) (And.intro (fun ls st mm h => so_iconst E (by decide) dL_lend_15 h) (And.intro (fun ls st mm h => so_ireturn E hQ rfl (fun _ h => h) h0 (ty := .int) hrt (Or.inl ⟨rfl, rfl⟩) dL_lend_16 h) (And.intro (fun ls st mm h => so_astore E dL_lend_17 h) (And.intro (fun ls st mm h => so_iconst E (by decide) dL_lend_19 h) (And.intro (fun ls st mm h => so_ireturn E hQ rfl (fun _ h => h) h0 (ty := .int) hrt (Or.inl ⟨rfl, rfl⟩) dL_lend_20 h) (And.intro (fun ls st mm h => so_iconst E (by decide) dL_lend_21 h) (And.intro (fun ls st mm h => so_ireturn E hQ rfl (fun _ h => h) h0 (ty := .int) hrt (Or.inl ⟨rfl, rfl⟩) dL_lend_22 h) (trivial))))))))))))))))))
theorem dL_mend_0 : decode cL_mend 0 = .ok (.aload_n 3, 1) := by decide +kernel
theorem dL_mend_1 : decode cL_mend 1 = .ok (.iconst 0, 1) := by decide +kernel
theorem dL_mend_2 : decode cL_mend 2 = .ok (.aload_n 0, 1) := by decide +kernel
theorem dL_mend_3 : decode cL_mend 3 = .ok (.iload_n 1, 1) := by decide +kernel
theorem dL_mend_4 : decode cL_mend 4 = .ok (.iload_n 2, 1) := by decide +kernel
theorem dL_mend_5 : decode cL_mend 5 = .ok (.invokevirtual 63, 3) := by decide +kernel
theorem dL_mend_8 : decode cL_mend 8 = .ok (.i2l, 1) := by decide +kernel
theorem dL_mend_9 : decode cL_mend 9 = .ok (.lastore, 1) := by decide +kernel
theorem dL_mend_10 : decode cL_mend 10 = .ok (.goto 11, 3) := by decide +kernel
theorem dL_mend_13 : decode cL_mend 13 = .ok (.astore 4, 2) := by decide +kernel
theorem dL_mend_15 : decode cL_mend 15 = .ok (.iconst 1, 1) := by decide +kernel
theorem dL_mend_16 : decode cL_mend 16 = .ok (.ireturn, 1) := by decide +kernel
theorem dL_mend_17 : decode cL_mend 17 = .ok (.astore 4, 2) := by decide +kernel
theorem dL_mend_19 : decode cL_mend 19 = .ok (.iconst 2, 1) := by decide +kernel
theorem dL_mend_20 : decode cL_mend 20 = .ok (.ireturn, 1) := by decide +kernel
theorem dL_mend_21 : decode cL_mend 21 = .ok (.iconst 0, 1) := by decide +kernel
theorem dL_mend_22 : decode cL_mend 22 = .ok (.ireturn, 1) := by decide +kernel
def T_L_mend (sp_X6_mend : List ab_V → ab_M → ab_O) : ab_T := [(0, some (s_aload 3 1)), (1, some (s_const (vI 0) 2)), (2, some (s_aload 0 3)), (3, some (s_iload 1 4)), (4, some (s_iload 2 5)), (5, some (s_call 8 sp_X6_mend 3 [("java/lang/IndexOutOfBoundsException", 13), ("java/lang/IllegalStateException", 17)] 8)), (8, some (s_i2l 9)), (9, some (s_last 10)), (10, some (s_goto 21)), (13, some (s_astore 4 15)), (15, some (s_const (vI 1) 16)), (16, some (s_ret 0)), (17, some (s_astore 4 19)), (19, some (s_const (vI 2) 20)), (20, some (s_ret 0)), (21, some (s_const (vI 0) 22)), (22, some (s_ret 0))]
set_option maxRecDepth 20000 in
theorem mt_L_mend {sp_X6_mend : List ab_V → ab_M → ab_O} : MonoT (T_L_mend sp_X6_mend) := MA_mem (And.intro mono_aload (And.intro mono_const (And.intro mono_aload (And.intro mono_iload (And.intro mono_iload (And.intro mono_call (And.intro mono_i2l (And.intro mono_last (And.intro mono_goto (And.intro mono_astore (And.intro mono_const (And.intro mono_ret (And.intro mono_astore (And.intro mono_const (And.intro mono_ret (And.intro mono_const (And.intro mono_ret trivial)))))))))))))))))
set_option maxRecDepth 20000 in
set_option maxHeartbeats 4000000 in
theorem snd_L_mend {l : Launch} {D : va_G} {cA : Nat → ClassId} {d : Nat} {sp_X6_mend : List ab_V → ab_M → ab_O} {d' : Nat} (hd9 : d' + 1 ≤ d) (hC_X6_mend : ∀ as m, Ctr l D cA d' yX6_mend (Cond.code yX6_mend cX6_mend 3 (some .int) :: TB) as m (sp_X6_mend as m)) : Sound l D cA d 5 yL_mend cL_mend (some .int) (tableOf [(0, 10, 13, 13), (0, 10, 17, 15)]) (T_L_mend sp_X6_mend) := by
  intro p e R s m args below meth c loc0 m0 r Q E hQ h0 hrt hnm htab
  have hA_L_mend : hdA yL_mend.cls 5 c.exceptionTable.toList [("java/lang/IndexOutOfBoundsException", 13), ("java/lang/IllegalStateException", 17)] := by rw [htab]; exact ⟨⟨by decide +kernel, by decide +kernel, rfl, tw_t3_91, Or.inl rfl⟩, ⟨⟨by decide +kernel, by decide +kernel, rfl, tw_t3_92, Or.inr (Or.inr rfl)⟩, trivial⟩⟩
  exact SA_mem (And.intro (fun ls st mm h => so_aload_n E rfl dL_mend_0 h) (And.intro (fun ls st mm h => so_iconst E (by decide) dL_mend_1 h) (And.intro (fun ls st mm h => so_aload_n E rfl dL_mend_2 h) (And.intro (fun ls st mm h => so_iload_n E rfl dL_mend_3 h) (And.intro (fun ls st mm h => so_iload_n E rfl dL_mend_4 h) (And.intro (fun ls st mm h => so_callV E hQ rfl (fun _ h => h) h0 (idx := 63) (C := RX6) (T := TX6) (N := 11) rfl (by decide) (by decide) rfl hd9 (by decide) hC_X6_mend hA_L_mend tw_t4_26 tw_t4_27 tw_t4_28 tw_t1_1 tw_t4_29 (by decide +kernel) dL_mend_5 h) (And.intro (fun ls st mm h => so_i2l E dL_mend_8 h) (And.intro (fun ls st mm h => so_last E dL_mend_9 h) (And.intro (fun ls st mm h => so_goto E (tgt := 21) (by decide) dL_mend_10 h) (And.intro (fun ls st mm h => so_astore E dL_mend_13 h) (And.intro (fun ls st mm h => so_iconst E (by decide) dL_mend_15 h) (And.intro (fun ls st mm h => so_ireturn E hQ rfl (fun _ h => h) h0 (ty := .int) hrt (Or.inl ⟨rfl, rfl⟩) dL_mend_16 h) (And.intro (fun ls st mm h => so_astore E dL_mend_17 h) (And.intro (fun ls st mm h => so_iconst E (by decide) dL_mend_19 h) (And.intro (fun ls st mm h => so_ireturn E hQ rfl (fun _ h => h) h0 (ty := .int) hrt (Or.inl ⟨rfl, rfl⟩) dL_mend_20 h) (And.intro (fun ls st mm h => so_iconst E (by decide) dL_mend_21 h) (And.intro (fun ls st mm h => so_ireturn E hQ rfl (fun _ h => h) h0 (ty := .int) hrt (Or.inl ⟨rfl, rfl⟩) dL_mend_22 h) (trivial))))))))))))))))))
theorem dL_quarrel_0 : decode cL_quarrel 0 = .ok (.aload 4, 2) := by decide +kernel
theorem dL_quarrel_2 : decode cL_quarrel 2 = .ok (.iconst 0, 1) := by decide +kernel
theorem dL_quarrel_3 : decode cL_quarrel 3 = .ok (.aload_n 0, 1) := by decide +kernel
theorem dL_quarrel_4 : decode cL_quarrel 4 = .ok (.iload_n 1, 1) := by decide +kernel
theorem dL_quarrel_5 : decode cL_quarrel 5 = .ok (.iload_n 2, 1) := by decide +kernel
theorem dL_quarrel_6 : decode cL_quarrel 6 = .ok (.iload_n 3, 1) := by decide +kernel
theorem dL_quarrel_7 : decode cL_quarrel 7 = .ok (.invokevirtual 67, 3) := by decide +kernel
theorem dL_quarrel_10 : decode cL_quarrel 10 = .ok (.ifCond .eq 7, 3) := by decide +kernel
theorem dL_quarrel_13 : decode cL_quarrel 13 = .ok (.lconst 1, 1) := by decide +kernel
theorem dL_quarrel_14 : decode cL_quarrel 14 = .ok (.goto 4, 3) := by decide +kernel
theorem dL_quarrel_17 : decode cL_quarrel 17 = .ok (.lconst 0, 1) := by decide +kernel
theorem dL_quarrel_18 : decode cL_quarrel 18 = .ok (.lastore, 1) := by decide +kernel
theorem dL_quarrel_19 : decode cL_quarrel 19 = .ok (.goto 11, 3) := by decide +kernel
theorem dL_quarrel_22 : decode cL_quarrel 22 = .ok (.astore 5, 2) := by decide +kernel
theorem dL_quarrel_24 : decode cL_quarrel 24 = .ok (.iconst 1, 1) := by decide +kernel
theorem dL_quarrel_25 : decode cL_quarrel 25 = .ok (.ireturn, 1) := by decide +kernel
theorem dL_quarrel_26 : decode cL_quarrel 26 = .ok (.astore 5, 2) := by decide +kernel
theorem dL_quarrel_28 : decode cL_quarrel 28 = .ok (.iconst 2, 1) := by decide +kernel
theorem dL_quarrel_29 : decode cL_quarrel 29 = .ok (.ireturn, 1) := by decide +kernel
theorem dL_quarrel_30 : decode cL_quarrel 30 = .ok (.iconst 0, 1) := by decide +kernel
theorem dL_quarrel_31 : decode cL_quarrel 31 = .ok (.ireturn, 1) := by decide +kernel
def T_L_quarrel (sp_X6_quarrel : List ab_V → ab_M → ab_O) : ab_T := [(0, some (s_aload 4 2)), (2, some (s_const (vI 0) 3)), (3, some (s_aload 0 4)), (4, some (s_iload 1 5)), (5, some (s_iload 2 6)), (6, some (s_iload 3 7)), (7, some (s_call 8 sp_X6_quarrel 4 [("java/lang/IndexOutOfBoundsException", 22), ("java/lang/IllegalArgumentException", 26)] 10)), (10, some (s_ifeq 17 13)), (13, some (s_const (vL 1) 14)), (14, some (s_goto 18)), (17, some (s_const (vL 0) 18)), (18, some (s_last 19)), (19, some (s_goto 30)), (22, some (s_astore 5 24)), (24, some (s_const (vI 1) 25)), (25, some (s_ret 0)), (26, some (s_astore 5 28)), (28, some (s_const (vI 2) 29)), (29, some (s_ret 0)), (30, some (s_const (vI 0) 31)), (31, some (s_ret 0))]
set_option maxRecDepth 20000 in
theorem mt_L_quarrel {sp_X6_quarrel : List ab_V → ab_M → ab_O} : MonoT (T_L_quarrel sp_X6_quarrel) := MA_mem (And.intro mono_aload (And.intro mono_const (And.intro mono_aload (And.intro mono_iload (And.intro mono_iload (And.intro mono_iload (And.intro mono_call (And.intro mono_ifeq (And.intro mono_const (And.intro mono_goto (And.intro mono_const (And.intro mono_last (And.intro mono_goto (And.intro mono_astore (And.intro mono_const (And.intro mono_ret (And.intro mono_astore (And.intro mono_const (And.intro mono_ret (And.intro mono_const (And.intro mono_ret trivial)))))))))))))))))))))
set_option maxRecDepth 20000 in
set_option maxHeartbeats 4000000 in
theorem snd_L_quarrel {l : Launch} {D : va_G} {cA : Nat → ClassId} {d : Nat} {sp_X6_quarrel : List ab_V → ab_M → ab_O} {d' : Nat} (hd9 : d' + 1 ≤ d) (hC_X6_quarrel : ∀ as m, Ctr l D cA d' yX6_quarrel (Cond.code yX6_quarrel cX6_quarrel 5 (some .boolean) :: TB) as m (sp_X6_quarrel as m)) : Sound l D cA d 6 yL_quarrel cL_quarrel (some .int) (tableOf [(0, 19, 22, 13), (0, 19, 26, 24)]) (T_L_quarrel sp_X6_quarrel) := by
  intro p e R s m args below meth c loc0 m0 r Q E hQ h0 hrt hnm htab
  have hA_L_quarrel : hdA yL_quarrel.cls 7 c.exceptionTable.toList [("java/lang/IndexOutOfBoundsException", 22), ("java/lang/IllegalArgumentException", 26)] := by rw [htab]; exact ⟨⟨by decide +kernel, by decide +kernel, rfl, tw_t3_91, Or.inl rfl⟩, ⟨⟨by decide +kernel, by decide +kernel, rfl, tw_t3_133, Or.inr (Or.inl rfl)⟩, trivial⟩⟩
  exact SA_mem (And.intro (fun ls st mm h => so_aload E dL_quarrel_0 h) (And.intro (fun ls st mm h => so_iconst E (by decide) dL_quarrel_2 h) (And.intro (fun ls st mm h => so_aload_n E rfl dL_quarrel_3 h) (And.intro (fun ls st mm h => so_iload_n E rfl dL_quarrel_4 h) (And.intro (fun ls st mm h => so_iload_n E rfl dL_quarrel_5 h) (And.intro (fun ls st mm h => so_iload_n E rfl dL_quarrel_6 h) (And.intro (fun ls st mm h => so_callV E hQ rfl (fun _ h => h) h0 (idx := 67) (C := RX6) (T := TX6) (N := 11) rfl (by decide) (by decide) rfl hd9 (by decide) hC_X6_quarrel hA_L_quarrel tw_t4_46 tw_t4_47 tw_t4_48 tw_t1_1 tw_t4_49 (by decide +kernel) dL_quarrel_7 h) (And.intro (fun ls st mm h => so_ifeq E (tgt := 17) (by decide) dL_quarrel_10 h) (And.intro (fun ls st mm h => so_lconst E (by decide) dL_quarrel_13 h) (And.intro (fun ls st mm h => so_goto E (tgt := 18) (by decide) dL_quarrel_14 h) (And.intro (fun ls st mm h => so_lconst E (by decide) dL_quarrel_17 h) (And.intro (fun ls st mm h => so_last E dL_quarrel_18 h) (And.intro (fun ls st mm h => so_goto E (tgt := 30) (by decide) dL_quarrel_19 h) (And.intro (fun ls st mm h => so_astore E dL_quarrel_22 h) (And.intro (fun ls st mm h => so_iconst E (by decide) dL_quarrel_24 h) (And.intro (fun ls st mm h => so_ireturn E hQ rfl (fun _ h => h) h0 (ty := .int) hrt (Or.inl ⟨rfl, rfl⟩) dL_quarrel_25 h) (And.intro (fun ls st mm h => so_astore E dL_quarrel_26 h) (And.intro (fun ls st mm h => so_iconst E (by decide) dL_quarrel_28 h) (And.intro (fun ls st mm h => so_ireturn E hQ rfl (fun _ h => h) h0 (ty := .int) hrt (Or.inl ⟨rfl, rfl⟩) dL_quarrel_29 h) (And.intro (fun ls st mm h => so_iconst E (by decide) dL_quarrel_30 h) (And.intro (fun ls st mm h => so_ireturn E hQ rfl (fun _ h => h) h0 (ty := .int) hrt (Or.inl ⟨rfl, rfl⟩) dL_quarrel_31 h) (trivial))))))))))))))))))))))
theorem dL_hold_0 : decode cL_hold 0 = .ok (.aload_n 3, 1) := by decide +kernel
theorem dL_hold_1 : decode cL_hold 1 = .ok (.iconst 0, 1) := by decide +kernel
theorem dL_hold_2 : decode cL_hold 2 = .ok (.aload_n 0, 1) := by decide +kernel
theorem dL_hold_3 : decode cL_hold 3 = .ok (.iload_n 1, 1) := by decide +kernel
theorem dL_hold_4 : decode cL_hold 4 = .ok (.iload_n 2, 1) := by decide +kernel
theorem dL_hold_5 : decode cL_hold 5 = .ok (.invokevirtual 71, 3) := by decide +kernel
theorem dL_hold_8 : decode cL_hold 8 = .ok (.i2l, 1) := by decide +kernel
theorem dL_hold_9 : decode cL_hold 9 = .ok (.lastore, 1) := by decide +kernel
theorem dL_hold_10 : decode cL_hold 10 = .ok (.goto 15, 3) := by decide +kernel
theorem dL_hold_13 : decode cL_hold 13 = .ok (.astore 4, 2) := by decide +kernel
theorem dL_hold_15 : decode cL_hold 15 = .ok (.iconst 1, 1) := by decide +kernel
theorem dL_hold_16 : decode cL_hold 16 = .ok (.ireturn, 1) := by decide +kernel
theorem dL_hold_17 : decode cL_hold 17 = .ok (.astore 4, 2) := by decide +kernel
theorem dL_hold_19 : decode cL_hold 19 = .ok (.iconst 2, 1) := by decide +kernel
theorem dL_hold_20 : decode cL_hold 20 = .ok (.ireturn, 1) := by decide +kernel
theorem dL_hold_21 : decode cL_hold 21 = .ok (.astore 4, 2) := by decide +kernel
theorem dL_hold_23 : decode cL_hold 23 = .ok (.iconst 3, 1) := by decide +kernel
theorem dL_hold_24 : decode cL_hold 24 = .ok (.ireturn, 1) := by decide +kernel
theorem dL_hold_25 : decode cL_hold 25 = .ok (.iconst 0, 1) := by decide +kernel
theorem dL_hold_26 : decode cL_hold 26 = .ok (.ireturn, 1) := by decide +kernel
def T_L_hold (sp_X6_hold : List ab_V → ab_M → ab_O) : ab_T := [(0, some (s_aload 3 1)), (1, some (s_const (vI 0) 2)), (2, some (s_aload 0 3)), (3, some (s_iload 1 4)), (4, some (s_iload 2 5)), (5, some (s_call 8 sp_X6_hold 3 [("java/lang/IndexOutOfBoundsException", 13), ("java/lang/IllegalArgumentException", 17), ("java/lang/IllegalStateException", 21)] 8)), (8, some (s_i2l 9)), (9, some (s_last 10)), (10, some (s_goto 25)), (13, some (s_astore 4 15)), (15, some (s_const (vI 1) 16)), (16, some (s_ret 0)), (17, some (s_astore 4 19)), (19, some (s_const (vI 2) 20)), (20, some (s_ret 0)), (21, some (s_astore 4 23)), (23, some (s_const (vI 3) 24)), (24, some (s_ret 0)), (25, some (s_const (vI 0) 26)), (26, some (s_ret 0))]
set_option maxRecDepth 20000 in
theorem mt_L_hold {sp_X6_hold : List ab_V → ab_M → ab_O} : MonoT (T_L_hold sp_X6_hold) := MA_mem (And.intro mono_aload (And.intro mono_const (And.intro mono_aload (And.intro mono_iload (And.intro mono_iload (And.intro mono_call (And.intro mono_i2l (And.intro mono_last (And.intro mono_goto (And.intro mono_astore (And.intro mono_const (And.intro mono_ret (And.intro mono_astore (And.intro mono_const (And.intro mono_ret (And.intro mono_astore (And.intro mono_const (And.intro mono_ret (And.intro mono_const (And.intro mono_ret trivial))))))))))))))))))))
set_option maxRecDepth 20000 in
set_option maxHeartbeats 4000000 in
theorem snd_L_hold {l : Launch} {D : va_G} {cA : Nat → ClassId} {d : Nat} {sp_X6_hold : List ab_V → ab_M → ab_O} {d' : Nat} (hd9 : d' + 1 ≤ d) (hC_X6_hold : ∀ as m, Ctr l D cA d' yX6_hold (Cond.code yX6_hold cX6_hold 6 (some .int) :: TB) as m (sp_X6_hold as m)) : Sound l D cA d 5 yL_hold cL_hold (some .int) (tableOf [(0, 10, 13, 13), (0, 10, 17, 24), (0, 10, 21, 15)]) (T_L_hold sp_X6_hold) := by
  intro p e R s m args below meth c loc0 m0 r Q E hQ h0 hrt hnm htab
  have hA_L_hold : hdA yL_hold.cls 5 c.exceptionTable.toList [("java/lang/IndexOutOfBoundsException", 13), ("java/lang/IllegalArgumentException", 17), ("java/lang/IllegalStateException", 21)] := by rw [htab]; exact ⟨⟨by decide +kernel, by decide +kernel, rfl, tw_t3_91, Or.inl rfl⟩, ⟨⟨by decide +kernel, by decide +kernel, rfl, tw_t3_133, Or.inr (Or.inl rfl)⟩, ⟨⟨by decide +kernel, by decide +kernel, rfl, tw_t3_92, Or.inr (Or.inr rfl)⟩, trivial⟩⟩⟩
  exact SA_mem (And.intro (fun ls st mm h => so_aload_n E rfl dL_hold_0 h) (And.intro (fun ls st mm h => so_iconst E (by decide) dL_hold_1 h) (And.intro (fun ls st mm h => so_aload_n E rfl dL_hold_2 h) (And.intro (fun ls st mm h => so_iload_n E rfl dL_hold_3 h) (And.intro (fun ls st mm h => so_iload_n E rfl dL_hold_4 h) (And.intro (fun ls st mm h => so_callV E hQ rfl (fun _ h => h) h0 (idx := 71) (C := RX6) (T := TX6) (N := 11) rfl (by decide) (by decide) rfl hd9 (by decide) hC_X6_hold hA_L_hold tw_t4_59 tw_t4_60 tw_t4_61 tw_t1_1 tw_t4_62 (by decide +kernel) dL_hold_5 h) (And.intro (fun ls st mm h => so_i2l E dL_hold_8 h) (And.intro (fun ls st mm h => so_last E dL_hold_9 h) (And.intro (fun ls st mm h => so_goto E (tgt := 25) (by decide) dL_hold_10 h) (And.intro (fun ls st mm h => so_astore E dL_hold_13 h) (And.intro (fun ls st mm h => so_iconst E (by decide) dL_hold_15 h) (And.intro (fun ls st mm h => so_ireturn E hQ rfl (fun _ h => h) h0 (ty := .int) hrt (Or.inl ⟨rfl, rfl⟩) dL_hold_16 h) (And.intro (fun ls st mm h => so_astore E dL_hold_17 h) (And.intro (fun ls st mm h => so_iconst E (by decide) dL_hold_19 h) (And.intro (fun ls st mm h => so_ireturn E hQ rfl (fun _ h => h) h0 (ty := .int) hrt (Or.inl ⟨rfl, rfl⟩) dL_hold_20 h) (And.intro (fun ls st mm h => so_astore E dL_hold_21 h) (And.intro (fun ls st mm h => so_iconst E (by decide) dL_hold_23 h) (And.intro (fun ls st mm h => so_ireturn E hQ rfl (fun _ h => h) h0 (ty := .int) hrt (Or.inl ⟨rfl, rfl⟩) dL_hold_24 h) (And.intro (fun ls st mm h => so_iconst E (by decide) dL_hold_25 h) (And.intro (fun ls st mm h => so_ireturn E hQ rfl (fun _ h => h) h0 (ty := .int) hrt (Or.inl ⟨rfl, rfl⟩) dL_hold_26 h) (trivial)))))))))))))))))))))
theorem dL_ofPerson_0 : decode cL_ofPerson 0 = .ok (.aload_n 3, 1) := by decide +kernel
theorem dL_ofPerson_1 : decode cL_ofPerson 1 = .ok (.iconst 0, 1) := by decide +kernel
theorem dL_ofPerson_2 : decode cL_ofPerson 2 = .ok (.aload_n 0, 1) := by decide +kernel
theorem dL_ofPerson_3 : decode cL_ofPerson 3 = .ok (.iload_n 1, 1) := by decide +kernel
theorem dL_ofPerson_4 : decode cL_ofPerson 4 = .ok (.iload_n 2, 1) := by decide +kernel
theorem dL_ofPerson_5 : decode cL_ofPerson 5 = .ok (.invokevirtual 74, 3) := by decide +kernel
theorem dL_ofPerson_8 : decode cL_ofPerson 8 = .ok (.i2l, 1) := by decide +kernel
theorem dL_ofPerson_9 : decode cL_ofPerson 9 = .ok (.lastore, 1) := by decide +kernel
theorem dL_ofPerson_10 : decode cL_ofPerson 10 = .ok (.goto 11, 3) := by decide +kernel
theorem dL_ofPerson_13 : decode cL_ofPerson 13 = .ok (.astore 4, 2) := by decide +kernel
theorem dL_ofPerson_15 : decode cL_ofPerson 15 = .ok (.iconst 1, 1) := by decide +kernel
theorem dL_ofPerson_16 : decode cL_ofPerson 16 = .ok (.ireturn, 1) := by decide +kernel
theorem dL_ofPerson_17 : decode cL_ofPerson 17 = .ok (.astore 4, 2) := by decide +kernel
theorem dL_ofPerson_19 : decode cL_ofPerson 19 = .ok (.iconst 2, 1) := by decide +kernel
theorem dL_ofPerson_20 : decode cL_ofPerson 20 = .ok (.ireturn, 1) := by decide +kernel
theorem dL_ofPerson_21 : decode cL_ofPerson 21 = .ok (.iconst 0, 1) := by decide +kernel
theorem dL_ofPerson_22 : decode cL_ofPerson 22 = .ok (.ireturn, 1) := by decide +kernel
def T_L_ofPerson (sp_X6_ofPerson : List ab_V → ab_M → ab_O) : ab_T := [(0, some (s_aload 3 1)), (1, some (s_const (vI 0) 2)), (2, some (s_aload 0 3)), (3, some (s_iload 1 4)), (4, some (s_iload 2 5)), (5, some (s_call 8 sp_X6_ofPerson 3 [("java/lang/IndexOutOfBoundsException", 13), ("java/lang/IllegalArgumentException", 17)] 8)), (8, some (s_i2l 9)), (9, some (s_last 10)), (10, some (s_goto 21)), (13, some (s_astore 4 15)), (15, some (s_const (vI 1) 16)), (16, some (s_ret 0)), (17, some (s_astore 4 19)), (19, some (s_const (vI 2) 20)), (20, some (s_ret 0)), (21, some (s_const (vI 0) 22)), (22, some (s_ret 0))]
set_option maxRecDepth 20000 in
theorem mt_L_ofPerson {sp_X6_ofPerson : List ab_V → ab_M → ab_O} : MonoT (T_L_ofPerson sp_X6_ofPerson) := MA_mem (And.intro mono_aload (And.intro mono_const (And.intro mono_aload (And.intro mono_iload (And.intro mono_iload (And.intro mono_call (And.intro mono_i2l (And.intro mono_last (And.intro mono_goto (And.intro mono_astore (And.intro mono_const (And.intro mono_ret (And.intro mono_astore (And.intro mono_const (And.intro mono_ret (And.intro mono_const (And.intro mono_ret trivial)))))))))))))))))
set_option maxRecDepth 20000 in
set_option maxHeartbeats 4000000 in
theorem snd_L_ofPerson {l : Launch} {D : va_G} {cA : Nat → ClassId} {d : Nat} {sp_X6_ofPerson : List ab_V → ab_M → ab_O} {d' : Nat} (hd9 : d' + 1 ≤ d) (hC_X6_ofPerson : ∀ as m, Ctr l D cA d' yX6_ofPerson (Cond.code yX6_ofPerson cX6_ofPerson 3 (some .int) :: TB) as m (sp_X6_ofPerson as m)) : Sound l D cA d 5 yL_ofPerson cL_ofPerson (some .int) (tableOf [(0, 10, 13, 13), (0, 10, 17, 24)]) (T_L_ofPerson sp_X6_ofPerson) := by
  intro p e R s m args below meth c loc0 m0 r Q E hQ h0 hrt hnm htab
  have hA_L_ofPerson : hdA yL_ofPerson.cls 5 c.exceptionTable.toList [("java/lang/IndexOutOfBoundsException", 13), ("java/lang/IllegalArgumentException", 17)] := by rw [htab]; exact ⟨⟨by decide +kernel, by decide +kernel, rfl, tw_t3_91, Or.inl rfl⟩, ⟨⟨by decide +kernel, by decide +kernel, rfl, tw_t3_133, Or.inr (Or.inl rfl)⟩, trivial⟩⟩
  exact SA_mem (And.intro (fun ls st mm h => so_aload_n E rfl dL_ofPerson_0 h) (And.intro (fun ls st mm h => so_iconst E (by decide) dL_ofPerson_1 h) (And.intro (fun ls st mm h => so_aload_n E rfl dL_ofPerson_2 h) (And.intro (fun ls st mm h => so_iload_n E rfl dL_ofPerson_3 h) (And.intro (fun ls st mm h => so_iload_n E rfl dL_ofPerson_4 h) (And.intro (fun ls st mm h => so_callV E hQ rfl (fun _ h => h) h0 (idx := 74) (C := RX6) (T := TX6) (N := 11) rfl (by decide) (by decide) rfl hd9 (by decide) hC_X6_ofPerson hA_L_ofPerson tw_t4_112 tw_t2_152 tw_t2_153 tw_t1_1 tw_t2_154 (by decide +kernel) dL_ofPerson_5 h) (And.intro (fun ls st mm h => so_i2l E dL_ofPerson_8 h) (And.intro (fun ls st mm h => so_last E dL_ofPerson_9 h) (And.intro (fun ls st mm h => so_goto E (tgt := 21) (by decide) dL_ofPerson_10 h) (And.intro (fun ls st mm h => so_astore E dL_ofPerson_13 h) (And.intro (fun ls st mm h => so_iconst E (by decide) dL_ofPerson_15 h) (And.intro (fun ls st mm h => so_ireturn E hQ rfl (fun _ h => h) h0 (ty := .int) hrt (Or.inl ⟨rfl, rfl⟩) dL_ofPerson_16 h) (And.intro (fun ls st mm h => so_astore E dL_ofPerson_17 h) (And.intro (fun ls st mm h => so_iconst E (by decide) dL_ofPerson_19 h) (And.intro (fun ls st mm h => so_ireturn E hQ rfl (fun _ h => h) h0 (ty := .int) hrt (Or.inl ⟨rfl, rfl⟩) dL_ofPerson_20 h) (And.intro (fun ls st mm h => so_iconst E (by decide) dL_ofPerson_21 h) (And.intro (fun ls st mm h => so_ireturn E hQ rfl (fun _ h => h) h0 (ty := .int) hrt (Or.inl ⟨rfl, rfl⟩) dL_ofPerson_22 h) (trivial))))))))))))))))))
theorem dL_giver_0 : decode cL_giver 0 = .ok (.aload 4, 2) := by decide +kernel
theorem dL_giver_2 : decode cL_giver 2 = .ok (.iconst 0, 1) := by decide +kernel
theorem dL_giver_3 : decode cL_giver 3 = .ok (.aload_n 0, 1) := by decide +kernel
theorem dL_giver_4 : decode cL_giver 4 = .ok (.iload_n 1, 1) := by decide +kernel
theorem dL_giver_5 : decode cL_giver 5 = .ok (.iload_n 2, 1) := by decide +kernel
theorem dL_giver_6 : decode cL_giver 6 = .ok (.iload_n 3, 1) := by decide +kernel
theorem dL_giver_7 : decode cL_giver 7 = .ok (.invokevirtual 77, 3) := by decide +kernel
theorem dL_giver_10 : decode cL_giver 10 = .ok (.i2l, 1) := by decide +kernel
theorem dL_giver_11 : decode cL_giver 11 = .ok (.lastore, 1) := by decide +kernel
theorem dL_giver_12 : decode cL_giver 12 = .ok (.goto 11, 3) := by decide +kernel
theorem dL_giver_15 : decode cL_giver 15 = .ok (.astore 5, 2) := by decide +kernel
theorem dL_giver_17 : decode cL_giver 17 = .ok (.iconst 1, 1) := by decide +kernel
theorem dL_giver_18 : decode cL_giver 18 = .ok (.ireturn, 1) := by decide +kernel
theorem dL_giver_19 : decode cL_giver 19 = .ok (.astore 5, 2) := by decide +kernel
theorem dL_giver_21 : decode cL_giver 21 = .ok (.iconst 2, 1) := by decide +kernel
theorem dL_giver_22 : decode cL_giver 22 = .ok (.ireturn, 1) := by decide +kernel
theorem dL_giver_23 : decode cL_giver 23 = .ok (.iconst 0, 1) := by decide +kernel
theorem dL_giver_24 : decode cL_giver 24 = .ok (.ireturn, 1) := by decide +kernel
def T_L_giver (sp_X6_giver : List ab_V → ab_M → ab_O) : ab_T := [(0, some (s_aload 4 2)), (2, some (s_const (vI 0) 3)), (3, some (s_aload 0 4)), (4, some (s_iload 1 5)), (5, some (s_iload 2 6)), (6, some (s_iload 3 7)), (7, some (s_call 8 sp_X6_giver 4 [("java/lang/IndexOutOfBoundsException", 15), ("java/lang/IllegalArgumentException", 19)] 10)), (10, some (s_i2l 11)), (11, some (s_last 12)), (12, some (s_goto 23)), (15, some (s_astore 5 17)), (17, some (s_const (vI 1) 18)), (18, some (s_ret 0)), (19, some (s_astore 5 21)), (21, some (s_const (vI 2) 22)), (22, some (s_ret 0)), (23, some (s_const (vI 0) 24)), (24, some (s_ret 0))]
set_option maxRecDepth 20000 in
theorem mt_L_giver {sp_X6_giver : List ab_V → ab_M → ab_O} : MonoT (T_L_giver sp_X6_giver) := MA_mem (And.intro mono_aload (And.intro mono_const (And.intro mono_aload (And.intro mono_iload (And.intro mono_iload (And.intro mono_iload (And.intro mono_call (And.intro mono_i2l (And.intro mono_last (And.intro mono_goto (And.intro mono_astore (And.intro mono_const (And.intro mono_ret (And.intro mono_astore (And.intro mono_const (And.intro mono_ret (And.intro mono_const (And.intro mono_ret trivial))))))))))))))))))
set_option maxRecDepth 20000 in
set_option maxHeartbeats 4000000 in
theorem snd_L_giver {l : Launch} {D : va_G} {cA : Nat → ClassId} {d : Nat} {sp_X6_giver : List ab_V → ab_M → ab_O} {d' : Nat} (hd9 : d' + 1 ≤ d) (hC_X6_giver : ∀ as m, Ctr l D cA d' yX6_giver (Cond.code yX6_giver cX6_giver 4 (some .int) :: TB) as m (sp_X6_giver as m)) : Sound l D cA d 6 yL_giver cL_giver (some .int) (tableOf [(0, 12, 15, 13), (0, 12, 19, 24)]) (T_L_giver sp_X6_giver) := by
  intro p e R s m args below meth c loc0 m0 r Q E hQ h0 hrt hnm htab
  have hA_L_giver : hdA yL_giver.cls 7 c.exceptionTable.toList [("java/lang/IndexOutOfBoundsException", 15), ("java/lang/IllegalArgumentException", 19)] := by rw [htab]; exact ⟨⟨by decide +kernel, by decide +kernel, rfl, tw_t3_91, Or.inl rfl⟩, ⟨⟨by decide +kernel, by decide +kernel, rfl, tw_t3_133, Or.inr (Or.inl rfl)⟩, trivial⟩⟩
  exact SA_mem (And.intro (fun ls st mm h => so_aload E dL_giver_0 h) (And.intro (fun ls st mm h => so_iconst E (by decide) dL_giver_2 h) (And.intro (fun ls st mm h => so_aload_n E rfl dL_giver_3 h) (And.intro (fun ls st mm h => so_iload_n E rfl dL_giver_4 h) (And.intro (fun ls st mm h => so_iload_n E rfl dL_giver_5 h) (And.intro (fun ls st mm h => so_iload_n E rfl dL_giver_6 h) (And.intro (fun ls st mm h => so_callV E hQ rfl (fun _ h => h) h0 (idx := 77) (C := RX6) (T := TX6) (N := 11) rfl (by decide) (by decide) rfl hd9 (by decide) hC_X6_giver hA_L_giver tw_t4_116 tw_t2_227 tw_t2_228 tw_t1_1 tw_t2_229 (by decide +kernel) dL_giver_7 h) (And.intro (fun ls st mm h => so_i2l E dL_giver_10 h) (And.intro (fun ls st mm h => so_last E dL_giver_11 h) (And.intro (fun ls st mm h => so_goto E (tgt := 23) (by decide) dL_giver_12 h) (And.intro (fun ls st mm h => so_astore E dL_giver_15 h) (And.intro (fun ls st mm h => so_iconst E (by decide) dL_giver_17 h) (And.intro (fun ls st mm h => so_ireturn E hQ rfl (fun _ h => h) h0 (ty := .int) hrt (Or.inl ⟨rfl, rfl⟩) dL_giver_18 h) (And.intro (fun ls st mm h => so_astore E dL_giver_19 h) (And.intro (fun ls st mm h => so_iconst E (by decide) dL_giver_21 h) (And.intro (fun ls st mm h => so_ireturn E hQ rfl (fun _ h => h) h0 (ty := .int) hrt (Or.inl ⟨rfl, rfl⟩) dL_giver_22 h) (And.intro (fun ls st mm h => so_iconst E (by decide) dL_giver_23 h) (And.intro (fun ls st mm h => so_ireturn E hQ rfl (fun _ h => h) h0 (ty := .int) hrt (Or.inl ⟨rfl, rfl⟩) dL_giver_24 h) (trivial)))))))))))))))))))
theorem dL_ofHouse_0 : decode cL_ofHouse 0 = .ok (.aload_n 3, 1) := by decide +kernel
theorem dL_ofHouse_1 : decode cL_ofHouse 1 = .ok (.iconst 0, 1) := by decide +kernel
theorem dL_ofHouse_2 : decode cL_ofHouse 2 = .ok (.aload_n 0, 1) := by decide +kernel
theorem dL_ofHouse_3 : decode cL_ofHouse 3 = .ok (.iload_n 1, 1) := by decide +kernel
theorem dL_ofHouse_4 : decode cL_ofHouse 4 = .ok (.iload_n 2, 1) := by decide +kernel
theorem dL_ofHouse_5 : decode cL_ofHouse 5 = .ok (.invokevirtual 80, 3) := by decide +kernel
theorem dL_ofHouse_8 : decode cL_ofHouse 8 = .ok (.i2l, 1) := by decide +kernel
theorem dL_ofHouse_9 : decode cL_ofHouse 9 = .ok (.lastore, 1) := by decide +kernel
theorem dL_ofHouse_10 : decode cL_ofHouse 10 = .ok (.goto 11, 3) := by decide +kernel
theorem dL_ofHouse_13 : decode cL_ofHouse 13 = .ok (.astore 4, 2) := by decide +kernel
theorem dL_ofHouse_15 : decode cL_ofHouse 15 = .ok (.iconst 1, 1) := by decide +kernel
theorem dL_ofHouse_16 : decode cL_ofHouse 16 = .ok (.ireturn, 1) := by decide +kernel
theorem dL_ofHouse_17 : decode cL_ofHouse 17 = .ok (.astore 4, 2) := by decide +kernel
theorem dL_ofHouse_19 : decode cL_ofHouse 19 = .ok (.iconst 2, 1) := by decide +kernel
theorem dL_ofHouse_20 : decode cL_ofHouse 20 = .ok (.ireturn, 1) := by decide +kernel
theorem dL_ofHouse_21 : decode cL_ofHouse 21 = .ok (.iconst 0, 1) := by decide +kernel
theorem dL_ofHouse_22 : decode cL_ofHouse 22 = .ok (.ireturn, 1) := by decide +kernel
def T_L_ofHouse (sp_X6_ofHouse : List ab_V → ab_M → ab_O) : ab_T := [(0, some (s_aload 3 1)), (1, some (s_const (vI 0) 2)), (2, some (s_aload 0 3)), (3, some (s_iload 1 4)), (4, some (s_iload 2 5)), (5, some (s_call 8 sp_X6_ofHouse 3 [("java/lang/IndexOutOfBoundsException", 13), ("java/lang/IllegalArgumentException", 17)] 8)), (8, some (s_i2l 9)), (9, some (s_last 10)), (10, some (s_goto 21)), (13, some (s_astore 4 15)), (15, some (s_const (vI 1) 16)), (16, some (s_ret 0)), (17, some (s_astore 4 19)), (19, some (s_const (vI 2) 20)), (20, some (s_ret 0)), (21, some (s_const (vI 0) 22)), (22, some (s_ret 0))]
set_option maxRecDepth 20000 in
theorem mt_L_ofHouse {sp_X6_ofHouse : List ab_V → ab_M → ab_O} : MonoT (T_L_ofHouse sp_X6_ofHouse) := MA_mem (And.intro mono_aload (And.intro mono_const (And.intro mono_aload (And.intro mono_iload (And.intro mono_iload (And.intro mono_call (And.intro mono_i2l (And.intro mono_last (And.intro mono_goto (And.intro mono_astore (And.intro mono_const (And.intro mono_ret (And.intro mono_astore (And.intro mono_const (And.intro mono_ret (And.intro mono_const (And.intro mono_ret trivial)))))))))))))))))
set_option maxRecDepth 20000 in
set_option maxHeartbeats 4000000 in
theorem snd_L_ofHouse {l : Launch} {D : va_G} {cA : Nat → ClassId} {d : Nat} {sp_X6_ofHouse : List ab_V → ab_M → ab_O} {d' : Nat} (hd9 : d' + 1 ≤ d) (hC_X6_ofHouse : ∀ as m, Ctr l D cA d' yX6_ofHouse (Cond.code yX6_ofHouse cX6_ofHouse 3 (some .int) :: TB) as m (sp_X6_ofHouse as m)) : Sound l D cA d 5 yL_ofHouse cL_ofHouse (some .int) (tableOf [(0, 10, 13, 13), (0, 10, 17, 24)]) (T_L_ofHouse sp_X6_ofHouse) := by
  intro p e R s m args below meth c loc0 m0 r Q E hQ h0 hrt hnm htab
  have hA_L_ofHouse : hdA yL_ofHouse.cls 5 c.exceptionTable.toList [("java/lang/IndexOutOfBoundsException", 13), ("java/lang/IllegalArgumentException", 17)] := by rw [htab]; exact ⟨⟨by decide +kernel, by decide +kernel, rfl, tw_t3_91, Or.inl rfl⟩, ⟨⟨by decide +kernel, by decide +kernel, rfl, tw_t3_133, Or.inr (Or.inl rfl)⟩, trivial⟩⟩
  exact SA_mem (And.intro (fun ls st mm h => so_aload_n E rfl dL_ofHouse_0 h) (And.intro (fun ls st mm h => so_iconst E (by decide) dL_ofHouse_1 h) (And.intro (fun ls st mm h => so_aload_n E rfl dL_ofHouse_2 h) (And.intro (fun ls st mm h => so_iload_n E rfl dL_ofHouse_3 h) (And.intro (fun ls st mm h => so_iload_n E rfl dL_ofHouse_4 h) (And.intro (fun ls st mm h => so_callV E hQ rfl (fun _ h => h) h0 (idx := 80) (C := RX6) (T := TX6) (N := 11) rfl (by decide) (by decide) rfl hd9 (by decide) hC_X6_ofHouse hA_L_ofHouse tw_t4_120 tw_t3_20 tw_t3_21 tw_t1_1 tw_t3_22 (by decide +kernel) dL_ofHouse_5 h) (And.intro (fun ls st mm h => so_i2l E dL_ofHouse_8 h) (And.intro (fun ls st mm h => so_last E dL_ofHouse_9 h) (And.intro (fun ls st mm h => so_goto E (tgt := 21) (by decide) dL_ofHouse_10 h) (And.intro (fun ls st mm h => so_astore E dL_ofHouse_13 h) (And.intro (fun ls st mm h => so_iconst E (by decide) dL_ofHouse_15 h) (And.intro (fun ls st mm h => so_ireturn E hQ rfl (fun _ h => h) h0 (ty := .int) hrt (Or.inl ⟨rfl, rfl⟩) dL_ofHouse_16 h) (And.intro (fun ls st mm h => so_astore E dL_ofHouse_17 h) (And.intro (fun ls st mm h => so_iconst E (by decide) dL_ofHouse_19 h) (And.intro (fun ls st mm h => so_ireturn E hQ rfl (fun _ h => h) h0 (ty := .int) hrt (Or.inl ⟨rfl, rfl⟩) dL_ofHouse_20 h) (And.intro (fun ls st mm h => so_iconst E (by decide) dL_ofHouse_21 h) (And.intro (fun ls st mm h => so_ireturn E hQ rfl (fun _ h => h) h0 (ty := .int) hrt (Or.inl ⟨rfl, rfl⟩) dL_ofHouse_22 h) (trivial))))))))))))))))))
theorem dL_ofSecret_0 : decode cL_ofSecret 0 = .ok (.aload_n 3, 1) := by decide +kernel
theorem dL_ofSecret_1 : decode cL_ofSecret 1 = .ok (.iconst 0, 1) := by decide +kernel
theorem dL_ofSecret_2 : decode cL_ofSecret 2 = .ok (.aload_n 0, 1) := by decide +kernel
theorem dL_ofSecret_3 : decode cL_ofSecret 3 = .ok (.iload_n 1, 1) := by decide +kernel
theorem dL_ofSecret_4 : decode cL_ofSecret 4 = .ok (.iload_n 2, 1) := by decide +kernel
theorem dL_ofSecret_5 : decode cL_ofSecret 5 = .ok (.invokevirtual 83, 3) := by decide +kernel
theorem dL_ofSecret_8 : decode cL_ofSecret 8 = .ok (.i2l, 1) := by decide +kernel
theorem dL_ofSecret_9 : decode cL_ofSecret 9 = .ok (.lastore, 1) := by decide +kernel
theorem dL_ofSecret_10 : decode cL_ofSecret 10 = .ok (.goto 11, 3) := by decide +kernel
theorem dL_ofSecret_13 : decode cL_ofSecret 13 = .ok (.astore 4, 2) := by decide +kernel
theorem dL_ofSecret_15 : decode cL_ofSecret 15 = .ok (.iconst 1, 1) := by decide +kernel
theorem dL_ofSecret_16 : decode cL_ofSecret 16 = .ok (.ireturn, 1) := by decide +kernel
theorem dL_ofSecret_17 : decode cL_ofSecret 17 = .ok (.astore 4, 2) := by decide +kernel
theorem dL_ofSecret_19 : decode cL_ofSecret 19 = .ok (.iconst 2, 1) := by decide +kernel
theorem dL_ofSecret_20 : decode cL_ofSecret 20 = .ok (.ireturn, 1) := by decide +kernel
theorem dL_ofSecret_21 : decode cL_ofSecret 21 = .ok (.iconst 0, 1) := by decide +kernel
theorem dL_ofSecret_22 : decode cL_ofSecret 22 = .ok (.ireturn, 1) := by decide +kernel
def T_L_ofSecret (sp_X6_ofSecret : List ab_V → ab_M → ab_O) : ab_T := [(0, some (s_aload 3 1)), (1, some (s_const (vI 0) 2)), (2, some (s_aload 0 3)), (3, some (s_iload 1 4)), (4, some (s_iload 2 5)), (5, some (s_call 8 sp_X6_ofSecret 3 [("java/lang/IndexOutOfBoundsException", 13), ("java/lang/IllegalArgumentException", 17)] 8)), (8, some (s_i2l 9)), (9, some (s_last 10)), (10, some (s_goto 21)), (13, some (s_astore 4 15)), (15, some (s_const (vI 1) 16)), (16, some (s_ret 0)), (17, some (s_astore 4 19)), (19, some (s_const (vI 2) 20)), (20, some (s_ret 0)), (21, some (s_const (vI 0) 22)), (22, some (s_ret 0))]
set_option maxRecDepth 20000 in
theorem mt_L_ofSecret {sp_X6_ofSecret : List ab_V → ab_M → ab_O} : MonoT (T_L_ofSecret sp_X6_ofSecret) := MA_mem (And.intro mono_aload (And.intro mono_const (And.intro mono_aload (And.intro mono_iload (And.intro mono_iload (And.intro mono_call (And.intro mono_i2l (And.intro mono_last (And.intro mono_goto (And.intro mono_astore (And.intro mono_const (And.intro mono_ret (And.intro mono_astore (And.intro mono_const (And.intro mono_ret (And.intro mono_const (And.intro mono_ret trivial)))))))))))))))))
set_option maxRecDepth 20000 in
set_option maxHeartbeats 4000000 in
theorem snd_L_ofSecret {l : Launch} {D : va_G} {cA : Nat → ClassId} {d : Nat} {sp_X6_ofSecret : List ab_V → ab_M → ab_O} {d' : Nat} (hd9 : d' + 1 ≤ d) (hC_X6_ofSecret : ∀ as m, Ctr l D cA d' yX6_ofSecret (Cond.code yX6_ofSecret cX6_ofSecret 3 (some .int) :: TB) as m (sp_X6_ofSecret as m)) : Sound l D cA d 5 yL_ofSecret cL_ofSecret (some .int) (tableOf [(0, 10, 13, 13), (0, 10, 17, 24)]) (T_L_ofSecret sp_X6_ofSecret) := by
  intro p e R s m args below meth c loc0 m0 r Q E hQ h0 hrt hnm htab
  have hA_L_ofSecret : hdA yL_ofSecret.cls 5 c.exceptionTable.toList [("java/lang/IndexOutOfBoundsException", 13), ("java/lang/IllegalArgumentException", 17)] := by rw [htab]; exact ⟨⟨by decide +kernel, by decide +kernel, rfl, tw_t3_91, Or.inl rfl⟩, ⟨⟨by decide +kernel, by decide +kernel, rfl, tw_t3_133, Or.inr (Or.inl rfl)⟩, trivial⟩⟩
  exact SA_mem (And.intro (fun ls st mm h => so_aload_n E rfl dL_ofSecret_0 h) (And.intro (fun ls st mm h => so_iconst E (by decide) dL_ofSecret_1 h) (And.intro (fun ls st mm h => so_aload_n E rfl dL_ofSecret_2 h) (And.intro (fun ls st mm h => so_iload_n E rfl dL_ofSecret_3 h) (And.intro (fun ls st mm h => so_iload_n E rfl dL_ofSecret_4 h) (And.intro (fun ls st mm h => so_callV E hQ rfl (fun _ h => h) h0 (idx := 83) (C := RX6) (T := TX6) (N := 11) rfl (by decide) (by decide) rfl hd9 (by decide) hC_X6_ofSecret hA_L_ofSecret tw_t4_124 tw_t3_59 tw_t3_60 tw_t1_1 tw_t3_61 (by decide +kernel) dL_ofSecret_5 h) (And.intro (fun ls st mm h => so_i2l E dL_ofSecret_8 h) (And.intro (fun ls st mm h => so_last E dL_ofSecret_9 h) (And.intro (fun ls st mm h => so_goto E (tgt := 21) (by decide) dL_ofSecret_10 h) (And.intro (fun ls st mm h => so_astore E dL_ofSecret_13 h) (And.intro (fun ls st mm h => so_iconst E (by decide) dL_ofSecret_15 h) (And.intro (fun ls st mm h => so_ireturn E hQ rfl (fun _ h => h) h0 (ty := .int) hrt (Or.inl ⟨rfl, rfl⟩) dL_ofSecret_16 h) (And.intro (fun ls st mm h => so_astore E dL_ofSecret_17 h) (And.intro (fun ls st mm h => so_iconst E (by decide) dL_ofSecret_19 h) (And.intro (fun ls st mm h => so_ireturn E hQ rfl (fun _ h => h) h0 (ty := .int) hrt (Or.inl ⟨rfl, rfl⟩) dL_ofSecret_20 h) (And.intro (fun ls st mm h => so_iconst E (by decide) dL_ofSecret_21 h) (And.intro (fun ls st mm h => so_ireturn E hQ rfl (fun _ h => h) h0 (ty := .int) hrt (Or.inl ⟨rfl, rfl⟩) dL_ofSecret_22 h) (trivial))))))))))))))))))
theorem dL_ofUtensil_0 : decode cL_ofUtensil 0 = .ok (.aload_n 3, 1) := by decide +kernel
theorem dL_ofUtensil_1 : decode cL_ofUtensil 1 = .ok (.iconst 0, 1) := by decide +kernel
theorem dL_ofUtensil_2 : decode cL_ofUtensil 2 = .ok (.aload_n 0, 1) := by decide +kernel
theorem dL_ofUtensil_3 : decode cL_ofUtensil 3 = .ok (.iload_n 1, 1) := by decide +kernel
theorem dL_ofUtensil_4 : decode cL_ofUtensil 4 = .ok (.iload_n 2, 1) := by decide +kernel
theorem dL_ofUtensil_5 : decode cL_ofUtensil 5 = .ok (.invokevirtual 86, 3) := by decide +kernel
theorem dL_ofUtensil_8 : decode cL_ofUtensil 8 = .ok (.i2l, 1) := by decide +kernel
theorem dL_ofUtensil_9 : decode cL_ofUtensil 9 = .ok (.lastore, 1) := by decide +kernel
theorem dL_ofUtensil_10 : decode cL_ofUtensil 10 = .ok (.goto 11, 3) := by decide +kernel
theorem dL_ofUtensil_13 : decode cL_ofUtensil 13 = .ok (.astore 4, 2) := by decide +kernel
theorem dL_ofUtensil_15 : decode cL_ofUtensil 15 = .ok (.iconst 1, 1) := by decide +kernel
theorem dL_ofUtensil_16 : decode cL_ofUtensil 16 = .ok (.ireturn, 1) := by decide +kernel
theorem dL_ofUtensil_17 : decode cL_ofUtensil 17 = .ok (.astore 4, 2) := by decide +kernel
theorem dL_ofUtensil_19 : decode cL_ofUtensil 19 = .ok (.iconst 2, 1) := by decide +kernel
theorem dL_ofUtensil_20 : decode cL_ofUtensil 20 = .ok (.ireturn, 1) := by decide +kernel
theorem dL_ofUtensil_21 : decode cL_ofUtensil 21 = .ok (.iconst 0, 1) := by decide +kernel
theorem dL_ofUtensil_22 : decode cL_ofUtensil 22 = .ok (.ireturn, 1) := by decide +kernel
def T_L_ofUtensil (sp_X6_ofUtensil : List ab_V → ab_M → ab_O) : ab_T := [(0, some (s_aload 3 1)), (1, some (s_const (vI 0) 2)), (2, some (s_aload 0 3)), (3, some (s_iload 1 4)), (4, some (s_iload 2 5)), (5, some (s_call 8 sp_X6_ofUtensil 3 [("java/lang/IndexOutOfBoundsException", 13), ("java/lang/IllegalArgumentException", 17)] 8)), (8, some (s_i2l 9)), (9, some (s_last 10)), (10, some (s_goto 21)), (13, some (s_astore 4 15)), (15, some (s_const (vI 1) 16)), (16, some (s_ret 0)), (17, some (s_astore 4 19)), (19, some (s_const (vI 2) 20)), (20, some (s_ret 0)), (21, some (s_const (vI 0) 22)), (22, some (s_ret 0))]
set_option maxRecDepth 20000 in
theorem mt_L_ofUtensil {sp_X6_ofUtensil : List ab_V → ab_M → ab_O} : MonoT (T_L_ofUtensil sp_X6_ofUtensil) := MA_mem (And.intro mono_aload (And.intro mono_const (And.intro mono_aload (And.intro mono_iload (And.intro mono_iload (And.intro mono_call (And.intro mono_i2l (And.intro mono_last (And.intro mono_goto (And.intro mono_astore (And.intro mono_const (And.intro mono_ret (And.intro mono_astore (And.intro mono_const (And.intro mono_ret (And.intro mono_const (And.intro mono_ret trivial)))))))))))))))))
set_option maxRecDepth 20000 in
set_option maxHeartbeats 4000000 in
theorem snd_L_ofUtensil {l : Launch} {D : va_G} {cA : Nat → ClassId} {d : Nat} {sp_X6_ofUtensil : List ab_V → ab_M → ab_O} {d' : Nat} (hd9 : d' + 1 ≤ d) (hC_X6_ofUtensil : ∀ as m, Ctr l D cA d' yX6_ofUtensil (Cond.code yX6_ofUtensil cX6_ofUtensil 3 (some .int) :: TB) as m (sp_X6_ofUtensil as m)) : Sound l D cA d 5 yL_ofUtensil cL_ofUtensil (some .int) (tableOf [(0, 10, 13, 13), (0, 10, 17, 24)]) (T_L_ofUtensil sp_X6_ofUtensil) := by
  intro p e R s m args below meth c loc0 m0 r Q E hQ h0 hrt hnm htab
  have hA_L_ofUtensil : hdA yL_ofUtensil.cls 5 c.exceptionTable.toList [("java/lang/IndexOutOfBoundsException", 13), ("java/lang/IllegalArgumentException", 17)] := by rw [htab]; exact ⟨⟨by decide +kernel, by decide +kernel, rfl, tw_t3_91, Or.inl rfl⟩, ⟨⟨by decide +kernel, by decide +kernel, rfl, tw_t3_133, Or.inr (Or.inl rfl)⟩, trivial⟩⟩
  exact SA_mem (And.intro (fun ls st mm h => so_aload_n E rfl dL_ofUtensil_0 h) (And.intro (fun ls st mm h => so_iconst E (by decide) dL_ofUtensil_1 h) (And.intro (fun ls st mm h => so_aload_n E rfl dL_ofUtensil_2 h) (And.intro (fun ls st mm h => so_iload_n E rfl dL_ofUtensil_3 h) (And.intro (fun ls st mm h => so_iload_n E rfl dL_ofUtensil_4 h) (And.intro (fun ls st mm h => so_callV E hQ rfl (fun _ h => h) h0 (idx := 86) (C := RX6) (T := TX6) (N := 11) rfl (by decide) (by decide) rfl hd9 (by decide) hC_X6_ofUtensil hA_L_ofUtensil tw_t4_128 tw_t3_76 tw_t3_77 tw_t1_1 tw_t3_78 (by decide +kernel) dL_ofUtensil_5 h) (And.intro (fun ls st mm h => so_i2l E dL_ofUtensil_8 h) (And.intro (fun ls st mm h => so_last E dL_ofUtensil_9 h) (And.intro (fun ls st mm h => so_goto E (tgt := 21) (by decide) dL_ofUtensil_10 h) (And.intro (fun ls st mm h => so_astore E dL_ofUtensil_13 h) (And.intro (fun ls st mm h => so_iconst E (by decide) dL_ofUtensil_15 h) (And.intro (fun ls st mm h => so_ireturn E hQ rfl (fun _ h => h) h0 (ty := .int) hrt (Or.inl ⟨rfl, rfl⟩) dL_ofUtensil_16 h) (And.intro (fun ls st mm h => so_astore E dL_ofUtensil_17 h) (And.intro (fun ls st mm h => so_iconst E (by decide) dL_ofUtensil_19 h) (And.intro (fun ls st mm h => so_ireturn E hQ rfl (fun _ h => h) h0 (ty := .int) hrt (Or.inl ⟨rfl, rfl⟩) dL_ofUtensil_20 h) (And.intro (fun ls st mm h => so_iconst E (by decide) dL_ofUtensil_21 h) (And.intro (fun ls st mm h => so_ireturn E hQ rfl (fun _ h => h) h0 (ty := .int) hrt (Or.inl ⟨rfl, rfl⟩) dL_ofUtensil_22 h) (trivial))))))))))))))))))
theorem dL_many_0 : decode cL_many 0 = .ok (.aload_n 2, 1) := by decide +kernel
theorem dL_many_1 : decode cL_many 1 = .ok (.iconst 0, 1) := by decide +kernel
theorem dL_many_2 : decode cL_many 2 = .ok (.aload_n 0, 1) := by decide +kernel
theorem dL_many_3 : decode cL_many 3 = .ok (.iload_n 1, 1) := by decide +kernel
theorem dL_many_4 : decode cL_many 4 = .ok (.invokevirtual 89, 3) := by decide +kernel
theorem dL_many_7 : decode cL_many 7 = .ok (.i2l, 1) := by decide +kernel
theorem dL_many_8 : decode cL_many 8 = .ok (.lastore, 1) := by decide +kernel
theorem dL_many_9 : decode cL_many 9 = .ok (.goto 6, 3) := by decide +kernel
theorem dL_many_12 : decode cL_many 12 = .ok (.astore_n 3, 1) := by decide +kernel
theorem dL_many_13 : decode cL_many 13 = .ok (.iconst 1, 1) := by decide +kernel
theorem dL_many_14 : decode cL_many 14 = .ok (.ireturn, 1) := by decide +kernel
theorem dL_many_15 : decode cL_many 15 = .ok (.iconst 0, 1) := by decide +kernel
theorem dL_many_16 : decode cL_many 16 = .ok (.ireturn, 1) := by decide +kernel
def T_L_many (sp_X6_many : List ab_V → ab_M → ab_O) : ab_T := [(0, some (s_aload 2 1)), (1, some (s_const (vI 0) 2)), (2, some (s_aload 0 3)), (3, some (s_iload 1 4)), (4, some (s_call 8 sp_X6_many 2 [("java/lang/IllegalArgumentException", 12)] 7)), (7, some (s_i2l 8)), (8, some (s_last 9)), (9, some (s_goto 15)), (12, some (s_astore 3 13)), (13, some (s_const (vI 1) 14)), (14, some (s_ret 0)), (15, some (s_const (vI 0) 16)), (16, some (s_ret 0))]
set_option maxRecDepth 20000 in
theorem mt_L_many {sp_X6_many : List ab_V → ab_M → ab_O} : MonoT (T_L_many sp_X6_many) := MA_mem (And.intro mono_aload (And.intro mono_const (And.intro mono_aload (And.intro mono_iload (And.intro mono_call (And.intro mono_i2l (And.intro mono_last (And.intro mono_goto (And.intro mono_astore (And.intro mono_const (And.intro mono_ret (And.intro mono_const (And.intro mono_ret trivial)))))))))))))
set_option maxRecDepth 20000 in
set_option maxHeartbeats 4000000 in
theorem snd_L_many {l : Launch} {D : va_G} {cA : Nat → ClassId} {d : Nat} {sp_X6_many : List ab_V → ab_M → ab_O} {d' : Nat} (hd9 : d' + 1 ≤ d) (hC_X6_many : ∀ as m, Ctr l D cA d' yX6_many (Cond.code yX6_many cX6_many 2 (some .int) :: TB) as m (sp_X6_many as m)) : Sound l D cA d 4 yL_many cL_many (some .int) (tableOf [(0, 9, 12, 24)]) (T_L_many sp_X6_many) := by
  intro p e R s m args below meth c loc0 m0 r Q E hQ h0 hrt hnm htab
  have hA_L_many : hdA yL_many.cls 4 c.exceptionTable.toList [("java/lang/IllegalArgumentException", 12)] := by rw [htab]; exact ⟨⟨by decide +kernel, by decide +kernel, rfl, tw_t3_133, Or.inr (Or.inl rfl)⟩, trivial⟩
  exact SA_mem (And.intro (fun ls st mm h => so_aload_n E rfl dL_many_0 h) (And.intro (fun ls st mm h => so_iconst E (by decide) dL_many_1 h) (And.intro (fun ls st mm h => so_aload_n E rfl dL_many_2 h) (And.intro (fun ls st mm h => so_iload_n E rfl dL_many_3 h) (And.intro (fun ls st mm h => so_callV E hQ rfl (fun _ h => h) h0 (idx := 89) (C := RX6) (T := TX6) (N := 11) rfl (by decide) (by decide) rfl hd9 (by decide) hC_X6_many hA_L_many tw_t4_132 tw_t2_36 tw_t2_37 tw_t1_1 tw_t2_38 (by decide +kernel) dL_many_4 h) (And.intro (fun ls st mm h => so_i2l E dL_many_7 h) (And.intro (fun ls st mm h => so_last E dL_many_8 h) (And.intro (fun ls st mm h => so_goto E (tgt := 15) (by decide) dL_many_9 h) (And.intro (fun ls st mm h => so_astore_n E rfl dL_many_12 h) (And.intro (fun ls st mm h => so_iconst E (by decide) dL_many_13 h) (And.intro (fun ls st mm h => so_ireturn E hQ rfl (fun _ h => h) h0 (ty := .int) hrt (Or.inl ⟨rfl, rfl⟩) dL_many_14 h) (And.intro (fun ls st mm h => so_iconst E (by decide) dL_many_15 h) (And.intro (fun ls st mm h => so_ireturn E hQ rfl (fun _ h => h) h0 (ty := .int) hrt (Or.inl ⟨rfl, rfl⟩) dL_many_16 h) (trivial))))))))))))))
theorem dL_meanStep_0 : decode cL_meanStep 0 = .ok (.aload_n 2, 1) := by decide +kernel
theorem dL_meanStep_1 : decode cL_meanStep 1 = .ok (.iconst 0, 1) := by decide +kernel
theorem dL_meanStep_2 : decode cL_meanStep 2 = .ok (.aload_n 0, 1) := by decide +kernel
theorem dL_meanStep_3 : decode cL_meanStep 3 = .ok (.iload_n 1, 1) := by decide +kernel
theorem dL_meanStep_4 : decode cL_meanStep 4 = .ok (.invokevirtual 92, 3) := by decide +kernel
theorem dL_meanStep_7 : decode cL_meanStep 7 = .ok (.dastore, 1) := by decide +kernel
theorem dL_meanStep_8 : decode cL_meanStep 8 = .ok (.goto 6, 3) := by decide +kernel
theorem dL_meanStep_11 : decode cL_meanStep 11 = .ok (.astore_n 3, 1) := by decide +kernel
theorem dL_meanStep_12 : decode cL_meanStep 12 = .ok (.iconst 1, 1) := by decide +kernel
theorem dL_meanStep_13 : decode cL_meanStep 13 = .ok (.ireturn, 1) := by decide +kernel
theorem dL_meanStep_14 : decode cL_meanStep 14 = .ok (.iconst 0, 1) := by decide +kernel
theorem dL_meanStep_15 : decode cL_meanStep 15 = .ok (.ireturn, 1) := by decide +kernel
def T_L_meanStep (sp_X6_meanStep : List ab_V → ab_M → ab_O) : ab_T := [(0, some (s_aload 2 1)), (1, some (s_const (vI 0) 2)), (2, some (s_aload 0 3)), (3, some (s_iload 1 4)), (4, some (s_call 8 sp_X6_meanStep 2 [("java/lang/IndexOutOfBoundsException", 11)] 7)), (7, some (s_dast 8)), (8, some (s_goto 14)), (11, some (s_astore 3 12)), (12, some (s_const (vI 1) 13)), (13, some (s_ret 0)), (14, some (s_const (vI 0) 15)), (15, some (s_ret 0))]
set_option maxRecDepth 20000 in
theorem mt_L_meanStep {sp_X6_meanStep : List ab_V → ab_M → ab_O} : MonoT (T_L_meanStep sp_X6_meanStep) := MA_mem (And.intro mono_aload (And.intro mono_const (And.intro mono_aload (And.intro mono_iload (And.intro mono_call (And.intro mono_dast (And.intro mono_goto (And.intro mono_astore (And.intro mono_const (And.intro mono_ret (And.intro mono_const (And.intro mono_ret trivial))))))))))))
set_option maxRecDepth 20000 in
set_option maxHeartbeats 4000000 in
theorem snd_L_meanStep {l : Launch} {D : va_G} {cA : Nat → ClassId} {d : Nat} {sp_X6_meanStep : List ab_V → ab_M → ab_O} {d' : Nat} (hd9 : d' + 1 ≤ d) (hC_X6_meanStep : ∀ as m, Ctr l D cA d' yX6_meanStep (Cond.code yX6_meanStep cX6_meanStep 5 (some .double) :: TB) as m (sp_X6_meanStep as m)) : Sound l D cA d 4 yL_meanStep cL_meanStep (some .int) (tableOf [(0, 8, 11, 13)]) (T_L_meanStep sp_X6_meanStep) := by
  intro p e R s m args below meth c loc0 m0 r Q E hQ h0 hrt hnm htab
  have hA_L_meanStep : hdA yL_meanStep.cls 4 c.exceptionTable.toList [("java/lang/IndexOutOfBoundsException", 11)] := by rw [htab]; exact ⟨⟨by decide +kernel, by decide +kernel, rfl, tw_t3_91, Or.inl rfl⟩, trivial⟩
  exact SA_mem (And.intro (fun ls st mm h => so_aload_n E rfl dL_meanStep_0 h) (And.intro (fun ls st mm h => so_iconst E (by decide) dL_meanStep_1 h) (And.intro (fun ls st mm h => so_aload_n E rfl dL_meanStep_2 h) (And.intro (fun ls st mm h => so_iload_n E rfl dL_meanStep_3 h) (And.intro (fun ls st mm h => so_callV E hQ rfl (fun _ h => h) h0 (idx := 92) (C := RX6) (T := TX6) (N := 11) rfl (by decide) (by decide) rfl hd9 (by decide) hC_X6_meanStep hA_L_meanStep tw_t4_136 tw_t4_137 tw_t4_138 tw_t1_1 tw_t4_139 (by decide +kernel) dL_meanStep_4 h) (And.intro (fun ls st mm h => so_dast E dL_meanStep_7 h) (And.intro (fun ls st mm h => so_goto E (tgt := 14) (by decide) dL_meanStep_8 h) (And.intro (fun ls st mm h => so_astore_n E rfl dL_meanStep_11 h) (And.intro (fun ls st mm h => so_iconst E (by decide) dL_meanStep_12 h) (And.intro (fun ls st mm h => so_ireturn E hQ rfl (fun _ h => h) h0 (ty := .int) hrt (Or.inl ⟨rfl, rfl⟩) dL_meanStep_13 h) (And.intro (fun ls st mm h => so_iconst E (by decide) dL_meanStep_14 h) (And.intro (fun ls st mm h => so_ireturn E hQ rfl (fun _ h => h) h0 (ty := .int) hrt (Or.inl ⟨rfl, rfl⟩) dL_meanStep_15 h) (trivial)))))))))))))
theorem dL_plan_0 : decode cL_plan 0 = .ok (.aload 4, 2) := by decide +kernel
theorem dL_plan_2 : decode cL_plan 2 = .ok (.iconst 0, 1) := by decide +kernel
theorem dL_plan_3 : decode cL_plan 3 = .ok (.aload_n 0, 1) := by decide +kernel
theorem dL_plan_4 : decode cL_plan 4 = .ok (.iload_n 1, 1) := by decide +kernel
theorem dL_plan_5 : decode cL_plan 5 = .ok (.iload_n 2, 1) := by decide +kernel
theorem dL_plan_6 : decode cL_plan 6 = .ok (.iload_n 3, 1) := by decide +kernel
theorem dL_plan_7 : decode cL_plan 7 = .ok (.invokevirtual 96, 3) := by decide +kernel
theorem dL_plan_10 : decode cL_plan 10 = .ok (.i2l, 1) := by decide +kernel
theorem dL_plan_11 : decode cL_plan 11 = .ok (.lastore, 1) := by decide +kernel
theorem dL_plan_12 : decode cL_plan 12 = .ok (.goto 15, 3) := by decide +kernel
theorem dL_plan_15 : decode cL_plan 15 = .ok (.astore 5, 2) := by decide +kernel
theorem dL_plan_17 : decode cL_plan 17 = .ok (.iconst 1, 1) := by decide +kernel
theorem dL_plan_18 : decode cL_plan 18 = .ok (.ireturn, 1) := by decide +kernel
theorem dL_plan_19 : decode cL_plan 19 = .ok (.astore 5, 2) := by decide +kernel
theorem dL_plan_21 : decode cL_plan 21 = .ok (.iconst 2, 1) := by decide +kernel
theorem dL_plan_22 : decode cL_plan 22 = .ok (.ireturn, 1) := by decide +kernel
theorem dL_plan_23 : decode cL_plan 23 = .ok (.astore 5, 2) := by decide +kernel
theorem dL_plan_25 : decode cL_plan 25 = .ok (.iconst 3, 1) := by decide +kernel
theorem dL_plan_26 : decode cL_plan 26 = .ok (.ireturn, 1) := by decide +kernel
theorem dL_plan_27 : decode cL_plan 27 = .ok (.iconst 0, 1) := by decide +kernel
theorem dL_plan_28 : decode cL_plan 28 = .ok (.ireturn, 1) := by decide +kernel
def T_L_plan (sp_X6_plan : List ab_V → ab_M → ab_O) : ab_T := [(0, some (s_aload 4 2)), (2, some (s_const (vI 0) 3)), (3, some (s_aload 0 4)), (4, some (s_iload 1 5)), (5, some (s_iload 2 6)), (6, some (s_iload 3 7)), (7, some (s_call 8 sp_X6_plan 4 [("java/lang/IndexOutOfBoundsException", 15), ("java/lang/IllegalArgumentException", 19), ("java/lang/IllegalStateException", 23)] 10)), (10, some (s_i2l 11)), (11, some (s_last 12)), (12, some (s_goto 27)), (15, some (s_astore 5 17)), (17, some (s_const (vI 1) 18)), (18, some (s_ret 0)), (19, some (s_astore 5 21)), (21, some (s_const (vI 2) 22)), (22, some (s_ret 0)), (23, some (s_astore 5 25)), (25, some (s_const (vI 3) 26)), (26, some (s_ret 0)), (27, some (s_const (vI 0) 28)), (28, some (s_ret 0))]
set_option maxRecDepth 20000 in
theorem mt_L_plan {sp_X6_plan : List ab_V → ab_M → ab_O} : MonoT (T_L_plan sp_X6_plan) := MA_mem (And.intro mono_aload (And.intro mono_const (And.intro mono_aload (And.intro mono_iload (And.intro mono_iload (And.intro mono_iload (And.intro mono_call (And.intro mono_i2l (And.intro mono_last (And.intro mono_goto (And.intro mono_astore (And.intro mono_const (And.intro mono_ret (And.intro mono_astore (And.intro mono_const (And.intro mono_ret (And.intro mono_astore (And.intro mono_const (And.intro mono_ret (And.intro mono_const (And.intro mono_ret trivial)))))))))))))))))))))
set_option maxRecDepth 20000 in
set_option maxHeartbeats 4000000 in
theorem snd_L_plan {l : Launch} {D : va_G} {cA : Nat → ClassId} {d : Nat} {sp_X6_plan : List ab_V → ab_M → ab_O} {d' : Nat} (hd9 : d' + 1 ≤ d) (hC_X6_plan : ∀ as m, Ctr l D cA d' yX6_plan (Cond.code yX6_plan cX6_plan 5 (some .int) :: TB) as m (sp_X6_plan as m)) : Sound l D cA d 6 yL_plan cL_plan (some .int) (tableOf [(0, 12, 15, 13), (0, 12, 19, 24), (0, 12, 23, 15)]) (T_L_plan sp_X6_plan) := by
  intro p e R s m args below meth c loc0 m0 r Q E hQ h0 hrt hnm htab
  have hA_L_plan : hdA yL_plan.cls 7 c.exceptionTable.toList [("java/lang/IndexOutOfBoundsException", 15), ("java/lang/IllegalArgumentException", 19), ("java/lang/IllegalStateException", 23)] := by rw [htab]; exact ⟨⟨by decide +kernel, by decide +kernel, rfl, tw_t3_91, Or.inl rfl⟩, ⟨⟨by decide +kernel, by decide +kernel, rfl, tw_t3_133, Or.inr (Or.inl rfl)⟩, ⟨⟨by decide +kernel, by decide +kernel, rfl, tw_t3_92, Or.inr (Or.inr rfl)⟩, trivial⟩⟩⟩
  exact SA_mem (And.intro (fun ls st mm h => so_aload E dL_plan_0 h) (And.intro (fun ls st mm h => so_iconst E (by decide) dL_plan_2 h) (And.intro (fun ls st mm h => so_aload_n E rfl dL_plan_3 h) (And.intro (fun ls st mm h => so_iload_n E rfl dL_plan_4 h) (And.intro (fun ls st mm h => so_iload_n E rfl dL_plan_5 h) (And.intro (fun ls st mm h => so_iload_n E rfl dL_plan_6 h) (And.intro (fun ls st mm h => so_callV E hQ rfl (fun _ h => h) h0 (idx := 96) (C := RX6) (T := TX6) (N := 11) rfl (by decide) (by decide) rfl hd9 (by decide) hC_X6_plan hA_L_plan tw_t4_143 tw_t4_144 tw_t4_145 tw_t1_1 tw_t4_146 (by decide +kernel) dL_plan_7 h) (And.intro (fun ls st mm h => so_i2l E dL_plan_10 h) (And.intro (fun ls st mm h => so_last E dL_plan_11 h) (And.intro (fun ls st mm h => so_goto E (tgt := 27) (by decide) dL_plan_12 h) (And.intro (fun ls st mm h => so_astore E dL_plan_15 h) (And.intro (fun ls st mm h => so_iconst E (by decide) dL_plan_17 h) (And.intro (fun ls st mm h => so_ireturn E hQ rfl (fun _ h => h) h0 (ty := .int) hrt (Or.inl ⟨rfl, rfl⟩) dL_plan_18 h) (And.intro (fun ls st mm h => so_astore E dL_plan_19 h) (And.intro (fun ls st mm h => so_iconst E (by decide) dL_plan_21 h) (And.intro (fun ls st mm h => so_ireturn E hQ rfl (fun _ h => h) h0 (ty := .int) hrt (Or.inl ⟨rfl, rfl⟩) dL_plan_22 h) (And.intro (fun ls st mm h => so_astore E dL_plan_23 h) (And.intro (fun ls st mm h => so_iconst E (by decide) dL_plan_25 h) (And.intro (fun ls st mm h => so_ireturn E hQ rfl (fun _ h => h) h0 (ty := .int) hrt (Or.inl ⟨rfl, rfl⟩) dL_plan_26 h) (And.intro (fun ls st mm h => so_iconst E (by decide) dL_plan_27 h) (And.intro (fun ls st mm h => so_ireturn E hQ rfl (fun _ h => h) h0 (ty := .int) hrt (Or.inl ⟨rfl, rfl⟩) dL_plan_28 h) (trivial))))))))))))))))))))))
theorem dL_wouldFall_0 : decode cL_wouldFall 0 = .ok (.aload_n 3, 1) := by decide +kernel
theorem dL_wouldFall_1 : decode cL_wouldFall 1 = .ok (.iconst 0, 1) := by decide +kernel
theorem dL_wouldFall_2 : decode cL_wouldFall 2 = .ok (.aload_n 0, 1) := by decide +kernel
theorem dL_wouldFall_3 : decode cL_wouldFall 3 = .ok (.iload_n 1, 1) := by decide +kernel
theorem dL_wouldFall_4 : decode cL_wouldFall 4 = .ok (.iload_n 2, 1) := by decide +kernel
theorem dL_wouldFall_5 : decode cL_wouldFall 5 = .ok (.invokevirtual 99, 3) := by decide +kernel
theorem dL_wouldFall_8 : decode cL_wouldFall 8 = .ok (.i2l, 1) := by decide +kernel
theorem dL_wouldFall_9 : decode cL_wouldFall 9 = .ok (.lastore, 1) := by decide +kernel
theorem dL_wouldFall_10 : decode cL_wouldFall 10 = .ok (.goto 15, 3) := by decide +kernel
theorem dL_wouldFall_13 : decode cL_wouldFall 13 = .ok (.astore 4, 2) := by decide +kernel
theorem dL_wouldFall_15 : decode cL_wouldFall 15 = .ok (.iconst 1, 1) := by decide +kernel
theorem dL_wouldFall_16 : decode cL_wouldFall 16 = .ok (.ireturn, 1) := by decide +kernel
theorem dL_wouldFall_17 : decode cL_wouldFall 17 = .ok (.astore 4, 2) := by decide +kernel
theorem dL_wouldFall_19 : decode cL_wouldFall 19 = .ok (.iconst 2, 1) := by decide +kernel
theorem dL_wouldFall_20 : decode cL_wouldFall 20 = .ok (.ireturn, 1) := by decide +kernel
theorem dL_wouldFall_21 : decode cL_wouldFall 21 = .ok (.astore 4, 2) := by decide +kernel
theorem dL_wouldFall_23 : decode cL_wouldFall 23 = .ok (.iconst 3, 1) := by decide +kernel
theorem dL_wouldFall_24 : decode cL_wouldFall 24 = .ok (.ireturn, 1) := by decide +kernel
theorem dL_wouldFall_25 : decode cL_wouldFall 25 = .ok (.iconst 0, 1) := by decide +kernel
theorem dL_wouldFall_26 : decode cL_wouldFall 26 = .ok (.ireturn, 1) := by decide +kernel
def T_L_wouldFall (sp_X6_wouldFall : List ab_V → ab_M → ab_O) : ab_T := [(0, some (s_aload 3 1)), (1, some (s_const (vI 0) 2)), (2, some (s_aload 0 3)), (3, some (s_iload 1 4)), (4, some (s_iload 2 5)), (5, some (s_call 8 sp_X6_wouldFall 3 [("java/lang/IndexOutOfBoundsException", 13), ("java/lang/IllegalArgumentException", 17), ("java/lang/IllegalStateException", 21)] 8)), (8, some (s_i2l 9)), (9, some (s_last 10)), (10, some (s_goto 25)), (13, some (s_astore 4 15)), (15, some (s_const (vI 1) 16)), (16, some (s_ret 0)), (17, some (s_astore 4 19)), (19, some (s_const (vI 2) 20)), (20, some (s_ret 0)), (21, some (s_astore 4 23)), (23, some (s_const (vI 3) 24)), (24, some (s_ret 0)), (25, some (s_const (vI 0) 26)), (26, some (s_ret 0))]
set_option maxRecDepth 20000 in
theorem mt_L_wouldFall {sp_X6_wouldFall : List ab_V → ab_M → ab_O} : MonoT (T_L_wouldFall sp_X6_wouldFall) := MA_mem (And.intro mono_aload (And.intro mono_const (And.intro mono_aload (And.intro mono_iload (And.intro mono_iload (And.intro mono_call (And.intro mono_i2l (And.intro mono_last (And.intro mono_goto (And.intro mono_astore (And.intro mono_const (And.intro mono_ret (And.intro mono_astore (And.intro mono_const (And.intro mono_ret (And.intro mono_astore (And.intro mono_const (And.intro mono_ret (And.intro mono_const (And.intro mono_ret trivial))))))))))))))))))))
set_option maxRecDepth 20000 in
set_option maxHeartbeats 4000000 in
theorem snd_L_wouldFall {l : Launch} {D : va_G} {cA : Nat → ClassId} {d : Nat} {sp_X6_wouldFall : List ab_V → ab_M → ab_O} {d' : Nat} (hd9 : d' + 1 ≤ d) (hC_X6_wouldFall : ∀ as m, Ctr l D cA d' yX6_wouldFall (Cond.code yX6_wouldFall cX6_wouldFall 3 (some .int) :: TB) as m (sp_X6_wouldFall as m)) : Sound l D cA d 5 yL_wouldFall cL_wouldFall (some .int) (tableOf [(0, 10, 13, 13), (0, 10, 17, 24), (0, 10, 21, 15)]) (T_L_wouldFall sp_X6_wouldFall) := by
  intro p e R s m args below meth c loc0 m0 r Q E hQ h0 hrt hnm htab
  have hA_L_wouldFall : hdA yL_wouldFall.cls 5 c.exceptionTable.toList [("java/lang/IndexOutOfBoundsException", 13), ("java/lang/IllegalArgumentException", 17), ("java/lang/IllegalStateException", 21)] := by rw [htab]; exact ⟨⟨by decide +kernel, by decide +kernel, rfl, tw_t3_91, Or.inl rfl⟩, ⟨⟨by decide +kernel, by decide +kernel, rfl, tw_t3_133, Or.inr (Or.inl rfl)⟩, ⟨⟨by decide +kernel, by decide +kernel, rfl, tw_t3_92, Or.inr (Or.inr rfl)⟩, trivial⟩⟩⟩
  exact SA_mem (And.intro (fun ls st mm h => so_aload_n E rfl dL_wouldFall_0 h) (And.intro (fun ls st mm h => so_iconst E (by decide) dL_wouldFall_1 h) (And.intro (fun ls st mm h => so_aload_n E rfl dL_wouldFall_2 h) (And.intro (fun ls st mm h => so_iload_n E rfl dL_wouldFall_3 h) (And.intro (fun ls st mm h => so_iload_n E rfl dL_wouldFall_4 h) (And.intro (fun ls st mm h => so_callV E hQ rfl (fun _ h => h) h0 (idx := 99) (C := RX6) (T := TX6) (N := 11) rfl (by decide) (by decide) rfl hd9 (by decide) hC_X6_wouldFall hA_L_wouldFall tw_t4_151 tw_t2_232 tw_t2_233 tw_t1_1 tw_t2_234 (by decide +kernel) dL_wouldFall_5 h) (And.intro (fun ls st mm h => so_i2l E dL_wouldFall_8 h) (And.intro (fun ls st mm h => so_last E dL_wouldFall_9 h) (And.intro (fun ls st mm h => so_goto E (tgt := 25) (by decide) dL_wouldFall_10 h) (And.intro (fun ls st mm h => so_astore E dL_wouldFall_13 h) (And.intro (fun ls st mm h => so_iconst E (by decide) dL_wouldFall_15 h) (And.intro (fun ls st mm h => so_ireturn E hQ rfl (fun _ h => h) h0 (ty := .int) hrt (Or.inl ⟨rfl, rfl⟩) dL_wouldFall_16 h) (And.intro (fun ls st mm h => so_astore E dL_wouldFall_17 h) (And.intro (fun ls st mm h => so_iconst E (by decide) dL_wouldFall_19 h) (And.intro (fun ls st mm h => so_ireturn E hQ rfl (fun _ h => h) h0 (ty := .int) hrt (Or.inl ⟨rfl, rfl⟩) dL_wouldFall_20 h) (And.intro (fun ls st mm h => so_astore E dL_wouldFall_21 h) (And.intro (fun ls st mm h => so_iconst E (by decide) dL_wouldFall_23 h) (And.intro (fun ls st mm h => so_ireturn E hQ rfl (fun _ h => h) h0 (ty := .int) hrt (Or.inl ⟨rfl, rfl⟩) dL_wouldFall_24 h) (And.intro (fun ls st mm h => so_iconst E (by decide) dL_wouldFall_25 h) (And.intro (fun ls st mm h => so_ireturn E hQ rfl (fun _ h => h) h0 (ty := .int) hrt (Or.inl ⟨rfl, rfl⟩) dL_wouldFall_26 h) (trivial)))))))))))))))))))))
theorem dL_wouldLose_0 : decode cL_wouldLose 0 = .ok (.aload_n 2, 1) := by decide +kernel
theorem dL_wouldLose_1 : decode cL_wouldLose 1 = .ok (.iconst 0, 1) := by decide +kernel
theorem dL_wouldLose_2 : decode cL_wouldLose 2 = .ok (.aload_n 0, 1) := by decide +kernel
theorem dL_wouldLose_3 : decode cL_wouldLose 3 = .ok (.iload_n 1, 1) := by decide +kernel
theorem dL_wouldLose_4 : decode cL_wouldLose 4 = .ok (.invokevirtual 102, 3) := by decide +kernel
theorem dL_wouldLose_7 : decode cL_wouldLose 7 = .ok (.i2l, 1) := by decide +kernel
theorem dL_wouldLose_8 : decode cL_wouldLose 8 = .ok (.lastore, 1) := by decide +kernel
theorem dL_wouldLose_9 : decode cL_wouldLose 9 = .ok (.goto 6, 3) := by decide +kernel
theorem dL_wouldLose_12 : decode cL_wouldLose 12 = .ok (.astore_n 3, 1) := by decide +kernel
theorem dL_wouldLose_13 : decode cL_wouldLose 13 = .ok (.iconst 1, 1) := by decide +kernel
theorem dL_wouldLose_14 : decode cL_wouldLose 14 = .ok (.ireturn, 1) := by decide +kernel
theorem dL_wouldLose_15 : decode cL_wouldLose 15 = .ok (.iconst 0, 1) := by decide +kernel
theorem dL_wouldLose_16 : decode cL_wouldLose 16 = .ok (.ireturn, 1) := by decide +kernel
def T_L_wouldLose (sp_X6_wouldLose : List ab_V → ab_M → ab_O) : ab_T := [(0, some (s_aload 2 1)), (1, some (s_const (vI 0) 2)), (2, some (s_aload 0 3)), (3, some (s_iload 1 4)), (4, some (s_call 8 sp_X6_wouldLose 2 [("java/lang/IndexOutOfBoundsException", 12)] 7)), (7, some (s_i2l 8)), (8, some (s_last 9)), (9, some (s_goto 15)), (12, some (s_astore 3 13)), (13, some (s_const (vI 1) 14)), (14, some (s_ret 0)), (15, some (s_const (vI 0) 16)), (16, some (s_ret 0))]
set_option maxRecDepth 20000 in
theorem mt_L_wouldLose {sp_X6_wouldLose : List ab_V → ab_M → ab_O} : MonoT (T_L_wouldLose sp_X6_wouldLose) := MA_mem (And.intro mono_aload (And.intro mono_const (And.intro mono_aload (And.intro mono_iload (And.intro mono_call (And.intro mono_i2l (And.intro mono_last (And.intro mono_goto (And.intro mono_astore (And.intro mono_const (And.intro mono_ret (And.intro mono_const (And.intro mono_ret trivial)))))))))))))
set_option maxRecDepth 20000 in
set_option maxHeartbeats 4000000 in
theorem snd_L_wouldLose {l : Launch} {D : va_G} {cA : Nat → ClassId} {d : Nat} {sp_X6_wouldLose : List ab_V → ab_M → ab_O} {d' : Nat} (hd9 : d' + 1 ≤ d) (hC_X6_wouldLose : ∀ as m, Ctr l D cA d' yX6_wouldLose (Cond.code yX6_wouldLose cX6_wouldLose 2 (some .int) :: TB) as m (sp_X6_wouldLose as m)) : Sound l D cA d 4 yL_wouldLose cL_wouldLose (some .int) (tableOf [(0, 9, 12, 13)]) (T_L_wouldLose sp_X6_wouldLose) := by
  intro p e R s m args below meth c loc0 m0 r Q E hQ h0 hrt hnm htab
  have hA_L_wouldLose : hdA yL_wouldLose.cls 4 c.exceptionTable.toList [("java/lang/IndexOutOfBoundsException", 12)] := by rw [htab]; exact ⟨⟨by decide +kernel, by decide +kernel, rfl, tw_t3_91, Or.inl rfl⟩, trivial⟩
  exact SA_mem (And.intro (fun ls st mm h => so_aload_n E rfl dL_wouldLose_0 h) (And.intro (fun ls st mm h => so_iconst E (by decide) dL_wouldLose_1 h) (And.intro (fun ls st mm h => so_aload_n E rfl dL_wouldLose_2 h) (And.intro (fun ls st mm h => so_iload_n E rfl dL_wouldLose_3 h) (And.intro (fun ls st mm h => so_callV E hQ rfl (fun _ h => h) h0 (idx := 102) (C := RX6) (T := TX6) (N := 11) rfl (by decide) (by decide) rfl hd9 (by decide) hC_X6_wouldLose hA_L_wouldLose tw_t4_155 tw_t2_215 tw_t2_216 tw_t1_1 tw_t2_217 (by decide +kernel) dL_wouldLose_4 h) (And.intro (fun ls st mm h => so_i2l E dL_wouldLose_7 h) (And.intro (fun ls st mm h => so_last E dL_wouldLose_8 h) (And.intro (fun ls st mm h => so_goto E (tgt := 15) (by decide) dL_wouldLose_9 h) (And.intro (fun ls st mm h => so_astore_n E rfl dL_wouldLose_12 h) (And.intro (fun ls st mm h => so_iconst E (by decide) dL_wouldLose_13 h) (And.intro (fun ls st mm h => so_ireturn E hQ rfl (fun _ h => h) h0 (ty := .int) hrt (Or.inl ⟨rfl, rfl⟩) dL_wouldLose_14 h) (And.intro (fun ls st mm h => so_iconst E (by decide) dL_wouldLose_15 h) (And.intro (fun ls st mm h => so_ireturn E hQ rfl (fun _ h => h) h0 (ty := .int) hrt (Or.inl ⟨rfl, rfl⟩) dL_wouldLose_16 h) (trivial))))))))))))))
