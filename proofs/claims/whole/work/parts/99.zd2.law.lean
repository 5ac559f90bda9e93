/-! the law: c8 c9 c10 c11 -/
theorem dL_law_696 : decode cL_law 696 = .ok (.aload_n 1, 1) := by decide +kernel
theorem dL_law_697 : decode cL_law 697 = .ok (.aload_n 0, 1) := by decide +kernel
theorem dL_law_698 : decode cL_law 698 = .ok (.iload 5, 2) := by decide +kernel
theorem dL_law_700 : decode cL_law 700 = .ok (.iconst 1, 1) := by decide +kernel
theorem dL_law_701 : decode cL_law 701 = .ok (.iadd, 1) := by decide +kernel
theorem dL_law_702 : decode cL_law 702 = .ok (.iaload, 1) := by decide +kernel
theorem dL_law_703 : decode cL_law 703 = .ok (.aload_n 0, 1) := by decide +kernel
theorem dL_law_704 : decode cL_law 704 = .ok (.iload 5, 2) := by decide +kernel
theorem dL_law_706 : decode cL_law 706 = .ok (.iconst 2, 1) := by decide +kernel
theorem dL_law_707 : decode cL_law 707 = .ok (.iadd, 1) := by decide +kernel
theorem dL_law_708 : decode cL_law 708 = .ok (.iaload, 1) := by decide +kernel
theorem dL_law_709 : decode cL_law 709 = .ok (.aload_n 0, 1) := by decide +kernel
theorem dL_law_710 : decode cL_law 710 = .ok (.iload 5, 2) := by decide +kernel
theorem dL_law_712 : decode cL_law 712 = .ok (.iconst 3, 1) := by decide +kernel
theorem dL_law_713 : decode cL_law 713 = .ok (.iadd, 1) := by decide +kernel
theorem dL_law_714 : decode cL_law 714 = .ok (.iaload, 1) := by decide +kernel
theorem dL_law_715 : decode cL_law 715 = .ok (.aload_n 3, 1) := by decide +kernel
theorem dL_law_716 : decode cL_law 716 = .ok (.invokestatic 142, 3) := by decide +kernel
theorem dL_law_719 : decode cL_law 719 = .ok (.istore 6, 2) := by decide +kernel
theorem dL_law_721 : decode cL_law 721 = .ok (.aload_n 2, 1) := by decide +kernel
theorem dL_law_722 : decode cL_law 722 = .ok (.aload_n 0, 1) := by decide +kernel
theorem dL_law_723 : decode cL_law 723 = .ok (.iload 5, 2) := by decide +kernel
theorem dL_law_725 : decode cL_law 725 = .ok (.iconst 1, 1) := by decide +kernel
theorem dL_law_726 : decode cL_law 726 = .ok (.iadd, 1) := by decide +kernel
theorem dL_law_727 : decode cL_law 727 = .ok (.iaload, 1) := by decide +kernel
theorem dL_law_728 : decode cL_law 728 = .ok (.aload_n 0, 1) := by decide +kernel
theorem dL_law_729 : decode cL_law 729 = .ok (.iload 5, 2) := by decide +kernel
theorem dL_law_731 : decode cL_law 731 = .ok (.iconst 2, 1) := by decide +kernel
theorem dL_law_732 : decode cL_law 732 = .ok (.iadd, 1) := by decide +kernel
theorem dL_law_733 : decode cL_law 733 = .ok (.iaload, 1) := by decide +kernel
theorem dL_law_734 : decode cL_law 734 = .ok (.aload_n 0, 1) := by decide +kernel
theorem dL_law_735 : decode cL_law 735 = .ok (.iload 5, 2) := by decide +kernel
theorem dL_law_737 : decode cL_law 737 = .ok (.iconst 3, 1) := by decide +kernel
theorem dL_law_738 : decode cL_law 738 = .ok (.iadd, 1) := by decide +kernel
theorem dL_law_739 : decode cL_law 739 = .ok (.iaload, 1) := by decide +kernel
theorem dL_law_740 : decode cL_law 740 = .ok (.invokevirtual 145, 3) := by decide +kernel
theorem dL_law_743 : decode cL_law 743 = .ok (.istore 7, 2) := by decide +kernel
theorem dL_law_745 : decode cL_law 745 = .ok (.aload_n 2, 1) := by decide +kernel
theorem dL_law_746 : decode cL_law 746 = .ok (.invokevirtual 115, 3) := by decide +kernel
theorem dL_law_749 : decode cL_law 749 = .ok (.iload 6, 2) := by decide +kernel
theorem dL_law_751 : decode cL_law 751 = .ok (.if_icmp .eq 5, 3) := by decide +kernel
theorem dL_law_754 : decode cL_law 754 = .ok (.iconst 0, 1) := by decide +kernel
theorem dL_law_755 : decode cL_law 755 = .ok (.ireturn, 1) := by decide +kernel
theorem dL_law_756 : decode cL_law 756 = .ok (.iload 6, 2) := by decide +kernel
theorem dL_law_758 : decode cL_law 758 = .ok (.ifCond .ne 15, 3) := by decide +kernel
theorem dL_law_761 : decode cL_law 761 = .ok (.aload_n 3, 1) := by decide +kernel
theorem dL_law_762 : decode cL_law 762 = .ok (.iconst 0, 1) := by decide +kernel
theorem dL_law_763 : decode cL_law 763 = .ok (.laload, 1) := by decide +kernel
theorem dL_law_764 : decode cL_law 764 = .ok (.iload 7, 2) := by decide +kernel
theorem dL_law_766 : decode cL_law 766 = .ok (.i2l, 1) := by decide +kernel
theorem dL_law_767 : decode cL_law 767 = .ok (.lcmp, 1) := by decide +kernel
theorem dL_law_768 : decode cL_law 768 = .ok (.ifCond .eq 5, 3) := by decide +kernel
theorem dL_law_771 : decode cL_law 771 = .ok (.iconst 0, 1) := by decide +kernel
theorem dL_law_772 : decode cL_law 772 = .ok (.ireturn, 1) := by decide +kernel
theorem dL_law_773 : decode cL_law 773 = .ok (.goto 1360, 3) := by decide +kernel
def T_L_law_c8 (sp_L_secret sp_X9_secret sp_X9_thrown : List ab_V → ab_M → ab_O) : ab_T := [(696, some (s_aload 1 697)), (697, some (s_aload 0 698)), (698, some (s_iload 5 700)), (700, some (s_const (vI 1) 701)), (701, some (s_bin (· + ·) 702)), (702, some (s_ald 100 703)), (703, some (s_aload 0 704)), (704, some (s_iload 5 706)), (706, some (s_const (vI 2) 707)), (707, some (s_bin (· + ·) 708)), (708, some (s_ald 100 709)), (709, some (s_aload 0 710)), (710, some (s_iload 5 712)), (712, some (s_const (vI 3) 713)), (713, some (s_bin (· + ·) 714)), (714, some (s_ald 100 715)), (715, some (s_aload 3 716)), (716, some (s_call 999 sp_L_secret 5 [] 719)), (719, some (s_istore 6 721)), (721, some (s_aload 2 722)), (722, some (s_aload 0 723)), (723, some (s_iload 5 725)), (725, some (s_const (vI 1) 726)), (726, some (s_bin (· + ·) 727)), (727, some (s_ald 100 728)), (728, some (s_aload 0 729)), (729, some (s_iload 5 731)), (731, some (s_const (vI 2) 732)), (732, some (s_bin (· + ·) 733)), (733, some (s_ald 100 734)), (734, some (s_aload 0 735)), (735, some (s_iload 5 737)), (737, some (s_const (vI 3) 738)), (738, some (s_bin (· + ·) 739)), (739, some (s_ald 100 740)), (740, some (s_call 11 sp_X9_secret 4 [] 743)), (743, some (s_istore 7 745)), (745, some (s_aload 2 746)), (746, some (s_call 11 sp_X9_thrown 1 [] 749)), (749, some (s_iload 6 751)), (751, some (s_cmpeq 756 754)), (754, some (s_const (vI 0) 755)), (755, some (s_ret 1)), (756, some (s_iload 6 758)), (758, some (s_ifeq 761 773)), (761, some (s_aload 3 762)), (762, some (s_const (vI 0) 763)), (763, some (s_lald 764)), (764, some (s_iload 7 766)), (766, some (s_i2l 767)), (767, some (s_lcmp 768)), (768, some (s_ifeq 773 771)), (771, some (s_const (vI 0) 772)), (772, some (s_ret 1)), (773, some (s_goto 2133))]
set_option maxRecDepth 20000 in
theorem mt_L_law_c8 {sp_L_secret sp_X9_secret sp_X9_thrown : List ab_V → ab_M → ab_O} : MonoT (T_L_law_c8 sp_L_secret sp_X9_secret sp_X9_thrown) := MA_mem (And.intro mono_aload (And.intro mono_aload (And.intro mono_iload (And.intro mono_const (And.intro mono_bin (And.intro mono_ald (And.intro mono_aload (And.intro mono_iload (And.intro mono_const (And.intro mono_bin (And.intro mono_ald (And.intro mono_aload (And.intro mono_iload (And.intro mono_const (And.intro mono_bin (And.intro mono_ald (And.intro mono_aload (And.intro mono_call (And.intro mono_istore (And.intro mono_aload (And.intro mono_aload (And.intro mono_iload (And.intro mono_const (And.intro mono_bin (And.intro mono_ald (And.intro mono_aload (And.intro mono_iload (And.intro mono_const (And.intro mono_bin (And.intro mono_ald (And.intro mono_aload (And.intro mono_iload (And.intro mono_const (And.intro mono_bin (And.intro mono_ald (And.intro mono_call (And.intro mono_istore (And.intro mono_aload (And.intro mono_call (And.intro mono_iload (And.intro mono_cmpeq (And.intro mono_const (And.intro mono_ret (And.intro mono_iload (And.intro mono_ifeq (And.intro mono_aload (And.intro mono_const (And.intro mono_lald (And.intro mono_iload (And.intro mono_i2l (And.intro mono_lcmp (And.intro mono_ifeq (And.intro mono_const (And.intro mono_ret (And.intro mono_goto trivial)))))))))))))))))))))))))))))))))))))))))))))))))))))))
set_option maxRecDepth 20000 in
set_option maxHeartbeats 4000000 in
theorem snd_L_law_c8 {l : Launch} {D : va_G} {cA : Nat → ClassId} {d : Nat} {sp_L_secret sp_X9_secret sp_X9_thrown : List ab_V → ab_M → ab_O} {d' : Nat} (hd9 : d' + 1 ≤ d) (hC_L_secret : ∀ as m, Ctr l D cA d' yL_secret (Cond.codeWith yL_secret cL_secret 6 (some .int) [(0, 12, 15, 13), (0, 12, 19, 24), (0, 12, 23, 15)] :: TB) as m (sp_L_secret as m)) (hC_X9_secret : ∀ as m, Ctr l D cA d' yX9_secret (Cond.code yX9_secret cX9_secret 4 (some .int) :: TB) as m (sp_X9_secret as m)) (hC_X9_thrown : ∀ as m, Ctr l D cA d' yX9_thrown (Cond.code yX9_thrown cX9_thrown 1 (some .int) :: TB) as m (sp_X9_thrown as m)) : Sound l D cA d 9 yL_law cL_law (some .boolean) [] (T_L_law_c8 sp_L_secret sp_X9_secret sp_X9_thrown) := by
  intro p e R s m args below meth c loc0 m0 r Q E hQ h0 hrt hnm htab
  exact SA_mem (And.intro (fun ls st mm h => so_aload_n E rfl dL_law_696 h) (And.intro (fun ls st mm h => so_aload_n E rfl dL_law_697 h) (And.intro (fun ls st mm h => so_iload E dL_law_698 h) (And.intro (fun ls st mm h => so_iconst E (by decide) dL_law_700 h) (And.intro (fun ls st mm h => so_iadd E dL_law_701 h) (And.intro (fun ls st mm h => so_iald E dL_law_702 h) (And.intro (fun ls st mm h => so_aload_n E rfl dL_law_703 h) (And.intro (fun ls st mm h => so_iload E dL_law_704 h) (And.intro (fun ls st mm h => so_iconst E (by decide) dL_law_706 h) (And.intro (fun ls st mm h => so_iadd E dL_law_707 h) (And.intro (fun ls st mm h => so_iald E dL_law_708 h) (And.intro (fun ls st mm h => so_aload_n E rfl dL_law_709 h) (And.intro (fun ls st mm h => so_iload E dL_law_710 h) (And.intro (fun ls st mm h => so_iconst E (by decide) dL_law_712 h) (And.intro (fun ls st mm h => so_iadd E dL_law_713 h) (And.intro (fun ls st mm h => so_iald E dL_law_714 h) (And.intro (fun ls st mm h => so_aload_n E rfl dL_law_715 h) (And.intro (fun ls st mm h => so_callSX E hQ rfl (fun _ h => h) h0 (idx := 142) hd9 (by decide) hC_L_secret (hd_nil htab) tw_t3_199 tw_t3_200 tw_t1_0 tw_t3_201 (by decide +kernel) dL_law_716 h) (And.intro (fun ls st mm h => so_istore E dL_law_719 h) (And.intro (fun ls st mm h => so_aload_n E rfl dL_law_721 h) (And.intro (fun ls st mm h => so_aload_n E rfl dL_law_722 h) (And.intro (fun ls st mm h => so_iload E dL_law_723 h) (And.intro (fun ls st mm h => so_iconst E (by decide) dL_law_725 h) (And.intro (fun ls st mm h => so_iadd E dL_law_726 h) (And.intro (fun ls st mm h => so_iald E dL_law_727 h) (And.intro (fun ls st mm h => so_aload_n E rfl dL_law_728 h) (And.intro (fun ls st mm h => so_iload E dL_law_729 h) (And.intro (fun ls st mm h => so_iconst E (by decide) dL_law_731 h) (And.intro (fun ls st mm h => so_iadd E dL_law_732 h) (And.intro (fun ls st mm h => so_iald E dL_law_733 h) (And.intro (fun ls st mm h => so_aload_n E rfl dL_law_734 h) (And.intro (fun ls st mm h => so_iload E dL_law_735 h) (And.intro (fun ls st mm h => so_iconst E (by decide) dL_law_737 h) (And.intro (fun ls st mm h => so_iadd E dL_law_738 h) (And.intro (fun ls st mm h => so_iald E dL_law_739 h) (And.intro (fun ls st mm h => so_callV E hQ rfl (fun _ h => h) h0 (idx := 145) (C := RX9) (T := TX9) (N := 10) rfl (by decide) (by decide) rfl hd9 (by decide) hC_X9_secret (hd_nil htab) tw_t6_25 tw_t6_26 tw_t6_27 tw_t1_8 tw_t6_28 (by decide +kernel) dL_law_740 h) (And.intro (fun ls st mm h => so_istore E dL_law_743 h) (And.intro (fun ls st mm h => so_aload_n E rfl dL_law_745 h) (And.intro (fun ls st mm h => so_callV E hQ rfl (fun _ h => h) h0 (idx := 115) (C := RX9) (T := TX9) (N := 10) rfl (by decide) (by decide) rfl hd9 (by decide) hC_X9_thrown (hd_nil htab) tw_t4_222 tw_t4_223 tw_t4_224 tw_t1_8 tw_t4_225 (by decide +kernel) dL_law_746 h) (And.intro (fun ls st mm h => so_iload E dL_law_749 h) (And.intro (fun ls st mm h => so_icmpeq E (tgt := 756) (by decide) dL_law_751 h) (And.intro (fun ls st mm h => so_iconst E (by decide) dL_law_754 h) (And.intro (fun ls st mm h => so_ireturn E hQ rfl (fun _ h => h) h0 (ty := .boolean) hrt (Or.inr ⟨rfl, rfl⟩) dL_law_755 h) (And.intro (fun ls st mm h => so_iload E dL_law_756 h) (And.intro (fun ls st mm h => so_ifne E (tgt := 773) (by decide) dL_law_758 h) (And.intro (fun ls st mm h => so_aload_n E rfl dL_law_761 h) (And.intro (fun ls st mm h => so_iconst E (by decide) dL_law_762 h) (And.intro (fun ls st mm h => so_lald E dL_law_763 h) (And.intro (fun ls st mm h => so_iload E dL_law_764 h) (And.intro (fun ls st mm h => so_i2l E dL_law_766 h) (And.intro (fun ls st mm h => so_lcmp E dL_law_767 h) (And.intro (fun ls st mm h => so_ifeq E (tgt := 773) (by decide) dL_law_768 h) (And.intro (fun ls st mm h => so_iconst E (by decide) dL_law_771 h) (And.intro (fun ls st mm h => so_ireturn E hQ rfl (fun _ h => h) h0 (ty := .boolean) hrt (Or.inr ⟨rfl, rfl⟩) dL_law_772 h) (And.intro (fun ls st mm h => so_goto E (tgt := 2133) (by decide) dL_law_773 h) (trivial))))))))))))))))))))))))))))))))))))))))))))))))))))))))
theorem dL_law_776 : decode cL_law 776 = .ok (.aload_n 1, 1) := by decide +kernel
theorem dL_law_777 : decode cL_law 777 = .ok (.aload_n 0, 1) := by decide +kernel
theorem dL_law_778 : decode cL_law 778 = .ok (.iload 5, 2) := by decide +kernel
theorem dL_law_780 : decode cL_law 780 = .ok (.iconst 1, 1) := by decide +kernel
theorem dL_law_781 : decode cL_law 781 = .ok (.iadd, 1) := by decide +kernel
theorem dL_law_782 : decode cL_law 782 = .ok (.iaload, 1) := by decide +kernel
theorem dL_law_783 : decode cL_law 783 = .ok (.aload_n 0, 1) := by decide +kernel
theorem dL_law_784 : decode cL_law 784 = .ok (.iload 5, 2) := by decide +kernel
theorem dL_law_786 : decode cL_law 786 = .ok (.iconst 2, 1) := by decide +kernel
theorem dL_law_787 : decode cL_law 787 = .ok (.iadd, 1) := by decide +kernel
theorem dL_law_788 : decode cL_law 788 = .ok (.iaload, 1) := by decide +kernel
theorem dL_law_789 : decode cL_law 789 = .ok (.aload_n 3, 1) := by decide +kernel
theorem dL_law_790 : decode cL_law 790 = .ok (.invokestatic 146, 3) := by decide +kernel
theorem dL_law_793 : decode cL_law 793 = .ok (.istore 6, 2) := by decide +kernel
theorem dL_law_795 : decode cL_law 795 = .ok (.aload_n 2, 1) := by decide +kernel
theorem dL_law_796 : decode cL_law 796 = .ok (.aload_n 0, 1) := by decide +kernel
theorem dL_law_797 : decode cL_law 797 = .ok (.iload 5, 2) := by decide +kernel
theorem dL_law_799 : decode cL_law 799 = .ok (.iconst 1, 1) := by decide +kernel
theorem dL_law_800 : decode cL_law 800 = .ok (.iadd, 1) := by decide +kernel
theorem dL_law_801 : decode cL_law 801 = .ok (.iaload, 1) := by decide +kernel
theorem dL_law_802 : decode cL_law 802 = .ok (.aload_n 0, 1) := by decide +kernel
theorem dL_law_803 : decode cL_law 803 = .ok (.iload 5, 2) := by decide +kernel
theorem dL_law_805 : decode cL_law 805 = .ok (.iconst 2, 1) := by decide +kernel
theorem dL_law_806 : decode cL_law 806 = .ok (.iadd, 1) := by decide +kernel
theorem dL_law_807 : decode cL_law 807 = .ok (.iaload, 1) := by decide +kernel
theorem dL_law_808 : decode cL_law 808 = .ok (.invokevirtual 148, 3) := by decide +kernel
theorem dL_law_811 : decode cL_law 811 = .ok (.istore 7, 2) := by decide +kernel
theorem dL_law_813 : decode cL_law 813 = .ok (.aload_n 2, 1) := by decide +kernel
theorem dL_law_814 : decode cL_law 814 = .ok (.invokevirtual 115, 3) := by decide +kernel
theorem dL_law_817 : decode cL_law 817 = .ok (.iload 6, 2) := by decide +kernel
theorem dL_law_819 : decode cL_law 819 = .ok (.if_icmp .eq 5, 3) := by decide +kernel
theorem dL_law_822 : decode cL_law 822 = .ok (.iconst 0, 1) := by decide +kernel
theorem dL_law_823 : decode cL_law 823 = .ok (.ireturn, 1) := by decide +kernel
theorem dL_law_824 : decode cL_law 824 = .ok (.iload 6, 2) := by decide +kernel
theorem dL_law_826 : decode cL_law 826 = .ok (.ifCond .ne 22, 3) := by decide +kernel
theorem dL_law_829 : decode cL_law 829 = .ok (.aload_n 3, 1) := by decide +kernel
theorem dL_law_830 : decode cL_law 830 = .ok (.iconst 0, 1) := by decide +kernel
theorem dL_law_831 : decode cL_law 831 = .ok (.laload, 1) := by decide +kernel
theorem dL_law_832 : decode cL_law 832 = .ok (.iload 7, 2) := by decide +kernel
theorem dL_law_834 : decode cL_law 834 = .ok (.ifCond .eq 7, 3) := by decide +kernel
theorem dL_law_837 : decode cL_law 837 = .ok (.lconst 1, 1) := by decide +kernel
theorem dL_law_838 : decode cL_law 838 = .ok (.goto 4, 3) := by decide +kernel
theorem dL_law_841 : decode cL_law 841 = .ok (.lconst 0, 1) := by decide +kernel
theorem dL_law_842 : decode cL_law 842 = .ok (.lcmp, 1) := by decide +kernel
theorem dL_law_843 : decode cL_law 843 = .ok (.ifCond .eq 5, 3) := by decide +kernel
theorem dL_law_846 : decode cL_law 846 = .ok (.iconst 0, 1) := by decide +kernel
theorem dL_law_847 : decode cL_law 847 = .ok (.ireturn, 1) := by decide +kernel
theorem dL_law_848 : decode cL_law 848 = .ok (.goto 1285, 3) := by decide +kernel
def T_L_law_c9 (sp_L_read sp_X9_read sp_X9_thrown : List ab_V → ab_M → ab_O) : ab_T := [(776, some (s_aload 1 777)), (777, some (s_aload 0 778)), (778, some (s_iload 5 780)), (780, some (s_const (vI 1) 781)), (781, some (s_bin (· + ·) 782)), (782, some (s_ald 100 783)), (783, some (s_aload 0 784)), (784, some (s_iload 5 786)), (786, some (s_const (vI 2) 787)), (787, some (s_bin (· + ·) 788)), (788, some (s_ald 100 789)), (789, some (s_aload 3 790)), (790, some (s_call 999 sp_L_read 4 [] 793)), (793, some (s_istore 6 795)), (795, some (s_aload 2 796)), (796, some (s_aload 0 797)), (797, some (s_iload 5 799)), (799, some (s_const (vI 1) 800)), (800, some (s_bin (· + ·) 801)), (801, some (s_ald 100 802)), (802, some (s_aload 0 803)), (803, some (s_iload 5 805)), (805, some (s_const (vI 2) 806)), (806, some (s_bin (· + ·) 807)), (807, some (s_ald 100 808)), (808, some (s_call 11 sp_X9_read 3 [] 811)), (811, some (s_istore 7 813)), (813, some (s_aload 2 814)), (814, some (s_call 11 sp_X9_thrown 1 [] 817)), (817, some (s_iload 6 819)), (819, some (s_cmpeq 824 822)), (822, some (s_const (vI 0) 823)), (823, some (s_ret 1)), (824, some (s_iload 6 826)), (826, some (s_ifeq 829 848)), (829, some (s_aload 3 830)), (830, some (s_const (vI 0) 831)), (831, some (s_lald 832)), (832, some (s_iload 7 834)), (834, some (s_ifeq 841 837)), (837, some (s_const (vL 1) 838)), (838, some (s_goto 842)), (841, some (s_const (vL 0) 842)), (842, some (s_lcmp 843)), (843, some (s_ifeq 848 846)), (846, some (s_const (vI 0) 847)), (847, some (s_ret 1)), (848, some (s_goto 2133))]
set_option maxRecDepth 20000 in
theorem mt_L_law_c9 {sp_L_read sp_X9_read sp_X9_thrown : List ab_V → ab_M → ab_O} : MonoT (T_L_law_c9 sp_L_read sp_X9_read sp_X9_thrown) := MA_mem (And.intro mono_aload (And.intro mono_aload (And.intro mono_iload (And.intro mono_const (And.intro mono_bin (And.intro mono_ald (And.intro mono_aload (And.intro mono_iload (And.intro mono_const (And.intro mono_bin (And.intro mono_ald (And.intro mono_aload (And.intro mono_call (And.intro mono_istore (And.intro mono_aload (And.intro mono_aload (And.intro mono_iload (And.intro mono_const (And.intro mono_bin (And.intro mono_ald (And.intro mono_aload (And.intro mono_iload (And.intro mono_const (And.intro mono_bin (And.intro mono_ald (And.intro mono_call (And.intro mono_istore (And.intro mono_aload (And.intro mono_call (And.intro mono_iload (And.intro mono_cmpeq (And.intro mono_const (And.intro mono_ret (And.intro mono_iload (And.intro mono_ifeq (And.intro mono_aload (And.intro mono_const (And.intro mono_lald (And.intro mono_iload (And.intro mono_ifeq (And.intro mono_const (And.intro mono_goto (And.intro mono_const (And.intro mono_lcmp (And.intro mono_ifeq (And.intro mono_const (And.intro mono_ret (And.intro mono_goto trivial))))))))))))))))))))))))))))))))))))))))))))))))
set_option maxRecDepth 20000 in
set_option maxHeartbeats 4000000 in
theorem snd_L_law_c9 {l : Launch} {D : va_G} {cA : Nat → ClassId} {d : Nat} {sp_L_read sp_X9_read sp_X9_thrown : List ab_V → ab_M → ab_O} {d' : Nat} (hd9 : d' + 1 ≤ d) (hC_L_read : ∀ as m, Ctr l D cA d' yL_read (Cond.codeWith yL_read cL_read 5 (some .int) [(0, 17, 20, 13), (0, 17, 24, 15)] :: TB) as m (sp_L_read as m)) (hC_X9_read : ∀ as m, Ctr l D cA d' yX9_read (Cond.code yX9_read cX9_read 3 (some .boolean) :: TB) as m (sp_X9_read as m)) (hC_X9_thrown : ∀ as m, Ctr l D cA d' yX9_thrown (Cond.code yX9_thrown cX9_thrown 1 (some .int) :: TB) as m (sp_X9_thrown as m)) : Sound l D cA d 9 yL_law cL_law (some .boolean) [] (T_L_law_c9 sp_L_read sp_X9_read sp_X9_thrown) := by
  intro p e R s m args below meth c loc0 m0 r Q E hQ h0 hrt hnm htab
  exact SA_mem (And.intro (fun ls st mm h => so_aload_n E rfl dL_law_776 h) (And.intro (fun ls st mm h => so_aload_n E rfl dL_law_777 h) (And.intro (fun ls st mm h => so_iload E dL_law_778 h) (And.intro (fun ls st mm h => so_iconst E (by decide) dL_law_780 h) (And.intro (fun ls st mm h => so_iadd E dL_law_781 h) (And.intro (fun ls st mm h => so_iald E dL_law_782 h) (And.intro (fun ls st mm h => so_aload_n E rfl dL_law_783 h) (And.intro (fun ls st mm h => so_iload E dL_law_784 h) (And.intro (fun ls st mm h => so_iconst E (by decide) dL_law_786 h) (And.intro (fun ls st mm h => so_iadd E dL_law_787 h) (And.intro (fun ls st mm h => so_iald E dL_law_788 h) (And.intro (fun ls st mm h => so_aload_n E rfl dL_law_789 h) (And.intro (fun ls st mm h => so_callSX E hQ rfl (fun _ h => h) h0 (idx := 146) hd9 (by decide) hC_L_read (hd_nil htab) tw_t3_215 tw_t3_216 tw_t1_0 tw_t3_217 (by decide +kernel) dL_law_790 h) (And.intro (fun ls st mm h => so_istore E dL_law_793 h) (And.intro (fun ls st mm h => so_aload_n E rfl dL_law_795 h) (And.intro (fun ls st mm h => so_aload_n E rfl dL_law_796 h) (And.intro (fun ls st mm h => so_iload E dL_law_797 h) (And.intro (fun ls st mm h => so_iconst E (by decide) dL_law_799 h) (And.intro (fun ls st mm h => so_iadd E dL_law_800 h) (And.intro (fun ls st mm h => so_iald E dL_law_801 h) (And.intro (fun ls st mm h => so_aload_n E rfl dL_law_802 h) (And.intro (fun ls st mm h => so_iload E dL_law_803 h) (And.intro (fun ls st mm h => so_iconst E (by decide) dL_law_805 h) (And.intro (fun ls st mm h => so_iadd E dL_law_806 h) (And.intro (fun ls st mm h => so_iald E dL_law_807 h) (And.intro (fun ls st mm h => so_callV E hQ rfl (fun _ h => h) h0 (idx := 148) (C := RX9) (T := TX9) (N := 10) rfl (by decide) (by decide) rfl hd9 (by decide) hC_X9_read (hd_nil htab) tw_t6_33 tw_t6_34 tw_t6_35 tw_t1_8 tw_t6_36 (by decide +kernel) dL_law_808 h) (And.intro (fun ls st mm h => so_istore E dL_law_811 h) (And.intro (fun ls st mm h => so_aload_n E rfl dL_law_813 h) (And.intro (fun ls st mm h => so_callV E hQ rfl (fun _ h => h) h0 (idx := 115) (C := RX9) (T := TX9) (N := 10) rfl (by decide) (by decide) rfl hd9 (by decide) hC_X9_thrown (hd_nil htab) tw_t4_222 tw_t4_223 tw_t4_224 tw_t1_8 tw_t4_225 (by decide +kernel) dL_law_814 h) (And.intro (fun ls st mm h => so_iload E dL_law_817 h) (And.intro (fun ls st mm h => so_icmpeq E (tgt := 824) (by decide) dL_law_819 h) (And.intro (fun ls st mm h => so_iconst E (by decide) dL_law_822 h) (And.intro (fun ls st mm h => so_ireturn E hQ rfl (fun _ h => h) h0 (ty := .boolean) hrt (Or.inr ⟨rfl, rfl⟩) dL_law_823 h) (And.intro (fun ls st mm h => so_iload E dL_law_824 h) (And.intro (fun ls st mm h => so_ifne E (tgt := 848) (by decide) dL_law_826 h) (And.intro (fun ls st mm h => so_aload_n E rfl dL_law_829 h) (And.intro (fun ls st mm h => so_iconst E (by decide) dL_law_830 h) (And.intro (fun ls st mm h => so_lald E dL_law_831 h) (And.intro (fun ls st mm h => so_iload E dL_law_832 h) (And.intro (fun ls st mm h => so_ifeq E (tgt := 841) (by decide) dL_law_834 h) (And.intro (fun ls st mm h => so_lconst E (by decide) dL_law_837 h) (And.intro (fun ls st mm h => so_goto E (tgt := 842) (by decide) dL_law_838 h) (And.intro (fun ls st mm h => so_lconst E (by decide) dL_law_841 h) (And.intro (fun ls st mm h => so_lcmp E dL_law_842 h) (And.intro (fun ls st mm h => so_ifeq E (tgt := 848) (by decide) dL_law_843 h) (And.intro (fun ls st mm h => so_iconst E (by decide) dL_law_846 h) (And.intro (fun ls st mm h => so_ireturn E hQ rfl (fun _ h => h) h0 (ty := .boolean) hrt (Or.inr ⟨rfl, rfl⟩) dL_law_847 h) (And.intro (fun ls st mm h => so_goto E (tgt := 2133) (by decide) dL_law_848 h) (trivial)))))))))))))))))))))))))))))))))))))))))))))))))
theorem dL_law_851 : decode cL_law 851 = .ok (.aload_n 1, 1) := by decide +kernel
theorem dL_law_852 : decode cL_law 852 = .ok (.aload_n 0, 1) := by decide +kernel
theorem dL_law_853 : decode cL_law 853 = .ok (.iload 5, 2) := by decide +kernel
theorem dL_law_855 : decode cL_law 855 = .ok (.iconst 1, 1) := by decide +kernel
theorem dL_law_856 : decode cL_law 856 = .ok (.iadd, 1) := by decide +kernel
theorem dL_law_857 : decode cL_law 857 = .ok (.iaload, 1) := by decide +kernel
theorem dL_law_858 : decode cL_law 858 = .ok (.aload_n 0, 1) := by decide +kernel
theorem dL_law_859 : decode cL_law 859 = .ok (.iload 5, 2) := by decide +kernel
theorem dL_law_861 : decode cL_law 861 = .ok (.iconst 2, 1) := by decide +kernel
theorem dL_law_862 : decode cL_law 862 = .ok (.iadd, 1) := by decide +kernel
theorem dL_law_863 : decode cL_law 863 = .ok (.iaload, 1) := by decide +kernel
theorem dL_law_864 : decode cL_law 864 = .ok (.aload_n 3, 1) := by decide +kernel
theorem dL_law_865 : decode cL_law 865 = .ok (.invokestatic 149, 3) := by decide +kernel
theorem dL_law_868 : decode cL_law 868 = .ok (.istore 6, 2) := by decide +kernel
theorem dL_law_870 : decode cL_law 870 = .ok (.aload_n 2, 1) := by decide +kernel
theorem dL_law_871 : decode cL_law 871 = .ok (.aload_n 0, 1) := by decide +kernel
theorem dL_law_872 : decode cL_law 872 = .ok (.iload 5, 2) := by decide +kernel
theorem dL_law_874 : decode cL_law 874 = .ok (.iconst 1, 1) := by decide +kernel
theorem dL_law_875 : decode cL_law 875 = .ok (.iadd, 1) := by decide +kernel
theorem dL_law_876 : decode cL_law 876 = .ok (.iaload, 1) := by decide +kernel
theorem dL_law_877 : decode cL_law 877 = .ok (.aload_n 0, 1) := by decide +kernel
theorem dL_law_878 : decode cL_law 878 = .ok (.iload 5, 2) := by decide +kernel
theorem dL_law_880 : decode cL_law 880 = .ok (.iconst 2, 1) := by decide +kernel
theorem dL_law_881 : decode cL_law 881 = .ok (.iadd, 1) := by decide +kernel
theorem dL_law_882 : decode cL_law 882 = .ok (.iaload, 1) := by decide +kernel
theorem dL_law_883 : decode cL_law 883 = .ok (.invokevirtual 151, 3) := by decide +kernel
theorem dL_law_886 : decode cL_law 886 = .ok (.istore 7, 2) := by decide +kernel
theorem dL_law_888 : decode cL_law 888 = .ok (.aload_n 2, 1) := by decide +kernel
theorem dL_law_889 : decode cL_law 889 = .ok (.invokevirtual 115, 3) := by decide +kernel
theorem dL_law_892 : decode cL_law 892 = .ok (.iload 6, 2) := by decide +kernel
theorem dL_law_894 : decode cL_law 894 = .ok (.if_icmp .eq 5, 3) := by decide +kernel
theorem dL_law_897 : decode cL_law 897 = .ok (.iconst 0, 1) := by decide +kernel
theorem dL_law_898 : decode cL_law 898 = .ok (.ireturn, 1) := by decide +kernel
theorem dL_law_899 : decode cL_law 899 = .ok (.iload 6, 2) := by decide +kernel
theorem dL_law_901 : decode cL_law 901 = .ok (.ifCond .ne 15, 3) := by decide +kernel
theorem dL_law_904 : decode cL_law 904 = .ok (.aload_n 3, 1) := by decide +kernel
theorem dL_law_905 : decode cL_law 905 = .ok (.iconst 0, 1) := by decide +kernel
theorem dL_law_906 : decode cL_law 906 = .ok (.laload, 1) := by decide +kernel
theorem dL_law_907 : decode cL_law 907 = .ok (.iload 7, 2) := by decide +kernel
theorem dL_law_909 : decode cL_law 909 = .ok (.i2l, 1) := by decide +kernel
theorem dL_law_910 : decode cL_law 910 = .ok (.lcmp, 1) := by decide +kernel
theorem dL_law_911 : decode cL_law 911 = .ok (.ifCond .eq 5, 3) := by decide +kernel
theorem dL_law_914 : decode cL_law 914 = .ok (.iconst 0, 1) := by decide +kernel
theorem dL_law_915 : decode cL_law 915 = .ok (.ireturn, 1) := by decide +kernel
theorem dL_law_916 : decode cL_law 916 = .ok (.goto 1217, 3) := by decide +kernel
def T_L_law_c10 (sp_L_copy sp_X9_copy sp_X9_thrown : List ab_V → ab_M → ab_O) : ab_T := [(851, some (s_aload 1 852)), (852, some (s_aload 0 853)), (853, some (s_iload 5 855)), (855, some (s_const (vI 1) 856)), (856, some (s_bin (· + ·) 857)), (857, some (s_ald 100 858)), (858, some (s_aload 0 859)), (859, some (s_iload 5 861)), (861, some (s_const (vI 2) 862)), (862, some (s_bin (· + ·) 863)), (863, some (s_ald 100 864)), (864, some (s_aload 3 865)), (865, some (s_call 999 sp_L_copy 4 [] 868)), (868, some (s_istore 6 870)), (870, some (s_aload 2 871)), (871, some (s_aload 0 872)), (872, some (s_iload 5 874)), (874, some (s_const (vI 1) 875)), (875, some (s_bin (· + ·) 876)), (876, some (s_ald 100 877)), (877, some (s_aload 0 878)), (878, some (s_iload 5 880)), (880, some (s_const (vI 2) 881)), (881, some (s_bin (· + ·) 882)), (882, some (s_ald 100 883)), (883, some (s_call 11 sp_X9_copy 3 [] 886)), (886, some (s_istore 7 888)), (888, some (s_aload 2 889)), (889, some (s_call 11 sp_X9_thrown 1 [] 892)), (892, some (s_iload 6 894)), (894, some (s_cmpeq 899 897)), (897, some (s_const (vI 0) 898)), (898, some (s_ret 1)), (899, some (s_iload 6 901)), (901, some (s_ifeq 904 916)), (904, some (s_aload 3 905)), (905, some (s_const (vI 0) 906)), (906, some (s_lald 907)), (907, some (s_iload 7 909)), (909, some (s_i2l 910)), (910, some (s_lcmp 911)), (911, some (s_ifeq 916 914)), (914, some (s_const (vI 0) 915)), (915, some (s_ret 1)), (916, some (s_goto 2133))]
set_option maxRecDepth 20000 in
theorem mt_L_law_c10 {sp_L_copy sp_X9_copy sp_X9_thrown : List ab_V → ab_M → ab_O} : MonoT (T_L_law_c10 sp_L_copy sp_X9_copy sp_X9_thrown) := MA_mem (And.intro mono_aload (And.intro mono_aload (And.intro mono_iload (And.intro mono_const (And.intro mono_bin (And.intro mono_ald (And.intro mono_aload (And.intro mono_iload (And.intro mono_const (And.intro mono_bin (And.intro mono_ald (And.intro mono_aload (And.intro mono_call (And.intro mono_istore (And.intro mono_aload (And.intro mono_aload (And.intro mono_iload (And.intro mono_const (And.intro mono_bin (And.intro mono_ald (And.intro mono_aload (And.intro mono_iload (And.intro mono_const (And.intro mono_bin (And.intro mono_ald (And.intro mono_call (And.intro mono_istore (And.intro mono_aload (And.intro mono_call (And.intro mono_iload (And.intro mono_cmpeq (And.intro mono_const (And.intro mono_ret (And.intro mono_iload (And.intro mono_ifeq (And.intro mono_aload (And.intro mono_const (And.intro mono_lald (And.intro mono_iload (And.intro mono_i2l (And.intro mono_lcmp (And.intro mono_ifeq (And.intro mono_const (And.intro mono_ret (And.intro mono_goto trivial)))))))))))))))))))))))))))))))))))))))))))))
set_option maxRecDepth 20000 in
set_option maxHeartbeats 4000000 in
theorem snd_L_law_c10 {l : Launch} {D : va_G} {cA : Nat → ClassId} {d : Nat} {sp_L_copy sp_X9_copy sp_X9_thrown : List ab_V → ab_M → ab_O} {d' : Nat} (hd9 : d' + 1 ≤ d) (hC_L_copy : ∀ as m, Ctr l D cA d' yL_copy (Cond.codeWith yL_copy cL_copy 5 (some .int) [(0, 10, 13, 13), (0, 10, 17, 15)] :: TB) as m (sp_L_copy as m)) (hC_X9_copy : ∀ as m, Ctr l D cA d' yX9_copy (Cond.code yX9_copy cX9_copy 5 (some .int) :: TB) as m (sp_X9_copy as m)) (hC_X9_thrown : ∀ as m, Ctr l D cA d' yX9_thrown (Cond.code yX9_thrown cX9_thrown 1 (some .int) :: TB) as m (sp_X9_thrown as m)) : Sound l D cA d 9 yL_law cL_law (some .boolean) [] (T_L_law_c10 sp_L_copy sp_X9_copy sp_X9_thrown) := by
  intro p e R s m args below meth c loc0 m0 r Q E hQ h0 hrt hnm htab
  exact SA_mem (And.intro (fun ls st mm h => so_aload_n E rfl dL_law_851 h) (And.intro (fun ls st mm h => so_aload_n E rfl dL_law_852 h) (And.intro (fun ls st mm h => so_iload E dL_law_853 h) (And.intro (fun ls st mm h => so_iconst E (by decide) dL_law_855 h) (And.intro (fun ls st mm h => so_iadd E dL_law_856 h) (And.intro (fun ls st mm h => so_iald E dL_law_857 h) (And.intro (fun ls st mm h => so_aload_n E rfl dL_law_858 h) (And.intro (fun ls st mm h => so_iload E dL_law_859 h) (And.intro (fun ls st mm h => so_iconst E (by decide) dL_law_861 h) (And.intro (fun ls st mm h => so_iadd E dL_law_862 h) (And.intro (fun ls st mm h => so_iald E dL_law_863 h) (And.intro (fun ls st mm h => so_aload_n E rfl dL_law_864 h) (And.intro (fun ls st mm h => so_callSX E hQ rfl (fun _ h => h) h0 (idx := 149) hd9 (by decide) hC_L_copy (hd_nil htab) tw_t3_223 tw_t3_224 tw_t1_0 tw_t3_225 (by decide +kernel) dL_law_865 h) (And.intro (fun ls st mm h => so_istore E dL_law_868 h) (And.intro (fun ls st mm h => so_aload_n E rfl dL_law_870 h) (And.intro (fun ls st mm h => so_aload_n E rfl dL_law_871 h) (And.intro (fun ls st mm h => so_iload E dL_law_872 h) (And.intro (fun ls st mm h => so_iconst E (by decide) dL_law_874 h) (And.intro (fun ls st mm h => so_iadd E dL_law_875 h) (And.intro (fun ls st mm h => so_iald E dL_law_876 h) (And.intro (fun ls st mm h => so_aload_n E rfl dL_law_877 h) (And.intro (fun ls st mm h => so_iload E dL_law_878 h) (And.intro (fun ls st mm h => so_iconst E (by decide) dL_law_880 h) (And.intro (fun ls st mm h => so_iadd E dL_law_881 h) (And.intro (fun ls st mm h => so_iald E dL_law_882 h) (And.intro (fun ls st mm h => so_callV E hQ rfl (fun _ h => h) h0 (idx := 151) (C := RX9) (T := TX9) (N := 10) rfl (by decide) (by decide) rfl hd9 (by decide) hC_X9_copy (hd_nil htab) tw_t6_41 tw_t6_42 tw_t6_43 tw_t1_8 tw_t6_44 (by decide +kernel) dL_law_883 h) (And.intro (fun ls st mm h => so_istore E dL_law_886 h) (And.intro (fun ls st mm h => so_aload_n E rfl dL_law_888 h) (And.intro (fun ls st mm h => so_callV E hQ rfl (fun _ h => h) h0 (idx := 115) (C := RX9) (T := TX9) (N := 10) rfl (by decide) (by decide) rfl hd9 (by decide) hC_X9_thrown (hd_nil htab) tw_t4_222 tw_t4_223 tw_t4_224 tw_t1_8 tw_t4_225 (by decide +kernel) dL_law_889 h) (And.intro (fun ls st mm h => so_iload E dL_law_892 h) (And.intro (fun ls st mm h => so_icmpeq E (tgt := 899) (by decide) dL_law_894 h) (And.intro (fun ls st mm h => so_iconst E (by decide) dL_law_897 h) (And.intro (fun ls st mm h => so_ireturn E hQ rfl (fun _ h => h) h0 (ty := .boolean) hrt (Or.inr ⟨rfl, rfl⟩) dL_law_898 h) (And.intro (fun ls st mm h => so_iload E dL_law_899 h) (And.intro (fun ls st mm h => so_ifne E (tgt := 916) (by decide) dL_law_901 h) (And.intro (fun ls st mm h => so_aload_n E rfl dL_law_904 h) (And.intro (fun ls st mm h => so_iconst E (by decide) dL_law_905 h) (And.intro (fun ls st mm h => so_lald E dL_law_906 h) (And.intro (fun ls st mm h => so_iload E dL_law_907 h) (And.intro (fun ls st mm h => so_i2l E dL_law_909 h) (And.intro (fun ls st mm h => so_lcmp E dL_law_910 h) (And.intro (fun ls st mm h => so_ifeq E (tgt := 916) (by decide) dL_law_911 h) (And.intro (fun ls st mm h => so_iconst E (by decide) dL_law_914 h) (And.intro (fun ls st mm h => so_ireturn E hQ rfl (fun _ h => h) h0 (ty := .boolean) hrt (Or.inr ⟨rfl, rfl⟩) dL_law_915 h) (And.intro (fun ls st mm h => so_goto E (tgt := 2133) (by decide) dL_law_916 h) (trivial))))))))))))))))))))))))))))))))))))))))))))))
theorem dL_law_919 : decode cL_law 919 = .ok (.aload_n 1, 1) := by decide +kernel
theorem dL_law_920 : decode cL_law 920 = .ok (.aload_n 0, 1) := by decide +kernel
theorem dL_law_921 : decode cL_law 921 = .ok (.iload 5, 2) := by decide +kernel
theorem dL_law_923 : decode cL_law 923 = .ok (.iconst 1, 1) := by decide +kernel
theorem dL_law_924 : decode cL_law 924 = .ok (.iadd, 1) := by decide +kernel
theorem dL_law_925 : decode cL_law 925 = .ok (.iaload, 1) := by decide +kernel
theorem dL_law_926 : decode cL_law 926 = .ok (.aload_n 0, 1) := by decide +kernel
theorem dL_law_927 : decode cL_law 927 = .ok (.iload 5, 2) := by decide +kernel
theorem dL_law_929 : decode cL_law 929 = .ok (.iconst 2, 1) := by decide +kernel
theorem dL_law_930 : decode cL_law 930 = .ok (.iadd, 1) := by decide +kernel
theorem dL_law_931 : decode cL_law 931 = .ok (.iaload, 1) := by decide +kernel
theorem dL_law_932 : decode cL_law 932 = .ok (.aload_n 3, 1) := by decide +kernel
theorem dL_law_933 : decode cL_law 933 = .ok (.invokestatic 152, 3) := by decide +kernel
theorem dL_law_936 : decode cL_law 936 = .ok (.istore 6, 2) := by decide +kernel
theorem dL_law_938 : decode cL_law 938 = .ok (.aload_n 2, 1) := by decide +kernel
theorem dL_law_939 : decode cL_law 939 = .ok (.aload_n 0, 1) := by decide +kernel
theorem dL_law_940 : decode cL_law 940 = .ok (.iload 5, 2) := by decide +kernel
theorem dL_law_942 : decode cL_law 942 = .ok (.iconst 1, 1) := by decide +kernel
theorem dL_law_943 : decode cL_law 943 = .ok (.iadd, 1) := by decide +kernel
theorem dL_law_944 : decode cL_law 944 = .ok (.iaload, 1) := by decide +kernel
theorem dL_law_945 : decode cL_law 945 = .ok (.aload_n 0, 1) := by decide +kernel
theorem dL_law_946 : decode cL_law 946 = .ok (.iload 5, 2) := by decide +kernel
theorem dL_law_948 : decode cL_law 948 = .ok (.iconst 2, 1) := by decide +kernel
theorem dL_law_949 : decode cL_law 949 = .ok (.iadd, 1) := by decide +kernel
theorem dL_law_950 : decode cL_law 950 = .ok (.iaload, 1) := by decide +kernel
theorem dL_law_951 : decode cL_law 951 = .ok (.invokevirtual 154, 3) := by decide +kernel
theorem dL_law_954 : decode cL_law 954 = .ok (.istore 7, 2) := by decide +kernel
theorem dL_law_956 : decode cL_law 956 = .ok (.aload_n 2, 1) := by decide +kernel
theorem dL_law_957 : decode cL_law 957 = .ok (.invokevirtual 115, 3) := by decide +kernel
theorem dL_law_960 : decode cL_law 960 = .ok (.iload 6, 2) := by decide +kernel
theorem dL_law_962 : decode cL_law 962 = .ok (.if_icmp .eq 5, 3) := by decide +kernel
theorem dL_law_965 : decode cL_law 965 = .ok (.iconst 0, 1) := by decide +kernel
theorem dL_law_966 : decode cL_law 966 = .ok (.ireturn, 1) := by decide +kernel
theorem dL_law_967 : decode cL_law 967 = .ok (.iload 6, 2) := by decide +kernel
theorem dL_law_969 : decode cL_law 969 = .ok (.ifCond .ne 15, 3) := by decide +kernel
theorem dL_law_972 : decode cL_law 972 = .ok (.aload_n 3, 1) := by decide +kernel
theorem dL_law_973 : decode cL_law 973 = .ok (.iconst 0, 1) := by decide +kernel
theorem dL_law_974 : decode cL_law 974 = .ok (.laload, 1) := by decide +kernel
theorem dL_law_975 : decode cL_law 975 = .ok (.iload 7, 2) := by decide +kernel
theorem dL_law_977 : decode cL_law 977 = .ok (.i2l, 1) := by decide +kernel
theorem dL_law_978 : decode cL_law 978 = .ok (.lcmp, 1) := by decide +kernel
theorem dL_law_979 : decode cL_law 979 = .ok (.ifCond .eq 5, 3) := by decide +kernel
theorem dL_law_982 : decode cL_law 982 = .ok (.iconst 0, 1) := by decide +kernel
theorem dL_law_983 : decode cL_law 983 = .ok (.ireturn, 1) := by decide +kernel
theorem dL_law_984 : decode cL_law 984 = .ok (.goto 1149, 3) := by decide +kernel
def T_L_law_c11 (sp_L_rebuild sp_X9_rebuild sp_X9_thrown : List ab_V → ab_M → ab_O) : ab_T := [(919, some (s_aload 1 920)), (920, some (s_aload 0 921)), (921, some (s_iload 5 923)), (923, some (s_const (vI 1) 924)), (924, some (s_bin (· + ·) 925)), (925, some (s_ald 100 926)), (926, some (s_aload 0 927)), (927, some (s_iload 5 929)), (929, some (s_const (vI 2) 930)), (930, some (s_bin (· + ·) 931)), (931, some (s_ald 100 932)), (932, some (s_aload 3 933)), (933, some (s_call 999 sp_L_rebuild 4 [] 936)), (936, some (s_istore 6 938)), (938, some (s_aload 2 939)), (939, some (s_aload 0 940)), (940, some (s_iload 5 942)), (942, some (s_const (vI 1) 943)), (943, some (s_bin (· + ·) 944)), (944, some (s_ald 100 945)), (945, some (s_aload 0 946)), (946, some (s_iload 5 948)), (948, some (s_const (vI 2) 949)), (949, some (s_bin (· + ·) 950)), (950, some (s_ald 100 951)), (951, some (s_call 11 sp_X9_rebuild 3 [] 954)), (954, some (s_istore 7 956)), (956, some (s_aload 2 957)), (957, some (s_call 11 sp_X9_thrown 1 [] 960)), (960, some (s_iload 6 962)), (962, some (s_cmpeq 967 965)), (965, some (s_const (vI 0) 966)), (966, some (s_ret 1)), (967, some (s_iload 6 969)), (969, some (s_ifeq 972 984)), (972, some (s_aload 3 973)), (973, some (s_const (vI 0) 974)), (974, some (s_lald 975)), (975, some (s_iload 7 977)), (977, some (s_i2l 978)), (978, some (s_lcmp 979)), (979, some (s_ifeq 984 982)), (982, some (s_const (vI 0) 983)), (983, some (s_ret 1)), (984, some (s_goto 2133))]
set_option maxRecDepth 20000 in
theorem mt_L_law_c11 {sp_L_rebuild sp_X9_rebuild sp_X9_thrown : List ab_V → ab_M → ab_O} : MonoT (T_L_law_c11 sp_L_rebuild sp_X9_rebuild sp_X9_thrown) := MA_mem (And.intro mono_aload (And.intro mono_aload (And.intro mono_iload (And.intro mono_const (And.intro mono_bin (And.intro mono_ald (And.intro mono_aload (And.intro mono_iload (And.intro mono_const (And.intro mono_bin (And.intro mono_ald (And.intro mono_aload (And.intro mono_call (And.intro mono_istore (And.intro mono_aload (And.intro mono_aload (And.intro mono_iload (And.intro mono_const (And.intro mono_bin (And.intro mono_ald (And.intro mono_aload (And.intro mono_iload (And.intro mono_const (And.intro mono_bin (And.intro mono_ald (And.intro mono_call (And.intro mono_istore (And.intro mono_aload (And.intro mono_call (And.intro mono_iload (And.intro mono_cmpeq (And.intro mono_const (And.intro mono_ret (And.intro mono_iload (And.intro mono_ifeq (And.intro mono_aload (And.intro mono_const (And.intro mono_lald (And.intro mono_iload (And.intro mono_i2l (And.intro mono_lcmp (And.intro mono_ifeq (And.intro mono_const (And.intro mono_ret (And.intro mono_goto trivial)))))))))))))))))))))))))))))))))))))))))))))
set_option maxRecDepth 20000 in
set_option maxHeartbeats 4000000 in
theorem snd_L_law_c11 {l : Launch} {D : va_G} {cA : Nat → ClassId} {d : Nat} {sp_L_rebuild sp_X9_rebuild sp_X9_thrown : List ab_V → ab_M → ab_O} {d' : Nat} (hd9 : d' + 1 ≤ d) (hC_L_rebuild : ∀ as m, Ctr l D cA d' yL_rebuild (Cond.codeWith yL_rebuild cL_rebuild 5 (some .int) [(0, 10, 13, 13), (0, 10, 17, 15)] :: TB) as m (sp_L_rebuild as m)) (hC_X9_rebuild : ∀ as m, Ctr l D cA d' yX9_rebuild (Cond.code yX9_rebuild cX9_rebuild 5 (some .int) :: TB) as m (sp_X9_rebuild as m)) (hC_X9_thrown : ∀ as m, Ctr l D cA d' yX9_thrown (Cond.code yX9_thrown cX9_thrown 1 (some .int) :: TB) as m (sp_X9_thrown as m)) : Sound l D cA d 9 yL_law cL_law (some .boolean) [] (T_L_law_c11 sp_L_rebuild sp_X9_rebuild sp_X9_thrown) := by
  intro p e R s m args below meth c loc0 m0 r Q E hQ h0 hrt hnm htab
  exact SA_mem (And.intro (fun ls st mm h => so_aload_n E rfl dL_law_919 h) (And.intro (fun ls st mm h => so_aload_n E rfl dL_law_920 h) (And.intro (fun ls st mm h => so_iload E dL_law_921 h) (And.intro (fun ls st mm h => so_iconst E (by decide) dL_law_923 h) (And.intro (fun ls st mm h => so_iadd E dL_law_924 h) (And.intro (fun ls st mm h => so_iald E dL_law_925 h) (And.intro (fun ls st mm h => so_aload_n E rfl dL_law_926 h) (And.intro (fun ls st mm h => so_iload E dL_law_927 h) (And.intro (fun ls st mm h => so_iconst E (by decide) dL_law_929 h) (And.intro (fun ls st mm h => so_iadd E dL_law_930 h) (And.intro (fun ls st mm h => so_iald E dL_law_931 h) (And.intro (fun ls st mm h => so_aload_n E rfl dL_law_932 h) (And.intro (fun ls st mm h => so_callSX E hQ rfl (fun _ h => h) h0 (idx := 152) hd9 (by decide) hC_L_rebuild (hd_nil htab) tw_t3_231 tw_t3_232 tw_t1_0 tw_t3_233 (by decide +kernel) dL_law_933 h) (And.intro (fun ls st mm h => so_istore E dL_law_936 h) (And.intro (fun ls st mm h => so_aload_n E rfl dL_law_938 h) (And.intro (fun ls st mm h => so_aload_n E rfl dL_law_939 h) (And.intro (fun ls st mm h => so_iload E dL_law_940 h) (And.intro (fun ls st mm h => so_iconst E (by decide) dL_law_942 h) (And.intro (fun ls st mm h => so_iadd E dL_law_943 h) (And.intro (fun ls st mm h => so_iald E dL_law_944 h) (And.intro (fun ls st mm h => so_aload_n E rfl dL_law_945 h) (And.intro (fun ls st mm h => so_iload E dL_law_946 h) (And.intro (fun ls st mm h => so_iconst E (by decide) dL_law_948 h) (And.intro (fun ls st mm h => so_iadd E dL_law_949 h) (And.intro (fun ls st mm h => so_iald E dL_law_950 h) (And.intro (fun ls st mm h => so_callV E hQ rfl (fun _ h => h) h0 (idx := 154) (C := RX9) (T := TX9) (N := 10) rfl (by decide) (by decide) rfl hd9 (by decide) hC_X9_rebuild (hd_nil htab) tw_t6_45 tw_t6_46 tw_t6_47 tw_t1_8 tw_t6_48 (by decide +kernel) dL_law_951 h) (And.intro (fun ls st mm h => so_istore E dL_law_954 h) (And.intro (fun ls st mm h => so_aload_n E rfl dL_law_956 h) (And.intro (fun ls st mm h => so_callV E hQ rfl (fun _ h => h) h0 (idx := 115) (C := RX9) (T := TX9) (N := 10) rfl (by decide) (by decide) rfl hd9 (by decide) hC_X9_thrown (hd_nil htab) tw_t4_222 tw_t4_223 tw_t4_224 tw_t1_8 tw_t4_225 (by decide +kernel) dL_law_957 h) (And.intro (fun ls st mm h => so_iload E dL_law_960 h) (And.intro (fun ls st mm h => so_icmpeq E (tgt := 967) (by decide) dL_law_962 h) (And.intro (fun ls st mm h => so_iconst E (by decide) dL_law_965 h) (And.intro (fun ls st mm h => so_ireturn E hQ rfl (fun _ h => h) h0 (ty := .boolean) hrt (Or.inr ⟨rfl, rfl⟩) dL_law_966 h) (And.intro (fun ls st mm h => so_iload E dL_law_967 h) (And.intro (fun ls st mm h => so_ifne E (tgt := 984) (by decide) dL_law_969 h) (And.intro (fun ls st mm h => so_aload_n E rfl dL_law_972 h) (And.intro (fun ls st mm h => so_iconst E (by decide) dL_law_973 h) (And.intro (fun ls st mm h => so_lald E dL_law_974 h) (And.intro (fun ls st mm h => so_iload E dL_law_975 h) (And.intro (fun ls st mm h => so_i2l E dL_law_977 h) (And.intro (fun ls st mm h => so_lcmp E dL_law_978 h) (And.intro (fun ls st mm h => so_ifeq E (tgt := 984) (by decide) dL_law_979 h) (And.intro (fun ls st mm h => so_iconst E (by decide) dL_law_982 h) (And.intro (fun ls st mm h => so_ireturn E hQ rfl (fun _ h => h) h0 (ty := .boolean) hrt (Or.inr ⟨rfl, rfl⟩) dL_law_983 h) (And.intro (fun ls st mm h => so_goto E (tgt := 2133) (by decide) dL_law_984 h) (trivial))))))))))))))))))))))))))))))))))))))))))))))
