/-! THE LAW'S OWN BODY, instruction by instruction: 699 to 854 -/
def dl_3 : List (Nat × Instr × Nat) := [(699, .iload 5, 2), (701, .if_icmp .eq 5, 3), (704, .iconst 0, 1), (705, .ireturn, 1), (706, .iload 5, 2), (708, .ifCond .ne 15, 3), (711, .aload_n 3, 1), (712, .iconst 0, 1), (713, .laload, 1), (714, .iload 6, 2), (716, .i2l, 1), (717, .lcmp, 1), (718, .ifCond .eq 5, 3), (721, .iconst 0, 1), (722, .ireturn, 1), (723, .goto 2533, 3), (726, .aload_n 1, 1), (727, .aload_n 0, 1), (728, .iload 4, 2), (730, .iconst 1, 1), (731, .iadd, 1), (732, .iaload, 1), (733, .aload_n 3, 1), (734, .invokestatic 195, 3), (737, .istore 5, 2), (739, .aload_n 2, 1), (740, .aload_n 0, 1), (741, .iload 4, 2), (743, .iconst 1, 1), (744, .iadd, 1), (745, .iaload, 1), (746, .invokevirtual 197, 3), (749, .istore 6, 2), (751, .aload_n 2, 1), (752, .invokevirtual 179, 3), (755, .iload 5, 2), (757, .if_icmp .eq 5, 3), (760, .iconst 0, 1), (761, .ireturn, 1), (762, .iload 5, 2), (764, .ifCond .ne 15, 3), (767, .aload_n 3, 1), (768, .iconst 0, 1), (769, .laload, 1), (770, .iload 6, 2), (772, .i2l, 1), (773, .lcmp, 1), (774, .ifCond .eq 5, 3), (777, .iconst 0, 1), (778, .ireturn, 1), (779, .goto 2477, 3), (782, .aload_n 1, 1), (783, .aload_n 0, 1), (784, .iload 4, 2), (786, .iconst 1, 1), (787, .iadd, 1), (788, .iaload, 1), (789, .aload_n 3, 1), (790, .invokestatic 198, 3), (793, .istore 5, 2), (795, .aload_n 2, 1), (796, .aload_n 0, 1), (797, .iload 4, 2), (799, .iconst 1, 1), (800, .iadd, 1), (801, .iaload, 1), (802, .invokevirtual 200, 3), (805, .istore 6, 2), (807, .aload_n 2, 1), (808, .invokevirtual 179, 3), (811, .iload 5, 2), (813, .if_icmp .eq 5, 3), (816, .iconst 0, 1), (817, .ireturn, 1), (818, .iload 5, 2), (820, .ifCond .ne 15, 3), (823, .aload_n 3, 1), (824, .iconst 0, 1), (825, .laload, 1), (826, .iload 6, 2), (828, .i2l, 1), (829, .lcmp, 1), (830, .ifCond .eq 5, 3), (833, .iconst 0, 1), (834, .ireturn, 1), (835, .goto 2421, 3), (838, .aload_n 1, 1), (839, .aload_n 0, 1), (840, .iload 4, 2), (842, .iconst 1, 1), (843, .iadd, 1), (844, .iaload, 1), (845, .aload_n 0, 1), (846, .iload 4, 2), (848, .iconst 2, 1), (849, .iadd, 1), (850, .iaload, 1), (851, .aload_n 0, 1), (852, .iload 4, 2), (854, .iconst 3, 1)]
theorem dl_3_ok : ∀ q ∈ dl_3, decode code q.1 = .ok (q.2.1, q.2.2) := by decide +kernel
theorem dl_3_x (k : Nat) {pc : Nat} {i : Instr} {n : Nat} (h : dl_3[k]? = some (pc, i, n)) : decode code pc = .ok (i, n) := dl_3_ok (pc, i, n) (List.mem_of_getElem? h)
theorem dM_699 : decode code 699 = .ok (.iload 5, 2) := dl_3_x 0 rfl
theorem dM_701 : decode code 701 = .ok (.if_icmp .eq 5, 3) := dl_3_x 1 rfl
theorem dM_704 : decode code 704 = .ok (.iconst 0, 1) := dl_3_x 2 rfl
theorem dM_705 : decode code 705 = .ok (.ireturn, 1) := dl_3_x 3 rfl
theorem dM_706 : decode code 706 = .ok (.iload 5, 2) := dl_3_x 4 rfl
theorem dM_708 : decode code 708 = .ok (.ifCond .ne 15, 3) := dl_3_x 5 rfl
theorem dM_711 : decode code 711 = .ok (.aload_n 3, 1) := dl_3_x 6 rfl
theorem dM_712 : decode code 712 = .ok (.iconst 0, 1) := dl_3_x 7 rfl
theorem dM_713 : decode code 713 = .ok (.laload, 1) := dl_3_x 8 rfl
theorem dM_714 : decode code 714 = .ok (.iload 6, 2) := dl_3_x 9 rfl
theorem dM_716 : decode code 716 = .ok (.i2l, 1) := dl_3_x 10 rfl
theorem dM_717 : decode code 717 = .ok (.lcmp, 1) := dl_3_x 11 rfl
theorem dM_718 : decode code 718 = .ok (.ifCond .eq 5, 3) := dl_3_x 12 rfl
theorem dM_721 : decode code 721 = .ok (.iconst 0, 1) := dl_3_x 13 rfl
theorem dM_722 : decode code 722 = .ok (.ireturn, 1) := dl_3_x 14 rfl
theorem dM_723 : decode code 723 = .ok (.goto 2533, 3) := dl_3_x 15 rfl
theorem dM_726 : decode code 726 = .ok (.aload_n 1, 1) := dl_3_x 16 rfl
theorem dM_727 : decode code 727 = .ok (.aload_n 0, 1) := dl_3_x 17 rfl
theorem dM_728 : decode code 728 = .ok (.iload 4, 2) := dl_3_x 18 rfl
theorem dM_730 : decode code 730 = .ok (.iconst 1, 1) := dl_3_x 19 rfl
theorem dM_731 : decode code 731 = .ok (.iadd, 1) := dl_3_x 20 rfl
theorem dM_732 : decode code 732 = .ok (.iaload, 1) := dl_3_x 21 rfl
theorem dM_733 : decode code 733 = .ok (.aload_n 3, 1) := dl_3_x 22 rfl
theorem dM_734 : decode code 734 = .ok (.invokestatic 195, 3) := dl_3_x 23 rfl
theorem dM_737 : decode code 737 = .ok (.istore 5, 2) := dl_3_x 24 rfl
theorem dM_739 : decode code 739 = .ok (.aload_n 2, 1) := dl_3_x 25 rfl
theorem dM_740 : decode code 740 = .ok (.aload_n 0, 1) := dl_3_x 26 rfl
theorem dM_741 : decode code 741 = .ok (.iload 4, 2) := dl_3_x 27 rfl
theorem dM_743 : decode code 743 = .ok (.iconst 1, 1) := dl_3_x 28 rfl
theorem dM_744 : decode code 744 = .ok (.iadd, 1) := dl_3_x 29 rfl
theorem dM_745 : decode code 745 = .ok (.iaload, 1) := dl_3_x 30 rfl
theorem dM_746 : decode code 746 = .ok (.invokevirtual 197, 3) := dl_3_x 31 rfl
theorem dM_749 : decode code 749 = .ok (.istore 6, 2) := dl_3_x 32 rfl
theorem dM_751 : decode code 751 = .ok (.aload_n 2, 1) := dl_3_x 33 rfl
theorem dM_752 : decode code 752 = .ok (.invokevirtual 179, 3) := dl_3_x 34 rfl
theorem dM_755 : decode code 755 = .ok (.iload 5, 2) := dl_3_x 35 rfl
theorem dM_757 : decode code 757 = .ok (.if_icmp .eq 5, 3) := dl_3_x 36 rfl
theorem dM_760 : decode code 760 = .ok (.iconst 0, 1) := dl_3_x 37 rfl
theorem dM_761 : decode code 761 = .ok (.ireturn, 1) := dl_3_x 38 rfl
theorem dM_762 : decode code 762 = .ok (.iload 5, 2) := dl_3_x 39 rfl
theorem dM_764 : decode code 764 = .ok (.ifCond .ne 15, 3) := dl_3_x 40 rfl
theorem dM_767 : decode code 767 = .ok (.aload_n 3, 1) := dl_3_x 41 rfl
theorem dM_768 : decode code 768 = .ok (.iconst 0, 1) := dl_3_x 42 rfl
theorem dM_769 : decode code 769 = .ok (.laload, 1) := dl_3_x 43 rfl
theorem dM_770 : decode code 770 = .ok (.iload 6, 2) := dl_3_x 44 rfl
theorem dM_772 : decode code 772 = .ok (.i2l, 1) := dl_3_x 45 rfl
theorem dM_773 : decode code 773 = .ok (.lcmp, 1) := dl_3_x 46 rfl
theorem dM_774 : decode code 774 = .ok (.ifCond .eq 5, 3) := dl_3_x 47 rfl
theorem dM_777 : decode code 777 = .ok (.iconst 0, 1) := dl_3_x 48 rfl
theorem dM_778 : decode code 778 = .ok (.ireturn, 1) := dl_3_x 49 rfl
theorem dM_779 : decode code 779 = .ok (.goto 2477, 3) := dl_3_x 50 rfl
theorem dM_782 : decode code 782 = .ok (.aload_n 1, 1) := dl_3_x 51 rfl
theorem dM_783 : decode code 783 = .ok (.aload_n 0, 1) := dl_3_x 52 rfl
theorem dM_784 : decode code 784 = .ok (.iload 4, 2) := dl_3_x 53 rfl
theorem dM_786 : decode code 786 = .ok (.iconst 1, 1) := dl_3_x 54 rfl
theorem dM_787 : decode code 787 = .ok (.iadd, 1) := dl_3_x 55 rfl
theorem dM_788 : decode code 788 = .ok (.iaload, 1) := dl_3_x 56 rfl
theorem dM_789 : decode code 789 = .ok (.aload_n 3, 1) := dl_3_x 57 rfl
theorem dM_790 : decode code 790 = .ok (.invokestatic 198, 3) := dl_3_x 58 rfl
theorem dM_793 : decode code 793 = .ok (.istore 5, 2) := dl_3_x 59 rfl
theorem dM_795 : decode code 795 = .ok (.aload_n 2, 1) := dl_3_x 60 rfl
theorem dM_796 : decode code 796 = .ok (.aload_n 0, 1) := dl_3_x 61 rfl
theorem dM_797 : decode code 797 = .ok (.iload 4, 2) := dl_3_x 62 rfl
theorem dM_799 : decode code 799 = .ok (.iconst 1, 1) := dl_3_x 63 rfl
theorem dM_800 : decode code 800 = .ok (.iadd, 1) := dl_3_x 64 rfl
theorem dM_801 : decode code 801 = .ok (.iaload, 1) := dl_3_x 65 rfl
theorem dM_802 : decode code 802 = .ok (.invokevirtual 200, 3) := dl_3_x 66 rfl
theorem dM_805 : decode code 805 = .ok (.istore 6, 2) := dl_3_x 67 rfl
theorem dM_807 : decode code 807 = .ok (.aload_n 2, 1) := dl_3_x 68 rfl
theorem dM_808 : decode code 808 = .ok (.invokevirtual 179, 3) := dl_3_x 69 rfl
theorem dM_811 : decode code 811 = .ok (.iload 5, 2) := dl_3_x 70 rfl
theorem dM_813 : decode code 813 = .ok (.if_icmp .eq 5, 3) := dl_3_x 71 rfl
theorem dM_816 : decode code 816 = .ok (.iconst 0, 1) := dl_3_x 72 rfl
theorem dM_817 : decode code 817 = .ok (.ireturn, 1) := dl_3_x 73 rfl
theorem dM_818 : decode code 818 = .ok (.iload 5, 2) := dl_3_x 74 rfl
theorem dM_820 : decode code 820 = .ok (.ifCond .ne 15, 3) := dl_3_x 75 rfl
theorem dM_823 : decode code 823 = .ok (.aload_n 3, 1) := dl_3_x 76 rfl
theorem dM_824 : decode code 824 = .ok (.iconst 0, 1) := dl_3_x 77 rfl
theorem dM_825 : decode code 825 = .ok (.laload, 1) := dl_3_x 78 rfl
theorem dM_826 : decode code 826 = .ok (.iload 6, 2) := dl_3_x 79 rfl
theorem dM_828 : decode code 828 = .ok (.i2l, 1) := dl_3_x 80 rfl
theorem dM_829 : decode code 829 = .ok (.lcmp, 1) := dl_3_x 81 rfl
theorem dM_830 : decode code 830 = .ok (.ifCond .eq 5, 3) := dl_3_x 82 rfl
theorem dM_833 : decode code 833 = .ok (.iconst 0, 1) := dl_3_x 83 rfl
theorem dM_834 : decode code 834 = .ok (.ireturn, 1) := dl_3_x 84 rfl
theorem dM_835 : decode code 835 = .ok (.goto 2421, 3) := dl_3_x 85 rfl
theorem dM_838 : decode code 838 = .ok (.aload_n 1, 1) := dl_3_x 86 rfl
theorem dM_839 : decode code 839 = .ok (.aload_n 0, 1) := dl_3_x 87 rfl
theorem dM_840 : decode code 840 = .ok (.iload 4, 2) := dl_3_x 88 rfl
theorem dM_842 : decode code 842 = .ok (.iconst 1, 1) := dl_3_x 89 rfl
theorem dM_843 : decode code 843 = .ok (.iadd, 1) := dl_3_x 90 rfl
theorem dM_844 : decode code 844 = .ok (.iaload, 1) := dl_3_x 91 rfl
theorem dM_845 : decode code 845 = .ok (.aload_n 0, 1) := dl_3_x 92 rfl
theorem dM_846 : decode code 846 = .ok (.iload 4, 2) := dl_3_x 93 rfl
theorem dM_848 : decode code 848 = .ok (.iconst 2, 1) := dl_3_x 94 rfl
theorem dM_849 : decode code 849 = .ok (.iadd, 1) := dl_3_x 95 rfl
theorem dM_850 : decode code 850 = .ok (.iaload, 1) := dl_3_x 96 rfl
theorem dM_851 : decode code 851 = .ok (.aload_n 0, 1) := dl_3_x 97 rfl
theorem dM_852 : decode code 852 = .ok (.iload 4, 2) := dl_3_x 98 rfl
theorem dM_854 : decode code 854 = .ok (.iconst 3, 1) := dl_3_x 99 rfl
