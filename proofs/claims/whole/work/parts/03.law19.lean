/-! THE LAW'S OWN BODY, instruction by instruction: 2838 to 2913 -/
def dl_34 : List (Nat × Instr × Nat) := [(2838, .iconst 0, 1), (2839, .ireturn, 1), (2840, .iload 5, 2), (2842, .ifCond .ne 14, 3), (2845, .aload_n 3, 1), (2846, .iconst 0, 1), (2847, .laload, 1), (2848, .lload 6, 2), (2850, .lcmp, 1), (2851, .ifCond .eq 5, 3), (2854, .iconst 0, 1), (2855, .ireturn, 1), (2856, .goto 400, 3), (2859, .aload_n 1, 1), (2860, .aload_n 0, 1), (2861, .iload 4, 2), (2863, .iconst 1, 1), (2864, .iadd, 1), (2865, .iaload, 1), (2866, .aload_n 0, 1), (2867, .iload 4, 2), (2869, .iconst 2, 1), (2870, .iadd, 1), (2871, .iaload, 1), (2872, .aload_n 3, 1), (2873, .invokestatic 321, 3), (2876, .istore 5, 2), (2878, .aload_n 2, 1), (2879, .aload_n 0, 1), (2880, .iload 4, 2), (2882, .iconst 1, 1), (2883, .iadd, 1), (2884, .iaload, 1), (2885, .aload_n 0, 1), (2886, .iload 4, 2), (2888, .iconst 2, 1), (2889, .iadd, 1), (2890, .iaload, 1), (2891, .invokevirtual 323, 3), (2894, .istore 6, 2), (2896, .aload_n 2, 1), (2897, .invokevirtual 179, 3), (2900, .iload 5, 2), (2902, .if_icmp .eq 5, 3), (2905, .iconst 0, 1), (2906, .ireturn, 1), (2907, .iload 5, 2), (2909, .ifCond .ne 15, 3), (2912, .aload_n 3, 1), (2913, .iconst 0, 1)]
theorem dl_34_ok : ∀ q ∈ dl_34, decode code q.1 = .ok (q.2.1, q.2.2) := by decide +kernel
theorem dl_34_x (k : Nat) {pc : Nat} {i : Instr} {n : Nat} (h : dl_34[k]? = some (pc, i, n)) : decode code pc = .ok (i, n) := dl_34_ok (pc, i, n) (List.mem_of_getElem? h)
theorem dM_2838 : decode code 2838 = .ok (.iconst 0, 1) := dl_34_x 0 rfl
theorem dM_2839 : decode code 2839 = .ok (.ireturn, 1) := dl_34_x 1 rfl
theorem dM_2840 : decode code 2840 = .ok (.iload 5, 2) := dl_34_x 2 rfl
theorem dM_2842 : decode code 2842 = .ok (.ifCond .ne 14, 3) := dl_34_x 3 rfl
theorem dM_2845 : decode code 2845 = .ok (.aload_n 3, 1) := dl_34_x 4 rfl
theorem dM_2846 : decode code 2846 = .ok (.iconst 0, 1) := dl_34_x 5 rfl
theorem dM_2847 : decode code 2847 = .ok (.laload, 1) := dl_34_x 6 rfl
theorem dM_2848 : decode code 2848 = .ok (.lload 6, 2) := dl_34_x 7 rfl
theorem dM_2850 : decode code 2850 = .ok (.lcmp, 1) := dl_34_x 8 rfl
theorem dM_2851 : decode code 2851 = .ok (.ifCond .eq 5, 3) := dl_34_x 9 rfl
theorem dM_2854 : decode code 2854 = .ok (.iconst 0, 1) := dl_34_x 10 rfl
theorem dM_2855 : decode code 2855 = .ok (.ireturn, 1) := dl_34_x 11 rfl
theorem dM_2856 : decode code 2856 = .ok (.goto 400, 3) := dl_34_x 12 rfl
theorem dM_2859 : decode code 2859 = .ok (.aload_n 1, 1) := dl_34_x 13 rfl
theorem dM_2860 : decode code 2860 = .ok (.aload_n 0, 1) := dl_34_x 14 rfl
theorem dM_2861 : decode code 2861 = .ok (.iload 4, 2) := dl_34_x 15 rfl
theorem dM_2863 : decode code 2863 = .ok (.iconst 1, 1) := dl_34_x 16 rfl
theorem dM_2864 : decode code 2864 = .ok (.iadd, 1) := dl_34_x 17 rfl
theorem dM_2865 : decode code 2865 = .ok (.iaload, 1) := dl_34_x 18 rfl
theorem dM_2866 : decode code 2866 = .ok (.aload_n 0, 1) := dl_34_x 19 rfl
theorem dM_2867 : decode code 2867 = .ok (.iload 4, 2) := dl_34_x 20 rfl
theorem dM_2869 : decode code 2869 = .ok (.iconst 2, 1) := dl_34_x 21 rfl
theorem dM_2870 : decode code 2870 = .ok (.iadd, 1) := dl_34_x 22 rfl
theorem dM_2871 : decode code 2871 = .ok (.iaload, 1) := dl_34_x 23 rfl
theorem dM_2872 : decode code 2872 = .ok (.aload_n 3, 1) := dl_34_x 24 rfl
theorem dM_2873 : decode code 2873 = .ok (.invokestatic 321, 3) := dl_34_x 25 rfl
theorem dM_2876 : decode code 2876 = .ok (.istore 5, 2) := dl_34_x 26 rfl
theorem dM_2878 : decode code 2878 = .ok (.aload_n 2, 1) := dl_34_x 27 rfl
theorem dM_2879 : decode code 2879 = .ok (.aload_n 0, 1) := dl_34_x 28 rfl
theorem dM_2880 : decode code 2880 = .ok (.iload 4, 2) := dl_34_x 29 rfl
theorem dM_2882 : decode code 2882 = .ok (.iconst 1, 1) := dl_34_x 30 rfl
theorem dM_2883 : decode code 2883 = .ok (.iadd, 1) := dl_34_x 31 rfl
theorem dM_2884 : decode code 2884 = .ok (.iaload, 1) := dl_34_x 32 rfl
theorem dM_2885 : decode code 2885 = .ok (.aload_n 0, 1) := dl_34_x 33 rfl
theorem dM_2886 : decode code 2886 = .ok (.iload 4, 2) := dl_34_x 34 rfl
theorem dM_2888 : decode code 2888 = .ok (.iconst 2, 1) := dl_34_x 35 rfl
theorem dM_2889 : decode code 2889 = .ok (.iadd, 1) := dl_34_x 36 rfl
theorem dM_2890 : decode code 2890 = .ok (.iaload, 1) := dl_34_x 37 rfl
theorem dM_2891 : decode code 2891 = .ok (.invokevirtual 323, 3) := dl_34_x 38 rfl
theorem dM_2894 : decode code 2894 = .ok (.istore 6, 2) := dl_34_x 39 rfl
theorem dM_2896 : decode code 2896 = .ok (.aload_n 2, 1) := dl_34_x 40 rfl
theorem dM_2897 : decode code 2897 = .ok (.invokevirtual 179, 3) := dl_34_x 41 rfl
theorem dM_2900 : decode code 2900 = .ok (.iload 5, 2) := dl_34_x 42 rfl
theorem dM_2902 : decode code 2902 = .ok (.if_icmp .eq 5, 3) := dl_34_x 43 rfl
theorem dM_2905 : decode code 2905 = .ok (.iconst 0, 1) := dl_34_x 44 rfl
theorem dM_2906 : decode code 2906 = .ok (.ireturn, 1) := dl_34_x 45 rfl
theorem dM_2907 : decode code 2907 = .ok (.iload 5, 2) := dl_34_x 46 rfl
theorem dM_2909 : decode code 2909 = .ok (.ifCond .ne 15, 3) := dl_34_x 47 rfl
theorem dM_2912 : decode code 2912 = .ok (.aload_n 3, 1) := dl_34_x 48 rfl
theorem dM_2913 : decode code 2913 = .ok (.iconst 0, 1) := dl_34_x 49 rfl
