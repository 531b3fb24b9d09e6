/-! THE LAW'S OWN BODY, instruction by instruction: 2838 to 2987 -/
def dl_17 : List (Nat × Instr × Nat) := [(2838, .iconst 0, 1), (2839, .ireturn, 1), (2840, .iload 5, 2), (2842, .ifCond .ne 14, 3), (2845, .aload_n 3, 1), (2846, .iconst 0, 1), (2847, .laload, 1), (2848, .lload 6, 2), (2850, .lcmp, 1), (2851, .ifCond .eq 5, 3), (2854, .iconst 0, 1), (2855, .ireturn, 1), (2856, .goto 400, 3), (2859, .aload_n 1, 1), (2860, .aload_n 0, 1), (2861, .iload 4, 2), (2863, .iconst 1, 1), (2864, .iadd, 1), (2865, .iaload, 1), (2866, .aload_n 0, 1), (2867, .iload 4, 2), (2869, .iconst 2, 1), (2870, .iadd, 1), (2871, .iaload, 1), (2872, .aload_n 3, 1), (2873, .invokestatic 321, 3), (2876, .istore 5, 2), (2878, .aload_n 2, 1), (2879, .aload_n 0, 1), (2880, .iload 4, 2), (2882, .iconst 1, 1), (2883, .iadd, 1), (2884, .iaload, 1), (2885, .aload_n 0, 1), (2886, .iload 4, 2), (2888, .iconst 2, 1), (2889, .iadd, 1), (2890, .iaload, 1), (2891, .invokevirtual 323, 3), (2894, .istore 6, 2), (2896, .aload_n 2, 1), (2897, .invokevirtual 179, 3), (2900, .iload 5, 2), (2902, .if_icmp .eq 5, 3), (2905, .iconst 0, 1), (2906, .ireturn, 1), (2907, .iload 5, 2), (2909, .ifCond .ne 15, 3), (2912, .aload_n 3, 1), (2913, .iconst 0, 1), (2914, .laload, 1), (2915, .iload 6, 2), (2917, .i2l, 1), (2918, .lcmp, 1), (2919, .ifCond .eq 5, 3), (2922, .iconst 0, 1), (2923, .ireturn, 1), (2924, .goto 332, 3), (2927, .aload_n 1, 1), (2928, .aload_n 0, 1), (2929, .iload 4, 2), (2931, .iconst 1, 1), (2932, .iadd, 1), (2933, .iaload, 1), (2934, .aload_n 0, 1), (2935, .iload 4, 2), (2937, .iconst 2, 1), (2938, .iadd, 1), (2939, .iaload, 1), (2940, .aload_n 3, 1), (2941, .invokestatic 324, 3), (2944, .istore 5, 2), (2946, .aload_n 2, 1), (2947, .aload_n 0, 1), (2948, .iload 4, 2), (2950, .iconst 1, 1), (2951, .iadd, 1), (2952, .iaload, 1), (2953, .aload_n 0, 1), (2954, .iload 4, 2), (2956, .iconst 2, 1), (2957, .iadd, 1), (2958, .iaload, 1), (2959, .invokevirtual 326, 3), (2962, .istore 6, 2), (2964, .aload_n 2, 1), (2965, .invokevirtual 179, 3), (2968, .iload 5, 2), (2970, .if_icmp .eq 5, 3), (2973, .iconst 0, 1), (2974, .ireturn, 1), (2975, .iload 5, 2), (2977, .ifCond .ne 15, 3), (2980, .aload_n 3, 1), (2981, .iconst 0, 1), (2982, .laload, 1), (2983, .iload 6, 2), (2985, .i2l, 1), (2986, .lcmp, 1), (2987, .ifCond .eq 5, 3)]
theorem dl_17_ok : ∀ q ∈ dl_17, decode code q.1 = .ok (q.2.1, q.2.2) := by decide +kernel
theorem dl_17_x (k : Nat) {pc : Nat} {i : Instr} {n : Nat} (h : dl_17[k]? = some (pc, i, n)) : decode code pc = .ok (i, n) := dl_17_ok (pc, i, n) (List.mem_of_getElem? h)
theorem dM_2838 : decode code 2838 = .ok (.iconst 0, 1) := dl_17_x 0 rfl
theorem dM_2839 : decode code 2839 = .ok (.ireturn, 1) := dl_17_x 1 rfl
theorem dM_2840 : decode code 2840 = .ok (.iload 5, 2) := dl_17_x 2 rfl
theorem dM_2842 : decode code 2842 = .ok (.ifCond .ne 14, 3) := dl_17_x 3 rfl
theorem dM_2845 : decode code 2845 = .ok (.aload_n 3, 1) := dl_17_x 4 rfl
theorem dM_2846 : decode code 2846 = .ok (.iconst 0, 1) := dl_17_x 5 rfl
theorem dM_2847 : decode code 2847 = .ok (.laload, 1) := dl_17_x 6 rfl
theorem dM_2848 : decode code 2848 = .ok (.lload 6, 2) := dl_17_x 7 rfl
theorem dM_2850 : decode code 2850 = .ok (.lcmp, 1) := dl_17_x 8 rfl
theorem dM_2851 : decode code 2851 = .ok (.ifCond .eq 5, 3) := dl_17_x 9 rfl
theorem dM_2854 : decode code 2854 = .ok (.iconst 0, 1) := dl_17_x 10 rfl
theorem dM_2855 : decode code 2855 = .ok (.ireturn, 1) := dl_17_x 11 rfl
theorem dM_2856 : decode code 2856 = .ok (.goto 400, 3) := dl_17_x 12 rfl
theorem dM_2859 : decode code 2859 = .ok (.aload_n 1, 1) := dl_17_x 13 rfl
theorem dM_2860 : decode code 2860 = .ok (.aload_n 0, 1) := dl_17_x 14 rfl
theorem dM_2861 : decode code 2861 = .ok (.iload 4, 2) := dl_17_x 15 rfl
theorem dM_2863 : decode code 2863 = .ok (.iconst 1, 1) := dl_17_x 16 rfl
theorem dM_2864 : decode code 2864 = .ok (.iadd, 1) := dl_17_x 17 rfl
theorem dM_2865 : decode code 2865 = .ok (.iaload, 1) := dl_17_x 18 rfl
theorem dM_2866 : decode code 2866 = .ok (.aload_n 0, 1) := dl_17_x 19 rfl
theorem dM_2867 : decode code 2867 = .ok (.iload 4, 2) := dl_17_x 20 rfl
theorem dM_2869 : decode code 2869 = .ok (.iconst 2, 1) := dl_17_x 21 rfl
theorem dM_2870 : decode code 2870 = .ok (.iadd, 1) := dl_17_x 22 rfl
theorem dM_2871 : decode code 2871 = .ok (.iaload, 1) := dl_17_x 23 rfl
theorem dM_2872 : decode code 2872 = .ok (.aload_n 3, 1) := dl_17_x 24 rfl
theorem dM_2873 : decode code 2873 = .ok (.invokestatic 321, 3) := dl_17_x 25 rfl
theorem dM_2876 : decode code 2876 = .ok (.istore 5, 2) := dl_17_x 26 rfl
theorem dM_2878 : decode code 2878 = .ok (.aload_n 2, 1) := dl_17_x 27 rfl
theorem dM_2879 : decode code 2879 = .ok (.aload_n 0, 1) := dl_17_x 28 rfl
theorem dM_2880 : decode code 2880 = .ok (.iload 4, 2) := dl_17_x 29 rfl
theorem dM_2882 : decode code 2882 = .ok (.iconst 1, 1) := dl_17_x 30 rfl
theorem dM_2883 : decode code 2883 = .ok (.iadd, 1) := dl_17_x 31 rfl
theorem dM_2884 : decode code 2884 = .ok (.iaload, 1) := dl_17_x 32 rfl
theorem dM_2885 : decode code 2885 = .ok (.aload_n 0, 1) := dl_17_x 33 rfl
theorem dM_2886 : decode code 2886 = .ok (.iload 4, 2) := dl_17_x 34 rfl
theorem dM_2888 : decode code 2888 = .ok (.iconst 2, 1) := dl_17_x 35 rfl
theorem dM_2889 : decode code 2889 = .ok (.iadd, 1) := dl_17_x 36 rfl
theorem dM_2890 : decode code 2890 = .ok (.iaload, 1) := dl_17_x 37 rfl
theorem dM_2891 : decode code 2891 = .ok (.invokevirtual 323, 3) := dl_17_x 38 rfl
theorem dM_2894 : decode code 2894 = .ok (.istore 6, 2) := dl_17_x 39 rfl
theorem dM_2896 : decode code 2896 = .ok (.aload_n 2, 1) := dl_17_x 40 rfl
theorem dM_2897 : decode code 2897 = .ok (.invokevirtual 179, 3) := dl_17_x 41 rfl
theorem dM_2900 : decode code 2900 = .ok (.iload 5, 2) := dl_17_x 42 rfl
theorem dM_2902 : decode code 2902 = .ok (.if_icmp .eq 5, 3) := dl_17_x 43 rfl
theorem dM_2905 : decode code 2905 = .ok (.iconst 0, 1) := dl_17_x 44 rfl
theorem dM_2906 : decode code 2906 = .ok (.ireturn, 1) := dl_17_x 45 rfl
theorem dM_2907 : decode code 2907 = .ok (.iload 5, 2) := dl_17_x 46 rfl
theorem dM_2909 : decode code 2909 = .ok (.ifCond .ne 15, 3) := dl_17_x 47 rfl
theorem dM_2912 : decode code 2912 = .ok (.aload_n 3, 1) := dl_17_x 48 rfl
theorem dM_2913 : decode code 2913 = .ok (.iconst 0, 1) := dl_17_x 49 rfl
theorem dM_2914 : decode code 2914 = .ok (.laload, 1) := dl_17_x 50 rfl
theorem dM_2915 : decode code 2915 = .ok (.iload 6, 2) := dl_17_x 51 rfl
theorem dM_2917 : decode code 2917 = .ok (.i2l, 1) := dl_17_x 52 rfl
theorem dM_2918 : decode code 2918 = .ok (.lcmp, 1) := dl_17_x 53 rfl
theorem dM_2919 : decode code 2919 = .ok (.ifCond .eq 5, 3) := dl_17_x 54 rfl
theorem dM_2922 : decode code 2922 = .ok (.iconst 0, 1) := dl_17_x 55 rfl
theorem dM_2923 : decode code 2923 = .ok (.ireturn, 1) := dl_17_x 56 rfl
theorem dM_2924 : decode code 2924 = .ok (.goto 332, 3) := dl_17_x 57 rfl
theorem dM_2927 : decode code 2927 = .ok (.aload_n 1, 1) := dl_17_x 58 rfl
theorem dM_2928 : decode code 2928 = .ok (.aload_n 0, 1) := dl_17_x 59 rfl
theorem dM_2929 : decode code 2929 = .ok (.iload 4, 2) := dl_17_x 60 rfl
theorem dM_2931 : decode code 2931 = .ok (.iconst 1, 1) := dl_17_x 61 rfl
theorem dM_2932 : decode code 2932 = .ok (.iadd, 1) := dl_17_x 62 rfl
theorem dM_2933 : decode code 2933 = .ok (.iaload, 1) := dl_17_x 63 rfl
theorem dM_2934 : decode code 2934 = .ok (.aload_n 0, 1) := dl_17_x 64 rfl
theorem dM_2935 : decode code 2935 = .ok (.iload 4, 2) := dl_17_x 65 rfl
theorem dM_2937 : decode code 2937 = .ok (.iconst 2, 1) := dl_17_x 66 rfl
theorem dM_2938 : decode code 2938 = .ok (.iadd, 1) := dl_17_x 67 rfl
theorem dM_2939 : decode code 2939 = .ok (.iaload, 1) := dl_17_x 68 rfl
theorem dM_2940 : decode code 2940 = .ok (.aload_n 3, 1) := dl_17_x 69 rfl
theorem dM_2941 : decode code 2941 = .ok (.invokestatic 324, 3) := dl_17_x 70 rfl
theorem dM_2944 : decode code 2944 = .ok (.istore 5, 2) := dl_17_x 71 rfl
theorem dM_2946 : decode code 2946 = .ok (.aload_n 2, 1) := dl_17_x 72 rfl
theorem dM_2947 : decode code 2947 = .ok (.aload_n 0, 1) := dl_17_x 73 rfl
theorem dM_2948 : decode code 2948 = .ok (.iload 4, 2) := dl_17_x 74 rfl
theorem dM_2950 : decode code 2950 = .ok (.iconst 1, 1) := dl_17_x 75 rfl
theorem dM_2951 : decode code 2951 = .ok (.iadd, 1) := dl_17_x 76 rfl
theorem dM_2952 : decode code 2952 = .ok (.iaload, 1) := dl_17_x 77 rfl
theorem dM_2953 : decode code 2953 = .ok (.aload_n 0, 1) := dl_17_x 78 rfl
theorem dM_2954 : decode code 2954 = .ok (.iload 4, 2) := dl_17_x 79 rfl
theorem dM_2956 : decode code 2956 = .ok (.iconst 2, 1) := dl_17_x 80 rfl
theorem dM_2957 : decode code 2957 = .ok (.iadd, 1) := dl_17_x 81 rfl
theorem dM_2958 : decode code 2958 = .ok (.iaload, 1) := dl_17_x 82 rfl
theorem dM_2959 : decode code 2959 = .ok (.invokevirtual 326, 3) := dl_17_x 83 rfl
theorem dM_2962 : decode code 2962 = .ok (.istore 6, 2) := dl_17_x 84 rfl
theorem dM_2964 : decode code 2964 = .ok (.aload_n 2, 1) := dl_17_x 85 rfl
theorem dM_2965 : decode code 2965 = .ok (.invokevirtual 179, 3) := dl_17_x 86 rfl
theorem dM_2968 : decode code 2968 = .ok (.iload 5, 2) := dl_17_x 87 rfl
theorem dM_2970 : decode code 2970 = .ok (.if_icmp .eq 5, 3) := dl_17_x 88 rfl
theorem dM_2973 : decode code 2973 = .ok (.iconst 0, 1) := dl_17_x 89 rfl
theorem dM_2974 : decode code 2974 = .ok (.ireturn, 1) := dl_17_x 90 rfl
theorem dM_2975 : decode code 2975 = .ok (.iload 5, 2) := dl_17_x 91 rfl
theorem dM_2977 : decode code 2977 = .ok (.ifCond .ne 15, 3) := dl_17_x 92 rfl
theorem dM_2980 : decode code 2980 = .ok (.aload_n 3, 1) := dl_17_x 93 rfl
theorem dM_2981 : decode code 2981 = .ok (.iconst 0, 1) := dl_17_x 94 rfl
theorem dM_2982 : decode code 2982 = .ok (.laload, 1) := dl_17_x 95 rfl
theorem dM_2983 : decode code 2983 = .ok (.iload 6, 2) := dl_17_x 96 rfl
theorem dM_2985 : decode code 2985 = .ok (.i2l, 1) := dl_17_x 97 rfl
theorem dM_2986 : decode code 2986 = .ok (.lcmp, 1) := dl_17_x 98 rfl
theorem dM_2987 : decode code 2987 = .ok (.ifCond .eq 5, 3) := dl_17_x 99 rfl
