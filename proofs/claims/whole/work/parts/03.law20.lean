/-! THE LAW'S OWN BODY, instruction by instruction: 2914 to 2987 -/
def dl_35 : List (Nat × Instr × Nat) := [(2914, .laload, 1), (2915, .iload 6, 2), (2917, .i2l, 1), (2918, .lcmp, 1), (2919, .ifCond .eq 5, 3), (2922, .iconst 0, 1), (2923, .ireturn, 1), (2924, .goto 332, 3), (2927, .aload_n 1, 1), (2928, .aload_n 0, 1), (2929, .iload 4, 2), (2931, .iconst 1, 1), (2932, .iadd, 1), (2933, .iaload, 1), (2934, .aload_n 0, 1), (2935, .iload 4, 2), (2937, .iconst 2, 1), (2938, .iadd, 1), (2939, .iaload, 1), (2940, .aload_n 3, 1), (2941, .invokestatic 324, 3), (2944, .istore 5, 2), (2946, .aload_n 2, 1), (2947, .aload_n 0, 1), (2948, .iload 4, 2), (2950, .iconst 1, 1), (2951, .iadd, 1), (2952, .iaload, 1), (2953, .aload_n 0, 1), (2954, .iload 4, 2), (2956, .iconst 2, 1), (2957, .iadd, 1), (2958, .iaload, 1), (2959, .invokevirtual 326, 3), (2962, .istore 6, 2), (2964, .aload_n 2, 1), (2965, .invokevirtual 179, 3), (2968, .iload 5, 2), (2970, .if_icmp .eq 5, 3), (2973, .iconst 0, 1), (2974, .ireturn, 1), (2975, .iload 5, 2), (2977, .ifCond .ne 15, 3), (2980, .aload_n 3, 1), (2981, .iconst 0, 1), (2982, .laload, 1), (2983, .iload 6, 2), (2985, .i2l, 1), (2986, .lcmp, 1), (2987, .ifCond .eq 5, 3)]
theorem dl_35_ok : ∀ q ∈ dl_35, decode code q.1 = .ok (q.2.1, q.2.2) := by decide +kernel
theorem dl_35_x (k : Nat) {pc : Nat} {i : Instr} {n : Nat} (h : dl_35[k]? = some (pc, i, n)) : decode code pc = .ok (i, n) := dl_35_ok (pc, i, n) (List.mem_of_getElem? h)
theorem dM_2914 : decode code 2914 = .ok (.laload, 1) := dl_35_x 0 rfl
theorem dM_2915 : decode code 2915 = .ok (.iload 6, 2) := dl_35_x 1 rfl
theorem dM_2917 : decode code 2917 = .ok (.i2l, 1) := dl_35_x 2 rfl
theorem dM_2918 : decode code 2918 = .ok (.lcmp, 1) := dl_35_x 3 rfl
theorem dM_2919 : decode code 2919 = .ok (.ifCond .eq 5, 3) := dl_35_x 4 rfl
theorem dM_2922 : decode code 2922 = .ok (.iconst 0, 1) := dl_35_x 5 rfl
theorem dM_2923 : decode code 2923 = .ok (.ireturn, 1) := dl_35_x 6 rfl
theorem dM_2924 : decode code 2924 = .ok (.goto 332, 3) := dl_35_x 7 rfl
theorem dM_2927 : decode code 2927 = .ok (.aload_n 1, 1) := dl_35_x 8 rfl
theorem dM_2928 : decode code 2928 = .ok (.aload_n 0, 1) := dl_35_x 9 rfl
theorem dM_2929 : decode code 2929 = .ok (.iload 4, 2) := dl_35_x 10 rfl
theorem dM_2931 : decode code 2931 = .ok (.iconst 1, 1) := dl_35_x 11 rfl
theorem dM_2932 : decode code 2932 = .ok (.iadd, 1) := dl_35_x 12 rfl
theorem dM_2933 : decode code 2933 = .ok (.iaload, 1) := dl_35_x 13 rfl
theorem dM_2934 : decode code 2934 = .ok (.aload_n 0, 1) := dl_35_x 14 rfl
theorem dM_2935 : decode code 2935 = .ok (.iload 4, 2) := dl_35_x 15 rfl
theorem dM_2937 : decode code 2937 = .ok (.iconst 2, 1) := dl_35_x 16 rfl
theorem dM_2938 : decode code 2938 = .ok (.iadd, 1) := dl_35_x 17 rfl
theorem dM_2939 : decode code 2939 = .ok (.iaload, 1) := dl_35_x 18 rfl
theorem dM_2940 : decode code 2940 = .ok (.aload_n 3, 1) := dl_35_x 19 rfl
theorem dM_2941 : decode code 2941 = .ok (.invokestatic 324, 3) := dl_35_x 20 rfl
theorem dM_2944 : decode code 2944 = .ok (.istore 5, 2) := dl_35_x 21 rfl
theorem dM_2946 : decode code 2946 = .ok (.aload_n 2, 1) := dl_35_x 22 rfl
theorem dM_2947 : decode code 2947 = .ok (.aload_n 0, 1) := dl_35_x 23 rfl
theorem dM_2948 : decode code 2948 = .ok (.iload 4, 2) := dl_35_x 24 rfl
theorem dM_2950 : decode code 2950 = .ok (.iconst 1, 1) := dl_35_x 25 rfl
theorem dM_2951 : decode code 2951 = .ok (.iadd, 1) := dl_35_x 26 rfl
theorem dM_2952 : decode code 2952 = .ok (.iaload, 1) := dl_35_x 27 rfl
theorem dM_2953 : decode code 2953 = .ok (.aload_n 0, 1) := dl_35_x 28 rfl
theorem dM_2954 : decode code 2954 = .ok (.iload 4, 2) := dl_35_x 29 rfl
theorem dM_2956 : decode code 2956 = .ok (.iconst 2, 1) := dl_35_x 30 rfl
theorem dM_2957 : decode code 2957 = .ok (.iadd, 1) := dl_35_x 31 rfl
theorem dM_2958 : decode code 2958 = .ok (.iaload, 1) := dl_35_x 32 rfl
theorem dM_2959 : decode code 2959 = .ok (.invokevirtual 326, 3) := dl_35_x 33 rfl
theorem dM_2962 : decode code 2962 = .ok (.istore 6, 2) := dl_35_x 34 rfl
theorem dM_2964 : decode code 2964 = .ok (.aload_n 2, 1) := dl_35_x 35 rfl
theorem dM_2965 : decode code 2965 = .ok (.invokevirtual 179, 3) := dl_35_x 36 rfl
theorem dM_2968 : decode code 2968 = .ok (.iload 5, 2) := dl_35_x 37 rfl
theorem dM_2970 : decode code 2970 = .ok (.if_icmp .eq 5, 3) := dl_35_x 38 rfl
theorem dM_2973 : decode code 2973 = .ok (.iconst 0, 1) := dl_35_x 39 rfl
theorem dM_2974 : decode code 2974 = .ok (.ireturn, 1) := dl_35_x 40 rfl
theorem dM_2975 : decode code 2975 = .ok (.iload 5, 2) := dl_35_x 41 rfl
theorem dM_2977 : decode code 2977 = .ok (.ifCond .ne 15, 3) := dl_35_x 42 rfl
theorem dM_2980 : decode code 2980 = .ok (.aload_n 3, 1) := dl_35_x 43 rfl
theorem dM_2981 : decode code 2981 = .ok (.iconst 0, 1) := dl_35_x 44 rfl
theorem dM_2982 : decode code 2982 = .ok (.laload, 1) := dl_35_x 45 rfl
theorem dM_2983 : decode code 2983 = .ok (.iload 6, 2) := dl_35_x 46 rfl
theorem dM_2985 : decode code 2985 = .ok (.i2l, 1) := dl_35_x 47 rfl
theorem dM_2986 : decode code 2986 = .ok (.lcmp, 1) := dl_35_x 48 rfl
theorem dM_2987 : decode code 2987 = .ok (.ifCond .eq 5, 3) := dl_35_x 49 rfl
