/-! THE LAW'S OWN BODY, instruction by instruction: 2990 to 3143 -/
def dl_18 : List (Nat × Instr × Nat) := [(2990, .iconst 0, 1), (2991, .ireturn, 1), (2992, .goto 264, 3), (2995, .aload_n 1, 1), (2996, .aload_n 0, 1), (2997, .iload 4, 2), (2999, .iconst 1, 1), (3000, .iadd, 1), (3001, .iaload, 1), (3002, .aload_n 0, 1), (3003, .iload 4, 2), (3005, .iconst 2, 1), (3006, .iadd, 1), (3007, .iaload, 1), (3008, .aload_n 3, 1), (3009, .invokestatic 327, 3), (3012, .istore 5, 2), (3014, .aload_n 2, 1), (3015, .aload_n 0, 1), (3016, .iload 4, 2), (3018, .iconst 1, 1), (3019, .iadd, 1), (3020, .iaload, 1), (3021, .aload_n 0, 1), (3022, .iload 4, 2), (3024, .iconst 2, 1), (3025, .iadd, 1), (3026, .iaload, 1), (3027, .invokevirtual 329, 3), (3030, .istore 6, 2), (3032, .aload_n 2, 1), (3033, .invokevirtual 179, 3), (3036, .iload 5, 2), (3038, .if_icmp .eq 5, 3), (3041, .iconst 0, 1), (3042, .ireturn, 1), (3043, .iload 5, 2), (3045, .ifCond .ne 15, 3), (3048, .aload_n 3, 1), (3049, .iconst 0, 1), (3050, .laload, 1), (3051, .iload 6, 2), (3053, .i2l, 1), (3054, .lcmp, 1), (3055, .ifCond .eq 5, 3), (3058, .iconst 0, 1), (3059, .ireturn, 1), (3060, .goto 196, 3), (3063, .aload_n 1, 1), (3064, .aload_n 0, 1), (3065, .iload 4, 2), (3067, .iconst 1, 1), (3068, .iadd, 1), (3069, .iaload, 1), (3070, .aload_n 0, 1), (3071, .iload 4, 2), (3073, .iconst 2, 1), (3074, .iadd, 1), (3075, .iaload, 1), (3076, .aload_n 3, 1), (3077, .invokestatic 330, 3), (3080, .istore 5, 2), (3082, .aload_n 2, 1), (3083, .aload_n 0, 1), (3084, .iload 4, 2), (3086, .iconst 1, 1), (3087, .iadd, 1), (3088, .iaload, 1), (3089, .aload_n 0, 1), (3090, .iload 4, 2), (3092, .iconst 2, 1), (3093, .iadd, 1), (3094, .iaload, 1), (3095, .invokevirtual 332, 3), (3098, .istore 6, 2), (3100, .aload_n 2, 1), (3101, .invokevirtual 179, 3), (3104, .iload 5, 2), (3106, .if_icmp .eq 5, 3), (3109, .iconst 0, 1), (3110, .ireturn, 1), (3111, .iload 5, 2), (3113, .ifCond .ne 15, 3), (3116, .aload_n 3, 1), (3117, .iconst 0, 1), (3118, .laload, 1), (3119, .iload 6, 2), (3121, .i2l, 1), (3122, .lcmp, 1), (3123, .ifCond .eq 5, 3), (3126, .iconst 0, 1), (3127, .ireturn, 1), (3128, .goto 128, 3), (3131, .aload_n 1, 1), (3132, .invokevirtual 333, 3), (3135, .aload_n 2, 1), (3136, .invokevirtual 336, 3), (3139, .if_icmp .eq 117, 3), (3142, .iconst 0, 1), (3143, .ireturn, 1)]
theorem dl_18_ok : ∀ q ∈ dl_18, decode code q.1 = .ok (q.2.1, q.2.2) := by decide +kernel
theorem dl_18_x (k : Nat) {pc : Nat} {i : Instr} {n : Nat} (h : dl_18[k]? = some (pc, i, n)) : decode code pc = .ok (i, n) := dl_18_ok (pc, i, n) (List.mem_of_getElem? h)
theorem dM_2990 : decode code 2990 = .ok (.iconst 0, 1) := dl_18_x 0 rfl
theorem dM_2991 : decode code 2991 = .ok (.ireturn, 1) := dl_18_x 1 rfl
theorem dM_2992 : decode code 2992 = .ok (.goto 264, 3) := dl_18_x 2 rfl
theorem dM_2995 : decode code 2995 = .ok (.aload_n 1, 1) := dl_18_x 3 rfl
theorem dM_2996 : decode code 2996 = .ok (.aload_n 0, 1) := dl_18_x 4 rfl
theorem dM_2997 : decode code 2997 = .ok (.iload 4, 2) := dl_18_x 5 rfl
theorem dM_2999 : decode code 2999 = .ok (.iconst 1, 1) := dl_18_x 6 rfl
theorem dM_3000 : decode code 3000 = .ok (.iadd, 1) := dl_18_x 7 rfl
theorem dM_3001 : decode code 3001 = .ok (.iaload, 1) := dl_18_x 8 rfl
theorem dM_3002 : decode code 3002 = .ok (.aload_n 0, 1) := dl_18_x 9 rfl
theorem dM_3003 : decode code 3003 = .ok (.iload 4, 2) := dl_18_x 10 rfl
theorem dM_3005 : decode code 3005 = .ok (.iconst 2, 1) := dl_18_x 11 rfl
theorem dM_3006 : decode code 3006 = .ok (.iadd, 1) := dl_18_x 12 rfl
theorem dM_3007 : decode code 3007 = .ok (.iaload, 1) := dl_18_x 13 rfl
theorem dM_3008 : decode code 3008 = .ok (.aload_n 3, 1) := dl_18_x 14 rfl
theorem dM_3009 : decode code 3009 = .ok (.invokestatic 327, 3) := dl_18_x 15 rfl
theorem dM_3012 : decode code 3012 = .ok (.istore 5, 2) := dl_18_x 16 rfl
theorem dM_3014 : decode code 3014 = .ok (.aload_n 2, 1) := dl_18_x 17 rfl
theorem dM_3015 : decode code 3015 = .ok (.aload_n 0, 1) := dl_18_x 18 rfl
theorem dM_3016 : decode code 3016 = .ok (.iload 4, 2) := dl_18_x 19 rfl
theorem dM_3018 : decode code 3018 = .ok (.iconst 1, 1) := dl_18_x 20 rfl
theorem dM_3019 : decode code 3019 = .ok (.iadd, 1) := dl_18_x 21 rfl
theorem dM_3020 : decode code 3020 = .ok (.iaload, 1) := dl_18_x 22 rfl
theorem dM_3021 : decode code 3021 = .ok (.aload_n 0, 1) := dl_18_x 23 rfl
theorem dM_3022 : decode code 3022 = .ok (.iload 4, 2) := dl_18_x 24 rfl
theorem dM_3024 : decode code 3024 = .ok (.iconst 2, 1) := dl_18_x 25 rfl
theorem dM_3025 : decode code 3025 = .ok (.iadd, 1) := dl_18_x 26 rfl
theorem dM_3026 : decode code 3026 = .ok (.iaload, 1) := dl_18_x 27 rfl
theorem dM_3027 : decode code 3027 = .ok (.invokevirtual 329, 3) := dl_18_x 28 rfl
theorem dM_3030 : decode code 3030 = .ok (.istore 6, 2) := dl_18_x 29 rfl
theorem dM_3032 : decode code 3032 = .ok (.aload_n 2, 1) := dl_18_x 30 rfl
theorem dM_3033 : decode code 3033 = .ok (.invokevirtual 179, 3) := dl_18_x 31 rfl
theorem dM_3036 : decode code 3036 = .ok (.iload 5, 2) := dl_18_x 32 rfl
theorem dM_3038 : decode code 3038 = .ok (.if_icmp .eq 5, 3) := dl_18_x 33 rfl
theorem dM_3041 : decode code 3041 = .ok (.iconst 0, 1) := dl_18_x 34 rfl
theorem dM_3042 : decode code 3042 = .ok (.ireturn, 1) := dl_18_x 35 rfl
theorem dM_3043 : decode code 3043 = .ok (.iload 5, 2) := dl_18_x 36 rfl
theorem dM_3045 : decode code 3045 = .ok (.ifCond .ne 15, 3) := dl_18_x 37 rfl
theorem dM_3048 : decode code 3048 = .ok (.aload_n 3, 1) := dl_18_x 38 rfl
theorem dM_3049 : decode code 3049 = .ok (.iconst 0, 1) := dl_18_x 39 rfl
theorem dM_3050 : decode code 3050 = .ok (.laload, 1) := dl_18_x 40 rfl
theorem dM_3051 : decode code 3051 = .ok (.iload 6, 2) := dl_18_x 41 rfl
theorem dM_3053 : decode code 3053 = .ok (.i2l, 1) := dl_18_x 42 rfl
theorem dM_3054 : decode code 3054 = .ok (.lcmp, 1) := dl_18_x 43 rfl
theorem dM_3055 : decode code 3055 = .ok (.ifCond .eq 5, 3) := dl_18_x 44 rfl
theorem dM_3058 : decode code 3058 = .ok (.iconst 0, 1) := dl_18_x 45 rfl
theorem dM_3059 : decode code 3059 = .ok (.ireturn, 1) := dl_18_x 46 rfl
theorem dM_3060 : decode code 3060 = .ok (.goto 196, 3) := dl_18_x 47 rfl
theorem dM_3063 : decode code 3063 = .ok (.aload_n 1, 1) := dl_18_x 48 rfl
theorem dM_3064 : decode code 3064 = .ok (.aload_n 0, 1) := dl_18_x 49 rfl
theorem dM_3065 : decode code 3065 = .ok (.iload 4, 2) := dl_18_x 50 rfl
theorem dM_3067 : decode code 3067 = .ok (.iconst 1, 1) := dl_18_x 51 rfl
theorem dM_3068 : decode code 3068 = .ok (.iadd, 1) := dl_18_x 52 rfl
theorem dM_3069 : decode code 3069 = .ok (.iaload, 1) := dl_18_x 53 rfl
theorem dM_3070 : decode code 3070 = .ok (.aload_n 0, 1) := dl_18_x 54 rfl
theorem dM_3071 : decode code 3071 = .ok (.iload 4, 2) := dl_18_x 55 rfl
theorem dM_3073 : decode code 3073 = .ok (.iconst 2, 1) := dl_18_x 56 rfl
theorem dM_3074 : decode code 3074 = .ok (.iadd, 1) := dl_18_x 57 rfl
theorem dM_3075 : decode code 3075 = .ok (.iaload, 1) := dl_18_x 58 rfl
theorem dM_3076 : decode code 3076 = .ok (.aload_n 3, 1) := dl_18_x 59 rfl
theorem dM_3077 : decode code 3077 = .ok (.invokestatic 330, 3) := dl_18_x 60 rfl
theorem dM_3080 : decode code 3080 = .ok (.istore 5, 2) := dl_18_x 61 rfl
theorem dM_3082 : decode code 3082 = .ok (.aload_n 2, 1) := dl_18_x 62 rfl
theorem dM_3083 : decode code 3083 = .ok (.aload_n 0, 1) := dl_18_x 63 rfl
theorem dM_3084 : decode code 3084 = .ok (.iload 4, 2) := dl_18_x 64 rfl
theorem dM_3086 : decode code 3086 = .ok (.iconst 1, 1) := dl_18_x 65 rfl
theorem dM_3087 : decode code 3087 = .ok (.iadd, 1) := dl_18_x 66 rfl
theorem dM_3088 : decode code 3088 = .ok (.iaload, 1) := dl_18_x 67 rfl
theorem dM_3089 : decode code 3089 = .ok (.aload_n 0, 1) := dl_18_x 68 rfl
theorem dM_3090 : decode code 3090 = .ok (.iload 4, 2) := dl_18_x 69 rfl
theorem dM_3092 : decode code 3092 = .ok (.iconst 2, 1) := dl_18_x 70 rfl
theorem dM_3093 : decode code 3093 = .ok (.iadd, 1) := dl_18_x 71 rfl
theorem dM_3094 : decode code 3094 = .ok (.iaload, 1) := dl_18_x 72 rfl
theorem dM_3095 : decode code 3095 = .ok (.invokevirtual 332, 3) := dl_18_x 73 rfl
theorem dM_3098 : decode code 3098 = .ok (.istore 6, 2) := dl_18_x 74 rfl
theorem dM_3100 : decode code 3100 = .ok (.aload_n 2, 1) := dl_18_x 75 rfl
theorem dM_3101 : decode code 3101 = .ok (.invokevirtual 179, 3) := dl_18_x 76 rfl
theorem dM_3104 : decode code 3104 = .ok (.iload 5, 2) := dl_18_x 77 rfl
theorem dM_3106 : decode code 3106 = .ok (.if_icmp .eq 5, 3) := dl_18_x 78 rfl
theorem dM_3109 : decode code 3109 = .ok (.iconst 0, 1) := dl_18_x 79 rfl
theorem dM_3110 : decode code 3110 = .ok (.ireturn, 1) := dl_18_x 80 rfl
theorem dM_3111 : decode code 3111 = .ok (.iload 5, 2) := dl_18_x 81 rfl
theorem dM_3113 : decode code 3113 = .ok (.ifCond .ne 15, 3) := dl_18_x 82 rfl
theorem dM_3116 : decode code 3116 = .ok (.aload_n 3, 1) := dl_18_x 83 rfl
theorem dM_3117 : decode code 3117 = .ok (.iconst 0, 1) := dl_18_x 84 rfl
theorem dM_3118 : decode code 3118 = .ok (.laload, 1) := dl_18_x 85 rfl
theorem dM_3119 : decode code 3119 = .ok (.iload 6, 2) := dl_18_x 86 rfl
theorem dM_3121 : decode code 3121 = .ok (.i2l, 1) := dl_18_x 87 rfl
theorem dM_3122 : decode code 3122 = .ok (.lcmp, 1) := dl_18_x 88 rfl
theorem dM_3123 : decode code 3123 = .ok (.ifCond .eq 5, 3) := dl_18_x 89 rfl
theorem dM_3126 : decode code 3126 = .ok (.iconst 0, 1) := dl_18_x 90 rfl
theorem dM_3127 : decode code 3127 = .ok (.ireturn, 1) := dl_18_x 91 rfl
theorem dM_3128 : decode code 3128 = .ok (.goto 128, 3) := dl_18_x 92 rfl
theorem dM_3131 : decode code 3131 = .ok (.aload_n 1, 1) := dl_18_x 93 rfl
theorem dM_3132 : decode code 3132 = .ok (.invokevirtual 333, 3) := dl_18_x 94 rfl
theorem dM_3135 : decode code 3135 = .ok (.aload_n 2, 1) := dl_18_x 95 rfl
theorem dM_3136 : decode code 3136 = .ok (.invokevirtual 336, 3) := dl_18_x 96 rfl
theorem dM_3139 : decode code 3139 = .ok (.if_icmp .eq 117, 3) := dl_18_x 97 rfl
theorem dM_3142 : decode code 3142 = .ok (.iconst 0, 1) := dl_18_x 98 rfl
theorem dM_3143 : decode code 3143 = .ok (.ireturn, 1) := dl_18_x 99 rfl
