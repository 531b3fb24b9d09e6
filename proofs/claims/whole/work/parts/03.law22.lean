/-! THE LAW'S OWN BODY, instruction by instruction: 3065 to 3143 -/
def dl_37 : List (Nat × Instr × Nat) := [(3065, .iload 4, 2), (3067, .iconst 1, 1), (3068, .iadd, 1), (3069, .iaload, 1), (3070, .aload_n 0, 1), (3071, .iload 4, 2), (3073, .iconst 2, 1), (3074, .iadd, 1), (3075, .iaload, 1), (3076, .aload_n 3, 1), (3077, .invokestatic 330, 3), (3080, .istore 5, 2), (3082, .aload_n 2, 1), (3083, .aload_n 0, 1), (3084, .iload 4, 2), (3086, .iconst 1, 1), (3087, .iadd, 1), (3088, .iaload, 1), (3089, .aload_n 0, 1), (3090, .iload 4, 2), (3092, .iconst 2, 1), (3093, .iadd, 1), (3094, .iaload, 1), (3095, .invokevirtual 332, 3), (3098, .istore 6, 2), (3100, .aload_n 2, 1), (3101, .invokevirtual 179, 3), (3104, .iload 5, 2), (3106, .if_icmp .eq 5, 3), (3109, .iconst 0, 1), (3110, .ireturn, 1), (3111, .iload 5, 2), (3113, .ifCond .ne 15, 3), (3116, .aload_n 3, 1), (3117, .iconst 0, 1), (3118, .laload, 1), (3119, .iload 6, 2), (3121, .i2l, 1), (3122, .lcmp, 1), (3123, .ifCond .eq 5, 3), (3126, .iconst 0, 1), (3127, .ireturn, 1), (3128, .goto 128, 3), (3131, .aload_n 1, 1), (3132, .invokevirtual 333, 3), (3135, .aload_n 2, 1), (3136, .invokevirtual 336, 3), (3139, .if_icmp .eq 117, 3), (3142, .iconst 0, 1), (3143, .ireturn, 1)]
theorem dl_37_ok : ∀ q ∈ dl_37, decode code q.1 = .ok (q.2.1, q.2.2) := by decide +kernel
theorem dl_37_x (k : Nat) {pc : Nat} {i : Instr} {n : Nat} (h : dl_37[k]? = some (pc, i, n)) : decode code pc = .ok (i, n) := dl_37_ok (pc, i, n) (List.mem_of_getElem? h)
theorem dM_3065 : decode code 3065 = .ok (.iload 4, 2) := dl_37_x 0 rfl
theorem dM_3067 : decode code 3067 = .ok (.iconst 1, 1) := dl_37_x 1 rfl
theorem dM_3068 : decode code 3068 = .ok (.iadd, 1) := dl_37_x 2 rfl
theorem dM_3069 : decode code 3069 = .ok (.iaload, 1) := dl_37_x 3 rfl
theorem dM_3070 : decode code 3070 = .ok (.aload_n 0, 1) := dl_37_x 4 rfl
theorem dM_3071 : decode code 3071 = .ok (.iload 4, 2) := dl_37_x 5 rfl
theorem dM_3073 : decode code 3073 = .ok (.iconst 2, 1) := dl_37_x 6 rfl
theorem dM_3074 : decode code 3074 = .ok (.iadd, 1) := dl_37_x 7 rfl
theorem dM_3075 : decode code 3075 = .ok (.iaload, 1) := dl_37_x 8 rfl
theorem dM_3076 : decode code 3076 = .ok (.aload_n 3, 1) := dl_37_x 9 rfl
theorem dM_3077 : decode code 3077 = .ok (.invokestatic 330, 3) := dl_37_x 10 rfl
theorem dM_3080 : decode code 3080 = .ok (.istore 5, 2) := dl_37_x 11 rfl
theorem dM_3082 : decode code 3082 = .ok (.aload_n 2, 1) := dl_37_x 12 rfl
theorem dM_3083 : decode code 3083 = .ok (.aload_n 0, 1) := dl_37_x 13 rfl
theorem dM_3084 : decode code 3084 = .ok (.iload 4, 2) := dl_37_x 14 rfl
theorem dM_3086 : decode code 3086 = .ok (.iconst 1, 1) := dl_37_x 15 rfl
theorem dM_3087 : decode code 3087 = .ok (.iadd, 1) := dl_37_x 16 rfl
theorem dM_3088 : decode code 3088 = .ok (.iaload, 1) := dl_37_x 17 rfl
theorem dM_3089 : decode code 3089 = .ok (.aload_n 0, 1) := dl_37_x 18 rfl
theorem dM_3090 : decode code 3090 = .ok (.iload 4, 2) := dl_37_x 19 rfl
theorem dM_3092 : decode code 3092 = .ok (.iconst 2, 1) := dl_37_x 20 rfl
theorem dM_3093 : decode code 3093 = .ok (.iadd, 1) := dl_37_x 21 rfl
theorem dM_3094 : decode code 3094 = .ok (.iaload, 1) := dl_37_x 22 rfl
theorem dM_3095 : decode code 3095 = .ok (.invokevirtual 332, 3) := dl_37_x 23 rfl
theorem dM_3098 : decode code 3098 = .ok (.istore 6, 2) := dl_37_x 24 rfl
theorem dM_3100 : decode code 3100 = .ok (.aload_n 2, 1) := dl_37_x 25 rfl
theorem dM_3101 : decode code 3101 = .ok (.invokevirtual 179, 3) := dl_37_x 26 rfl
theorem dM_3104 : decode code 3104 = .ok (.iload 5, 2) := dl_37_x 27 rfl
theorem dM_3106 : decode code 3106 = .ok (.if_icmp .eq 5, 3) := dl_37_x 28 rfl
theorem dM_3109 : decode code 3109 = .ok (.iconst 0, 1) := dl_37_x 29 rfl
theorem dM_3110 : decode code 3110 = .ok (.ireturn, 1) := dl_37_x 30 rfl
theorem dM_3111 : decode code 3111 = .ok (.iload 5, 2) := dl_37_x 31 rfl
theorem dM_3113 : decode code 3113 = .ok (.ifCond .ne 15, 3) := dl_37_x 32 rfl
theorem dM_3116 : decode code 3116 = .ok (.aload_n 3, 1) := dl_37_x 33 rfl
theorem dM_3117 : decode code 3117 = .ok (.iconst 0, 1) := dl_37_x 34 rfl
theorem dM_3118 : decode code 3118 = .ok (.laload, 1) := dl_37_x 35 rfl
theorem dM_3119 : decode code 3119 = .ok (.iload 6, 2) := dl_37_x 36 rfl
theorem dM_3121 : decode code 3121 = .ok (.i2l, 1) := dl_37_x 37 rfl
theorem dM_3122 : decode code 3122 = .ok (.lcmp, 1) := dl_37_x 38 rfl
theorem dM_3123 : decode code 3123 = .ok (.ifCond .eq 5, 3) := dl_37_x 39 rfl
theorem dM_3126 : decode code 3126 = .ok (.iconst 0, 1) := dl_37_x 40 rfl
theorem dM_3127 : decode code 3127 = .ok (.ireturn, 1) := dl_37_x 41 rfl
theorem dM_3128 : decode code 3128 = .ok (.goto 128, 3) := dl_37_x 42 rfl
theorem dM_3131 : decode code 3131 = .ok (.aload_n 1, 1) := dl_37_x 43 rfl
theorem dM_3132 : decode code 3132 = .ok (.invokevirtual 333, 3) := dl_37_x 44 rfl
theorem dM_3135 : decode code 3135 = .ok (.aload_n 2, 1) := dl_37_x 45 rfl
theorem dM_3136 : decode code 3136 = .ok (.invokevirtual 336, 3) := dl_37_x 46 rfl
theorem dM_3139 : decode code 3139 = .ok (.if_icmp .eq 117, 3) := dl_37_x 47 rfl
theorem dM_3142 : decode code 3142 = .ok (.iconst 0, 1) := dl_37_x 48 rfl
theorem dM_3143 : decode code 3143 = .ok (.ireturn, 1) := dl_37_x 49 rfl
