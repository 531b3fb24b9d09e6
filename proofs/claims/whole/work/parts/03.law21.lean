/-! THE LAW'S OWN BODY, instruction by instruction: 2990 to 3064 -/
def dl_36 : List (Nat × Instr × Nat) := [(2990, .iconst 0, 1), (2991, .ireturn, 1), (2992, .goto 264, 3), (2995, .aload_n 1, 1), (2996, .aload_n 0, 1), (2997, .iload 4, 2), (2999, .iconst 1, 1), (3000, .iadd, 1), (3001, .iaload, 1), (3002, .aload_n 0, 1), (3003, .iload 4, 2), (3005, .iconst 2, 1), (3006, .iadd, 1), (3007, .iaload, 1), (3008, .aload_n 3, 1), (3009, .invokestatic 327, 3), (3012, .istore 5, 2), (3014, .aload_n 2, 1), (3015, .aload_n 0, 1), (3016, .iload 4, 2), (3018, .iconst 1, 1), (3019, .iadd, 1), (3020, .iaload, 1), (3021, .aload_n 0, 1), (3022, .iload 4, 2), (3024, .iconst 2, 1), (3025, .iadd, 1), (3026, .iaload, 1), (3027, .invokevirtual 329, 3), (3030, .istore 6, 2), (3032, .aload_n 2, 1), (3033, .invokevirtual 179, 3), (3036, .iload 5, 2), (3038, .if_icmp .eq 5, 3), (3041, .iconst 0, 1), (3042, .ireturn, 1), (3043, .iload 5, 2), (3045, .ifCond .ne 15, 3), (3048, .aload_n 3, 1), (3049, .iconst 0, 1), (3050, .laload, 1), (3051, .iload 6, 2), (3053, .i2l, 1), (3054, .lcmp, 1), (3055, .ifCond .eq 5, 3), (3058, .iconst 0, 1), (3059, .ireturn, 1), (3060, .goto 196, 3), (3063, .aload_n 1, 1), (3064, .aload_n 0, 1)]
theorem dl_36_ok : ∀ q ∈ dl_36, decode code q.1 = .ok (q.2.1, q.2.2) := by decide +kernel
theorem dl_36_x (k : Nat) {pc : Nat} {i : Instr} {n : Nat} (h : dl_36[k]? = some (pc, i, n)) : decode code pc = .ok (i, n) := dl_36_ok (pc, i, n) (List.mem_of_getElem? h)
theorem dM_2990 : decode code 2990 = .ok (.iconst 0, 1) := dl_36_x 0 rfl
theorem dM_2991 : decode code 2991 = .ok (.ireturn, 1) := dl_36_x 1 rfl
theorem dM_2992 : decode code 2992 = .ok (.goto 264, 3) := dl_36_x 2 rfl
theorem dM_2995 : decode code 2995 = .ok (.aload_n 1, 1) := dl_36_x 3 rfl
theorem dM_2996 : decode code 2996 = .ok (.aload_n 0, 1) := dl_36_x 4 rfl
theorem dM_2997 : decode code 2997 = .ok (.iload 4, 2) := dl_36_x 5 rfl
theorem dM_2999 : decode code 2999 = .ok (.iconst 1, 1) := dl_36_x 6 rfl
theorem dM_3000 : decode code 3000 = .ok (.iadd, 1) := dl_36_x 7 rfl
theorem dM_3001 : decode code 3001 = .ok (.iaload, 1) := dl_36_x 8 rfl
theorem dM_3002 : decode code 3002 = .ok (.aload_n 0, 1) := dl_36_x 9 rfl
theorem dM_3003 : decode code 3003 = .ok (.iload 4, 2) := dl_36_x 10 rfl
theorem dM_3005 : decode code 3005 = .ok (.iconst 2, 1) := dl_36_x 11 rfl
theorem dM_3006 : decode code 3006 = .ok (.iadd, 1) := dl_36_x 12 rfl
theorem dM_3007 : decode code 3007 = .ok (.iaload, 1) := dl_36_x 13 rfl
theorem dM_3008 : decode code 3008 = .ok (.aload_n 3, 1) := dl_36_x 14 rfl
theorem dM_3009 : decode code 3009 = .ok (.invokestatic 327, 3) := dl_36_x 15 rfl
theorem dM_3012 : decode code 3012 = .ok (.istore 5, 2) := dl_36_x 16 rfl
theorem dM_3014 : decode code 3014 = .ok (.aload_n 2, 1) := dl_36_x 17 rfl
theorem dM_3015 : decode code 3015 = .ok (.aload_n 0, 1) := dl_36_x 18 rfl
theorem dM_3016 : decode code 3016 = .ok (.iload 4, 2) := dl_36_x 19 rfl
theorem dM_3018 : decode code 3018 = .ok (.iconst 1, 1) := dl_36_x 20 rfl
theorem dM_3019 : decode code 3019 = .ok (.iadd, 1) := dl_36_x 21 rfl
theorem dM_3020 : decode code 3020 = .ok (.iaload, 1) := dl_36_x 22 rfl
theorem dM_3021 : decode code 3021 = .ok (.aload_n 0, 1) := dl_36_x 23 rfl
theorem dM_3022 : decode code 3022 = .ok (.iload 4, 2) := dl_36_x 24 rfl
theorem dM_3024 : decode code 3024 = .ok (.iconst 2, 1) := dl_36_x 25 rfl
theorem dM_3025 : decode code 3025 = .ok (.iadd, 1) := dl_36_x 26 rfl
theorem dM_3026 : decode code 3026 = .ok (.iaload, 1) := dl_36_x 27 rfl
theorem dM_3027 : decode code 3027 = .ok (.invokevirtual 329, 3) := dl_36_x 28 rfl
theorem dM_3030 : decode code 3030 = .ok (.istore 6, 2) := dl_36_x 29 rfl
theorem dM_3032 : decode code 3032 = .ok (.aload_n 2, 1) := dl_36_x 30 rfl
theorem dM_3033 : decode code 3033 = .ok (.invokevirtual 179, 3) := dl_36_x 31 rfl
theorem dM_3036 : decode code 3036 = .ok (.iload 5, 2) := dl_36_x 32 rfl
theorem dM_3038 : decode code 3038 = .ok (.if_icmp .eq 5, 3) := dl_36_x 33 rfl
theorem dM_3041 : decode code 3041 = .ok (.iconst 0, 1) := dl_36_x 34 rfl
theorem dM_3042 : decode code 3042 = .ok (.ireturn, 1) := dl_36_x 35 rfl
theorem dM_3043 : decode code 3043 = .ok (.iload 5, 2) := dl_36_x 36 rfl
theorem dM_3045 : decode code 3045 = .ok (.ifCond .ne 15, 3) := dl_36_x 37 rfl
theorem dM_3048 : decode code 3048 = .ok (.aload_n 3, 1) := dl_36_x 38 rfl
theorem dM_3049 : decode code 3049 = .ok (.iconst 0, 1) := dl_36_x 39 rfl
theorem dM_3050 : decode code 3050 = .ok (.laload, 1) := dl_36_x 40 rfl
theorem dM_3051 : decode code 3051 = .ok (.iload 6, 2) := dl_36_x 41 rfl
theorem dM_3053 : decode code 3053 = .ok (.i2l, 1) := dl_36_x 42 rfl
theorem dM_3054 : decode code 3054 = .ok (.lcmp, 1) := dl_36_x 43 rfl
theorem dM_3055 : decode code 3055 = .ok (.ifCond .eq 5, 3) := dl_36_x 44 rfl
theorem dM_3058 : decode code 3058 = .ok (.iconst 0, 1) := dl_36_x 45 rfl
theorem dM_3059 : decode code 3059 = .ok (.ireturn, 1) := dl_36_x 46 rfl
theorem dM_3060 : decode code 3060 = .ok (.goto 196, 3) := dl_36_x 47 rfl
theorem dM_3063 : decode code 3063 = .ok (.aload_n 1, 1) := dl_36_x 48 rfl
theorem dM_3064 : decode code 3064 = .ok (.aload_n 0, 1) := dl_36_x 49 rfl
