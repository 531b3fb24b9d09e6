/-! THE LAW'S OWN BODY, instruction by instruction: 3144 to 3263 -/
def dl_19 : List (Nat × Instr × Nat) := [(3144, .aload_n 1, 1), (3145, .aload_n 0, 1), (3146, .iload 4, 2), (3148, .iconst 1, 1), (3149, .iadd, 1), (3150, .iaload, 1), (3151, .aload_n 3, 1), (3152, .invokestatic 337, 3), (3155, .istore 5, 2), (3157, .aload_n 2, 1), (3158, .aload_n 0, 1), (3159, .iload 4, 2), (3161, .iconst 1, 1), (3162, .iadd, 1), (3163, .iaload, 1), (3164, .invokevirtual 339, 3), (3167, .istore 6, 2), (3169, .aload_n 2, 1), (3170, .invokevirtual 179, 3), (3173, .iload 5, 2), (3175, .if_icmp .eq 5, 3), (3178, .iconst 0, 1), (3179, .ireturn, 1), (3180, .iload 5, 2), (3182, .ifCond .ne 15, 3), (3185, .aload_n 3, 1), (3186, .iconst 0, 1), (3187, .laload, 1), (3188, .iload 6, 2), (3190, .i2l, 1), (3191, .lcmp, 1), (3192, .ifCond .eq 5, 3), (3195, .iconst 0, 1), (3196, .ireturn, 1), (3197, .goto 59, 3), (3200, .aload_n 1, 1), (3201, .aload_n 0, 1), (3202, .iload 4, 2), (3204, .iconst 1, 1), (3205, .iadd, 1), (3206, .iaload, 1), (3207, .aload_n 3, 1), (3208, .invokestatic 340, 3), (3211, .istore 5, 2), (3213, .aload_n 2, 1), (3214, .aload_n 0, 1), (3215, .iload 4, 2), (3217, .iconst 1, 1), (3218, .iadd, 1), (3219, .iaload, 1), (3220, .invokevirtual 342, 3), (3223, .istore 6, 2), (3225, .aload_n 2, 1), (3226, .invokevirtual 179, 3), (3229, .iload 5, 2), (3231, .if_icmp .eq 5, 3), (3234, .iconst 0, 1), (3235, .ireturn, 1), (3236, .iload 5, 2), (3238, .ifCond .ne 15, 3), (3241, .aload_n 3, 1), (3242, .iconst 0, 1), (3243, .laload, 1), (3244, .iload 6, 2), (3246, .i2l, 1), (3247, .lcmp, 1), (3248, .ifCond .eq 5, 3), (3251, .iconst 0, 1), (3252, .ireturn, 1), (3253, .goto 3, 3), (3256, .iinc 4 5, 3), (3259, .goto (-3236), 3), (3262, .iconst 1, 1), (3263, .ireturn, 1)]
theorem dl_19_ok : ∀ q ∈ dl_19, decode code q.1 = .ok (q.2.1, q.2.2) := by decide +kernel
theorem dl_19_x (k : Nat) {pc : Nat} {i : Instr} {n : Nat} (h : dl_19[k]? = some (pc, i, n)) : decode code pc = .ok (i, n) := dl_19_ok (pc, i, n) (List.mem_of_getElem? h)
theorem dM_3144 : decode code 3144 = .ok (.aload_n 1, 1) := dl_19_x 0 rfl
theorem dM_3145 : decode code 3145 = .ok (.aload_n 0, 1) := dl_19_x 1 rfl
theorem dM_3146 : decode code 3146 = .ok (.iload 4, 2) := dl_19_x 2 rfl
theorem dM_3148 : decode code 3148 = .ok (.iconst 1, 1) := dl_19_x 3 rfl
theorem dM_3149 : decode code 3149 = .ok (.iadd, 1) := dl_19_x 4 rfl
theorem dM_3150 : decode code 3150 = .ok (.iaload, 1) := dl_19_x 5 rfl
theorem dM_3151 : decode code 3151 = .ok (.aload_n 3, 1) := dl_19_x 6 rfl
theorem dM_3152 : decode code 3152 = .ok (.invokestatic 337, 3) := dl_19_x 7 rfl
theorem dM_3155 : decode code 3155 = .ok (.istore 5, 2) := dl_19_x 8 rfl
theorem dM_3157 : decode code 3157 = .ok (.aload_n 2, 1) := dl_19_x 9 rfl
theorem dM_3158 : decode code 3158 = .ok (.aload_n 0, 1) := dl_19_x 10 rfl
theorem dM_3159 : decode code 3159 = .ok (.iload 4, 2) := dl_19_x 11 rfl
theorem dM_3161 : decode code 3161 = .ok (.iconst 1, 1) := dl_19_x 12 rfl
theorem dM_3162 : decode code 3162 = .ok (.iadd, 1) := dl_19_x 13 rfl
theorem dM_3163 : decode code 3163 = .ok (.iaload, 1) := dl_19_x 14 rfl
theorem dM_3164 : decode code 3164 = .ok (.invokevirtual 339, 3) := dl_19_x 15 rfl
theorem dM_3167 : decode code 3167 = .ok (.istore 6, 2) := dl_19_x 16 rfl
theorem dM_3169 : decode code 3169 = .ok (.aload_n 2, 1) := dl_19_x 17 rfl
theorem dM_3170 : decode code 3170 = .ok (.invokevirtual 179, 3) := dl_19_x 18 rfl
theorem dM_3173 : decode code 3173 = .ok (.iload 5, 2) := dl_19_x 19 rfl
theorem dM_3175 : decode code 3175 = .ok (.if_icmp .eq 5, 3) := dl_19_x 20 rfl
theorem dM_3178 : decode code 3178 = .ok (.iconst 0, 1) := dl_19_x 21 rfl
theorem dM_3179 : decode code 3179 = .ok (.ireturn, 1) := dl_19_x 22 rfl
theorem dM_3180 : decode code 3180 = .ok (.iload 5, 2) := dl_19_x 23 rfl
theorem dM_3182 : decode code 3182 = .ok (.ifCond .ne 15, 3) := dl_19_x 24 rfl
theorem dM_3185 : decode code 3185 = .ok (.aload_n 3, 1) := dl_19_x 25 rfl
theorem dM_3186 : decode code 3186 = .ok (.iconst 0, 1) := dl_19_x 26 rfl
theorem dM_3187 : decode code 3187 = .ok (.laload, 1) := dl_19_x 27 rfl
theorem dM_3188 : decode code 3188 = .ok (.iload 6, 2) := dl_19_x 28 rfl
theorem dM_3190 : decode code 3190 = .ok (.i2l, 1) := dl_19_x 29 rfl
theorem dM_3191 : decode code 3191 = .ok (.lcmp, 1) := dl_19_x 30 rfl
theorem dM_3192 : decode code 3192 = .ok (.ifCond .eq 5, 3) := dl_19_x 31 rfl
theorem dM_3195 : decode code 3195 = .ok (.iconst 0, 1) := dl_19_x 32 rfl
theorem dM_3196 : decode code 3196 = .ok (.ireturn, 1) := dl_19_x 33 rfl
theorem dM_3197 : decode code 3197 = .ok (.goto 59, 3) := dl_19_x 34 rfl
theorem dM_3200 : decode code 3200 = .ok (.aload_n 1, 1) := dl_19_x 35 rfl
theorem dM_3201 : decode code 3201 = .ok (.aload_n 0, 1) := dl_19_x 36 rfl
theorem dM_3202 : decode code 3202 = .ok (.iload 4, 2) := dl_19_x 37 rfl
theorem dM_3204 : decode code 3204 = .ok (.iconst 1, 1) := dl_19_x 38 rfl
theorem dM_3205 : decode code 3205 = .ok (.iadd, 1) := dl_19_x 39 rfl
theorem dM_3206 : decode code 3206 = .ok (.iaload, 1) := dl_19_x 40 rfl
theorem dM_3207 : decode code 3207 = .ok (.aload_n 3, 1) := dl_19_x 41 rfl
theorem dM_3208 : decode code 3208 = .ok (.invokestatic 340, 3) := dl_19_x 42 rfl
theorem dM_3211 : decode code 3211 = .ok (.istore 5, 2) := dl_19_x 43 rfl
theorem dM_3213 : decode code 3213 = .ok (.aload_n 2, 1) := dl_19_x 44 rfl
theorem dM_3214 : decode code 3214 = .ok (.aload_n 0, 1) := dl_19_x 45 rfl
theorem dM_3215 : decode code 3215 = .ok (.iload 4, 2) := dl_19_x 46 rfl
theorem dM_3217 : decode code 3217 = .ok (.iconst 1, 1) := dl_19_x 47 rfl
theorem dM_3218 : decode code 3218 = .ok (.iadd, 1) := dl_19_x 48 rfl
theorem dM_3219 : decode code 3219 = .ok (.iaload, 1) := dl_19_x 49 rfl
theorem dM_3220 : decode code 3220 = .ok (.invokevirtual 342, 3) := dl_19_x 50 rfl
theorem dM_3223 : decode code 3223 = .ok (.istore 6, 2) := dl_19_x 51 rfl
theorem dM_3225 : decode code 3225 = .ok (.aload_n 2, 1) := dl_19_x 52 rfl
theorem dM_3226 : decode code 3226 = .ok (.invokevirtual 179, 3) := dl_19_x 53 rfl
theorem dM_3229 : decode code 3229 = .ok (.iload 5, 2) := dl_19_x 54 rfl
theorem dM_3231 : decode code 3231 = .ok (.if_icmp .eq 5, 3) := dl_19_x 55 rfl
theorem dM_3234 : decode code 3234 = .ok (.iconst 0, 1) := dl_19_x 56 rfl
theorem dM_3235 : decode code 3235 = .ok (.ireturn, 1) := dl_19_x 57 rfl
theorem dM_3236 : decode code 3236 = .ok (.iload 5, 2) := dl_19_x 58 rfl
theorem dM_3238 : decode code 3238 = .ok (.ifCond .ne 15, 3) := dl_19_x 59 rfl
theorem dM_3241 : decode code 3241 = .ok (.aload_n 3, 1) := dl_19_x 60 rfl
theorem dM_3242 : decode code 3242 = .ok (.iconst 0, 1) := dl_19_x 61 rfl
theorem dM_3243 : decode code 3243 = .ok (.laload, 1) := dl_19_x 62 rfl
theorem dM_3244 : decode code 3244 = .ok (.iload 6, 2) := dl_19_x 63 rfl
theorem dM_3246 : decode code 3246 = .ok (.i2l, 1) := dl_19_x 64 rfl
theorem dM_3247 : decode code 3247 = .ok (.lcmp, 1) := dl_19_x 65 rfl
theorem dM_3248 : decode code 3248 = .ok (.ifCond .eq 5, 3) := dl_19_x 66 rfl
theorem dM_3251 : decode code 3251 = .ok (.iconst 0, 1) := dl_19_x 67 rfl
theorem dM_3252 : decode code 3252 = .ok (.ireturn, 1) := dl_19_x 68 rfl
theorem dM_3253 : decode code 3253 = .ok (.goto 3, 3) := dl_19_x 69 rfl
theorem dM_3256 : decode code 3256 = .ok (.iinc 4 5, 3) := dl_19_x 70 rfl
theorem dM_3259 : decode code 3259 = .ok (.goto (-3236), 3) := dl_19_x 71 rfl
theorem dM_3262 : decode code 3262 = .ok (.iconst 1, 1) := dl_19_x 72 rfl
theorem dM_3263 : decode code 3263 = .ok (.ireturn, 1) := dl_19_x 73 rfl
