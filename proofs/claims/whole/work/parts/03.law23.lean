/-! THE LAW'S OWN BODY, instruction by instruction: 3144 to 3219 -/
def dl_38 : List (Nat × Instr × Nat) := [(3144, .aload_n 1, 1), (3145, .aload_n 0, 1), (3146, .iload 4, 2), (3148, .iconst 1, 1), (3149, .iadd, 1), (3150, .iaload, 1), (3151, .aload_n 3, 1), (3152, .invokestatic 337, 3), (3155, .istore 5, 2), (3157, .aload_n 2, 1), (3158, .aload_n 0, 1), (3159, .iload 4, 2), (3161, .iconst 1, 1), (3162, .iadd, 1), (3163, .iaload, 1), (3164, .invokevirtual 339, 3), (3167, .istore 6, 2), (3169, .aload_n 2, 1), (3170, .invokevirtual 179, 3), (3173, .iload 5, 2), (3175, .if_icmp .eq 5, 3), (3178, .iconst 0, 1), (3179, .ireturn, 1), (3180, .iload 5, 2), (3182, .ifCond .ne 15, 3), (3185, .aload_n 3, 1), (3186, .iconst 0, 1), (3187, .laload, 1), (3188, .iload 6, 2), (3190, .i2l, 1), (3191, .lcmp, 1), (3192, .ifCond .eq 5, 3), (3195, .iconst 0, 1), (3196, .ireturn, 1), (3197, .goto 59, 3), (3200, .aload_n 1, 1), (3201, .aload_n 0, 1), (3202, .iload 4, 2), (3204, .iconst 1, 1), (3205, .iadd, 1), (3206, .iaload, 1), (3207, .aload_n 3, 1), (3208, .invokestatic 340, 3), (3211, .istore 5, 2), (3213, .aload_n 2, 1), (3214, .aload_n 0, 1), (3215, .iload 4, 2), (3217, .iconst 1, 1), (3218, .iadd, 1), (3219, .iaload, 1)]
theorem dl_38_ok : ∀ q ∈ dl_38, decode code q.1 = .ok (q.2.1, q.2.2) := by decide +kernel
theorem dl_38_x (k : Nat) {pc : Nat} {i : Instr} {n : Nat} (h : dl_38[k]? = some (pc, i, n)) : decode code pc = .ok (i, n) := dl_38_ok (pc, i, n) (List.mem_of_getElem? h)
theorem dM_3144 : decode code 3144 = .ok (.aload_n 1, 1) := dl_38_x 0 rfl
theorem dM_3145 : decode code 3145 = .ok (.aload_n 0, 1) := dl_38_x 1 rfl
theorem dM_3146 : decode code 3146 = .ok (.iload 4, 2) := dl_38_x 2 rfl
theorem dM_3148 : decode code 3148 = .ok (.iconst 1, 1) := dl_38_x 3 rfl
theorem dM_3149 : decode code 3149 = .ok (.iadd, 1) := dl_38_x 4 rfl
theorem dM_3150 : decode code 3150 = .ok (.iaload, 1) := dl_38_x 5 rfl
theorem dM_3151 : decode code 3151 = .ok (.aload_n 3, 1) := dl_38_x 6 rfl
theorem dM_3152 : decode code 3152 = .ok (.invokestatic 337, 3) := dl_38_x 7 rfl
theorem dM_3155 : decode code 3155 = .ok (.istore 5, 2) := dl_38_x 8 rfl
theorem dM_3157 : decode code 3157 = .ok (.aload_n 2, 1) := dl_38_x 9 rfl
theorem dM_3158 : decode code 3158 = .ok (.aload_n 0, 1) := dl_38_x 10 rfl
theorem dM_3159 : decode code 3159 = .ok (.iload 4, 2) := dl_38_x 11 rfl
theorem dM_3161 : decode code 3161 = .ok (.iconst 1, 1) := dl_38_x 12 rfl
theorem dM_3162 : decode code 3162 = .ok (.iadd, 1) := dl_38_x 13 rfl
theorem dM_3163 : decode code 3163 = .ok (.iaload, 1) := dl_38_x 14 rfl
theorem dM_3164 : decode code 3164 = .ok (.invokevirtual 339, 3) := dl_38_x 15 rfl
theorem dM_3167 : decode code 3167 = .ok (.istore 6, 2) := dl_38_x 16 rfl
theorem dM_3169 : decode code 3169 = .ok (.aload_n 2, 1) := dl_38_x 17 rfl
theorem dM_3170 : decode code 3170 = .ok (.invokevirtual 179, 3) := dl_38_x 18 rfl
theorem dM_3173 : decode code 3173 = .ok (.iload 5, 2) := dl_38_x 19 rfl
theorem dM_3175 : decode code 3175 = .ok (.if_icmp .eq 5, 3) := dl_38_x 20 rfl
theorem dM_3178 : decode code 3178 = .ok (.iconst 0, 1) := dl_38_x 21 rfl
theorem dM_3179 : decode code 3179 = .ok (.ireturn, 1) := dl_38_x 22 rfl
theorem dM_3180 : decode code 3180 = .ok (.iload 5, 2) := dl_38_x 23 rfl
theorem dM_3182 : decode code 3182 = .ok (.ifCond .ne 15, 3) := dl_38_x 24 rfl
theorem dM_3185 : decode code 3185 = .ok (.aload_n 3, 1) := dl_38_x 25 rfl
theorem dM_3186 : decode code 3186 = .ok (.iconst 0, 1) := dl_38_x 26 rfl
theorem dM_3187 : decode code 3187 = .ok (.laload, 1) := dl_38_x 27 rfl
theorem dM_3188 : decode code 3188 = .ok (.iload 6, 2) := dl_38_x 28 rfl
theorem dM_3190 : decode code 3190 = .ok (.i2l, 1) := dl_38_x 29 rfl
theorem dM_3191 : decode code 3191 = .ok (.lcmp, 1) := dl_38_x 30 rfl
theorem dM_3192 : decode code 3192 = .ok (.ifCond .eq 5, 3) := dl_38_x 31 rfl
theorem dM_3195 : decode code 3195 = .ok (.iconst 0, 1) := dl_38_x 32 rfl
theorem dM_3196 : decode code 3196 = .ok (.ireturn, 1) := dl_38_x 33 rfl
theorem dM_3197 : decode code 3197 = .ok (.goto 59, 3) := dl_38_x 34 rfl
theorem dM_3200 : decode code 3200 = .ok (.aload_n 1, 1) := dl_38_x 35 rfl
theorem dM_3201 : decode code 3201 = .ok (.aload_n 0, 1) := dl_38_x 36 rfl
theorem dM_3202 : decode code 3202 = .ok (.iload 4, 2) := dl_38_x 37 rfl
theorem dM_3204 : decode code 3204 = .ok (.iconst 1, 1) := dl_38_x 38 rfl
theorem dM_3205 : decode code 3205 = .ok (.iadd, 1) := dl_38_x 39 rfl
theorem dM_3206 : decode code 3206 = .ok (.iaload, 1) := dl_38_x 40 rfl
theorem dM_3207 : decode code 3207 = .ok (.aload_n 3, 1) := dl_38_x 41 rfl
theorem dM_3208 : decode code 3208 = .ok (.invokestatic 340, 3) := dl_38_x 42 rfl
theorem dM_3211 : decode code 3211 = .ok (.istore 5, 2) := dl_38_x 43 rfl
theorem dM_3213 : decode code 3213 = .ok (.aload_n 2, 1) := dl_38_x 44 rfl
theorem dM_3214 : decode code 3214 = .ok (.aload_n 0, 1) := dl_38_x 45 rfl
theorem dM_3215 : decode code 3215 = .ok (.iload 4, 2) := dl_38_x 46 rfl
theorem dM_3217 : decode code 3217 = .ok (.iconst 1, 1) := dl_38_x 47 rfl
theorem dM_3218 : decode code 3218 = .ok (.iadd, 1) := dl_38_x 48 rfl
theorem dM_3219 : decode code 3219 = .ok (.iaload, 1) := dl_38_x 49 rfl
