/-! THE LAW'S OWN BODY, instruction by instruction: 3220 to 3263 -/
def dl_39 : List (Nat × Instr × Nat) := [(3220, .invokevirtual 342, 3), (3223, .istore 6, 2), (3225, .aload_n 2, 1), (3226, .invokevirtual 179, 3), (3229, .iload 5, 2), (3231, .if_icmp .eq 5, 3), (3234, .iconst 0, 1), (3235, .ireturn, 1), (3236, .iload 5, 2), (3238, .ifCond .ne 15, 3), (3241, .aload_n 3, 1), (3242, .iconst 0, 1), (3243, .laload, 1), (3244, .iload 6, 2), (3246, .i2l, 1), (3247, .lcmp, 1), (3248, .ifCond .eq 5, 3), (3251, .iconst 0, 1), (3252, .ireturn, 1), (3253, .goto 3, 3), (3256, .iinc 4 5, 3), (3259, .goto (-3236), 3), (3262, .iconst 1, 1), (3263, .ireturn, 1)]
theorem dl_39_ok : ∀ q ∈ dl_39, decode code q.1 = .ok (q.2.1, q.2.2) := by decide +kernel
theorem dl_39_x (k : Nat) {pc : Nat} {i : Instr} {n : Nat} (h : dl_39[k]? = some (pc, i, n)) : decode code pc = .ok (i, n) := dl_39_ok (pc, i, n) (List.mem_of_getElem? h)
theorem dM_3220 : decode code 3220 = .ok (.invokevirtual 342, 3) := dl_39_x 0 rfl
theorem dM_3223 : decode code 3223 = .ok (.istore 6, 2) := dl_39_x 1 rfl
theorem dM_3225 : decode code 3225 = .ok (.aload_n 2, 1) := dl_39_x 2 rfl
theorem dM_3226 : decode code 3226 = .ok (.invokevirtual 179, 3) := dl_39_x 3 rfl
theorem dM_3229 : decode code 3229 = .ok (.iload 5, 2) := dl_39_x 4 rfl
theorem dM_3231 : decode code 3231 = .ok (.if_icmp .eq 5, 3) := dl_39_x 5 rfl
theorem dM_3234 : decode code 3234 = .ok (.iconst 0, 1) := dl_39_x 6 rfl
theorem dM_3235 : decode code 3235 = .ok (.ireturn, 1) := dl_39_x 7 rfl
theorem dM_3236 : decode code 3236 = .ok (.iload 5, 2) := dl_39_x 8 rfl
theorem dM_3238 : decode code 3238 = .ok (.ifCond .ne 15, 3) := dl_39_x 9 rfl
theorem dM_3241 : decode code 3241 = .ok (.aload_n 3, 1) := dl_39_x 10 rfl
theorem dM_3242 : decode code 3242 = .ok (.iconst 0, 1) := dl_39_x 11 rfl
theorem dM_3243 : decode code 3243 = .ok (.laload, 1) := dl_39_x 12 rfl
theorem dM_3244 : decode code 3244 = .ok (.iload 6, 2) := dl_39_x 13 rfl
theorem dM_3246 : decode code 3246 = .ok (.i2l, 1) := dl_39_x 14 rfl
theorem dM_3247 : decode code 3247 = .ok (.lcmp, 1) := dl_39_x 15 rfl
theorem dM_3248 : decode code 3248 = .ok (.ifCond .eq 5, 3) := dl_39_x 16 rfl
theorem dM_3251 : decode code 3251 = .ok (.iconst 0, 1) := dl_39_x 17 rfl
theorem dM_3252 : decode code 3252 = .ok (.ireturn, 1) := dl_39_x 18 rfl
theorem dM_3253 : decode code 3253 = .ok (.goto 3, 3) := dl_39_x 19 rfl
theorem dM_3256 : decode code 3256 = .ok (.iinc 4 5, 3) := dl_39_x 20 rfl
theorem dM_3259 : decode code 3259 = .ok (.goto (-3236), 3) := dl_39_x 21 rfl
theorem dM_3262 : decode code 3262 = .ok (.iconst 1, 1) := dl_39_x 22 rfl
theorem dM_3263 : decode code 3263 = .ok (.ireturn, 1) := dl_39_x 23 rfl
