/-! THE LAW'S OWN BODY, instruction by instruction: 2237 to 2384 -/
def dl_13 : List (Nat × Instr × Nat) := [(2237, .aload_n 0, 1), (2238, .iload 4, 2), (2240, .iconst 1, 1), (2241, .iadd, 1), (2242, .iaload, 1), (2243, .aload_n 0, 1), (2244, .iload 4, 2), (2246, .iconst 2, 1), (2247, .iadd, 1), (2248, .iaload, 1), (2249, .aload_n 3, 1), (2250, .invokestatic 294, 3), (2253, .istore 5, 2), (2255, .aload_n 2, 1), (2256, .aload_n 0, 1), (2257, .iload 4, 2), (2259, .iconst 1, 1), (2260, .iadd, 1), (2261, .iaload, 1), (2262, .aload_n 0, 1), (2263, .iload 4, 2), (2265, .iconst 2, 1), (2266, .iadd, 1), (2267, .iaload, 1), (2268, .invokevirtual 296, 3), (2271, .istore 6, 2), (2273, .aload_n 2, 1), (2274, .invokevirtual 179, 3), (2277, .iload 5, 2), (2279, .if_icmp .eq 5, 3), (2282, .iconst 0, 1), (2283, .ireturn, 1), (2284, .iload 5, 2), (2286, .ifCond .ne 15, 3), (2289, .aload_n 3, 1), (2290, .iconst 0, 1), (2291, .laload, 1), (2292, .iload 6, 2), (2294, .i2l, 1), (2295, .lcmp, 1), (2296, .ifCond .eq 5, 3), (2299, .iconst 0, 1), (2300, .ireturn, 1), (2301, .goto 955, 3), (2304, .aload_n 1, 1), (2305, .aload_n 0, 1), (2306, .iload 4, 2), (2308, .iconst 1, 1), (2309, .iadd, 1), (2310, .iaload, 1), (2311, .aload_n 0, 1), (2312, .iload 4, 2), (2314, .iconst 2, 1), (2315, .iadd, 1), (2316, .iaload, 1), (2317, .aload_n 3, 1), (2318, .invokestatic 297, 3), (2321, .istore 5, 2), (2323, .aload_n 2, 1), (2324, .aload_n 0, 1), (2325, .iload 4, 2), (2327, .iconst 1, 1), (2328, .iadd, 1), (2329, .iaload, 1), (2330, .aload_n 0, 1), (2331, .iload 4, 2), (2333, .iconst 2, 1), (2334, .iadd, 1), (2335, .iaload, 1), (2336, .invokevirtual 299, 3), (2339, .istore 6, 2), (2341, .aload_n 2, 1), (2342, .invokevirtual 179, 3), (2345, .iload 5, 2), (2347, .if_icmp .eq 5, 3), (2350, .iconst 0, 1), (2351, .ireturn, 1), (2352, .iload 5, 2), (2354, .ifCond .ne 15, 3), (2357, .aload_n 3, 1), (2358, .iconst 0, 1), (2359, .laload, 1), (2360, .iload 6, 2), (2362, .i2l, 1), (2363, .lcmp, 1), (2364, .ifCond .eq 5, 3), (2367, .iconst 0, 1), (2368, .ireturn, 1), (2369, .goto 887, 3), (2372, .aload_n 1, 1), (2373, .aload_n 0, 1), (2374, .iload 4, 2), (2376, .iconst 1, 1), (2377, .iadd, 1), (2378, .iaload, 1), (2379, .aload_n 0, 1), (2380, .iload 4, 2), (2382, .iconst 2, 1), (2383, .iadd, 1), (2384, .iaload, 1)]
theorem dl_13_ok : ∀ q ∈ dl_13, decode code q.1 = .ok (q.2.1, q.2.2) := by decide +kernel
theorem dl_13_x (k : Nat) {pc : Nat} {i : Instr} {n : Nat} (h : dl_13[k]? = some (pc, i, n)) : decode code pc = .ok (i, n) := dl_13_ok (pc, i, n) (List.mem_of_getElem? h)
theorem dM_2237 : decode code 2237 = .ok (.aload_n 0, 1) := dl_13_x 0 rfl
theorem dM_2238 : decode code 2238 = .ok (.iload 4, 2) := dl_13_x 1 rfl
theorem dM_2240 : decode code 2240 = .ok (.iconst 1, 1) := dl_13_x 2 rfl
theorem dM_2241 : decode code 2241 = .ok (.iadd, 1) := dl_13_x 3 rfl
theorem dM_2242 : decode code 2242 = .ok (.iaload, 1) := dl_13_x 4 rfl
theorem dM_2243 : decode code 2243 = .ok (.aload_n 0, 1) := dl_13_x 5 rfl
theorem dM_2244 : decode code 2244 = .ok (.iload 4, 2) := dl_13_x 6 rfl
theorem dM_2246 : decode code 2246 = .ok (.iconst 2, 1) := dl_13_x 7 rfl
theorem dM_2247 : decode code 2247 = .ok (.iadd, 1) := dl_13_x 8 rfl
theorem dM_2248 : decode code 2248 = .ok (.iaload, 1) := dl_13_x 9 rfl
theorem dM_2249 : decode code 2249 = .ok (.aload_n 3, 1) := dl_13_x 10 rfl
theorem dM_2250 : decode code 2250 = .ok (.invokestatic 294, 3) := dl_13_x 11 rfl
theorem dM_2253 : decode code 2253 = .ok (.istore 5, 2) := dl_13_x 12 rfl
theorem dM_2255 : decode code 2255 = .ok (.aload_n 2, 1) := dl_13_x 13 rfl
theorem dM_2256 : decode code 2256 = .ok (.aload_n 0, 1) := dl_13_x 14 rfl
theorem dM_2257 : decode code 2257 = .ok (.iload 4, 2) := dl_13_x 15 rfl
theorem dM_2259 : decode code 2259 = .ok (.iconst 1, 1) := dl_13_x 16 rfl
theorem dM_2260 : decode code 2260 = .ok (.iadd, 1) := dl_13_x 17 rfl
theorem dM_2261 : decode code 2261 = .ok (.iaload, 1) := dl_13_x 18 rfl
theorem dM_2262 : decode code 2262 = .ok (.aload_n 0, 1) := dl_13_x 19 rfl
theorem dM_2263 : decode code 2263 = .ok (.iload 4, 2) := dl_13_x 20 rfl
theorem dM_2265 : decode code 2265 = .ok (.iconst 2, 1) := dl_13_x 21 rfl
theorem dM_2266 : decode code 2266 = .ok (.iadd, 1) := dl_13_x 22 rfl
theorem dM_2267 : decode code 2267 = .ok (.iaload, 1) := dl_13_x 23 rfl
theorem dM_2268 : decode code 2268 = .ok (.invokevirtual 296, 3) := dl_13_x 24 rfl
theorem dM_2271 : decode code 2271 = .ok (.istore 6, 2) := dl_13_x 25 rfl
theorem dM_2273 : decode code 2273 = .ok (.aload_n 2, 1) := dl_13_x 26 rfl
theorem dM_2274 : decode code 2274 = .ok (.invokevirtual 179, 3) := dl_13_x 27 rfl
theorem dM_2277 : decode code 2277 = .ok (.iload 5, 2) := dl_13_x 28 rfl
theorem dM_2279 : decode code 2279 = .ok (.if_icmp .eq 5, 3) := dl_13_x 29 rfl
theorem dM_2282 : decode code 2282 = .ok (.iconst 0, 1) := dl_13_x 30 rfl
theorem dM_2283 : decode code 2283 = .ok (.ireturn, 1) := dl_13_x 31 rfl
theorem dM_2284 : decode code 2284 = .ok (.iload 5, 2) := dl_13_x 32 rfl
theorem dM_2286 : decode code 2286 = .ok (.ifCond .ne 15, 3) := dl_13_x 33 rfl
theorem dM_2289 : decode code 2289 = .ok (.aload_n 3, 1) := dl_13_x 34 rfl
theorem dM_2290 : decode code 2290 = .ok (.iconst 0, 1) := dl_13_x 35 rfl
theorem dM_2291 : decode code 2291 = .ok (.laload, 1) := dl_13_x 36 rfl
theorem dM_2292 : decode code 2292 = .ok (.iload 6, 2) := dl_13_x 37 rfl
theorem dM_2294 : decode code 2294 = .ok (.i2l, 1) := dl_13_x 38 rfl
theorem dM_2295 : decode code 2295 = .ok (.lcmp, 1) := dl_13_x 39 rfl
theorem dM_2296 : decode code 2296 = .ok (.ifCond .eq 5, 3) := dl_13_x 40 rfl
theorem dM_2299 : decode code 2299 = .ok (.iconst 0, 1) := dl_13_x 41 rfl
theorem dM_2300 : decode code 2300 = .ok (.ireturn, 1) := dl_13_x 42 rfl
theorem dM_2301 : decode code 2301 = .ok (.goto 955, 3) := dl_13_x 43 rfl
theorem dM_2304 : decode code 2304 = .ok (.aload_n 1, 1) := dl_13_x 44 rfl
theorem dM_2305 : decode code 2305 = .ok (.aload_n 0, 1) := dl_13_x 45 rfl
theorem dM_2306 : decode code 2306 = .ok (.iload 4, 2) := dl_13_x 46 rfl
theorem dM_2308 : decode code 2308 = .ok (.iconst 1, 1) := dl_13_x 47 rfl
theorem dM_2309 : decode code 2309 = .ok (.iadd, 1) := dl_13_x 48 rfl
theorem dM_2310 : decode code 2310 = .ok (.iaload, 1) := dl_13_x 49 rfl
theorem dM_2311 : decode code 2311 = .ok (.aload_n 0, 1) := dl_13_x 50 rfl
theorem dM_2312 : decode code 2312 = .ok (.iload 4, 2) := dl_13_x 51 rfl
theorem dM_2314 : decode code 2314 = .ok (.iconst 2, 1) := dl_13_x 52 rfl
theorem dM_2315 : decode code 2315 = .ok (.iadd, 1) := dl_13_x 53 rfl
theorem dM_2316 : decode code 2316 = .ok (.iaload, 1) := dl_13_x 54 rfl
theorem dM_2317 : decode code 2317 = .ok (.aload_n 3, 1) := dl_13_x 55 rfl
theorem dM_2318 : decode code 2318 = .ok (.invokestatic 297, 3) := dl_13_x 56 rfl
theorem dM_2321 : decode code 2321 = .ok (.istore 5, 2) := dl_13_x 57 rfl
theorem dM_2323 : decode code 2323 = .ok (.aload_n 2, 1) := dl_13_x 58 rfl
theorem dM_2324 : decode code 2324 = .ok (.aload_n 0, 1) := dl_13_x 59 rfl
theorem dM_2325 : decode code 2325 = .ok (.iload 4, 2) := dl_13_x 60 rfl
theorem dM_2327 : decode code 2327 = .ok (.iconst 1, 1) := dl_13_x 61 rfl
theorem dM_2328 : decode code 2328 = .ok (.iadd, 1) := dl_13_x 62 rfl
theorem dM_2329 : decode code 2329 = .ok (.iaload, 1) := dl_13_x 63 rfl
theorem dM_2330 : decode code 2330 = .ok (.aload_n 0, 1) := dl_13_x 64 rfl
theorem dM_2331 : decode code 2331 = .ok (.iload 4, 2) := dl_13_x 65 rfl
theorem dM_2333 : decode code 2333 = .ok (.iconst 2, 1) := dl_13_x 66 rfl
theorem dM_2334 : decode code 2334 = .ok (.iadd, 1) := dl_13_x 67 rfl
theorem dM_2335 : decode code 2335 = .ok (.iaload, 1) := dl_13_x 68 rfl
theorem dM_2336 : decode code 2336 = .ok (.invokevirtual 299, 3) := dl_13_x 69 rfl
theorem dM_2339 : decode code 2339 = .ok (.istore 6, 2) := dl_13_x 70 rfl
theorem dM_2341 : decode code 2341 = .ok (.aload_n 2, 1) := dl_13_x 71 rfl
theorem dM_2342 : decode code 2342 = .ok (.invokevirtual 179, 3) := dl_13_x 72 rfl
theorem dM_2345 : decode code 2345 = .ok (.iload 5, 2) := dl_13_x 73 rfl
theorem dM_2347 : decode code 2347 = .ok (.if_icmp .eq 5, 3) := dl_13_x 74 rfl
theorem dM_2350 : decode code 2350 = .ok (.iconst 0, 1) := dl_13_x 75 rfl
theorem dM_2351 : decode code 2351 = .ok (.ireturn, 1) := dl_13_x 76 rfl
theorem dM_2352 : decode code 2352 = .ok (.iload 5, 2) := dl_13_x 77 rfl
theorem dM_2354 : decode code 2354 = .ok (.ifCond .ne 15, 3) := dl_13_x 78 rfl
theorem dM_2357 : decode code 2357 = .ok (.aload_n 3, 1) := dl_13_x 79 rfl
theorem dM_2358 : decode code 2358 = .ok (.iconst 0, 1) := dl_13_x 80 rfl
theorem dM_2359 : decode code 2359 = .ok (.laload, 1) := dl_13_x 81 rfl
theorem dM_2360 : decode code 2360 = .ok (.iload 6, 2) := dl_13_x 82 rfl
theorem dM_2362 : decode code 2362 = .ok (.i2l, 1) := dl_13_x 83 rfl
theorem dM_2363 : decode code 2363 = .ok (.lcmp, 1) := dl_13_x 84 rfl
theorem dM_2364 : decode code 2364 = .ok (.ifCond .eq 5, 3) := dl_13_x 85 rfl
theorem dM_2367 : decode code 2367 = .ok (.iconst 0, 1) := dl_13_x 86 rfl
theorem dM_2368 : decode code 2368 = .ok (.ireturn, 1) := dl_13_x 87 rfl
theorem dM_2369 : decode code 2369 = .ok (.goto 887, 3) := dl_13_x 88 rfl
theorem dM_2372 : decode code 2372 = .ok (.aload_n 1, 1) := dl_13_x 89 rfl
theorem dM_2373 : decode code 2373 = .ok (.aload_n 0, 1) := dl_13_x 90 rfl
theorem dM_2374 : decode code 2374 = .ok (.iload 4, 2) := dl_13_x 91 rfl
theorem dM_2376 : decode code 2376 = .ok (.iconst 1, 1) := dl_13_x 92 rfl
theorem dM_2377 : decode code 2377 = .ok (.iadd, 1) := dl_13_x 93 rfl
theorem dM_2378 : decode code 2378 = .ok (.iaload, 1) := dl_13_x 94 rfl
theorem dM_2379 : decode code 2379 = .ok (.aload_n 0, 1) := dl_13_x 95 rfl
theorem dM_2380 : decode code 2380 = .ok (.iload 4, 2) := dl_13_x 96 rfl
theorem dM_2382 : decode code 2382 = .ok (.iconst 2, 1) := dl_13_x 97 rfl
theorem dM_2383 : decode code 2383 = .ok (.iadd, 1) := dl_13_x 98 rfl
theorem dM_2384 : decode code 2384 = .ok (.iaload, 1) := dl_13_x 99 rfl
