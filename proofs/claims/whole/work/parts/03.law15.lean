/-! THE LAW'S OWN BODY, instruction by instruction: 2385 to 2532 -/
def dl_14 : List (Nat × Instr × Nat) := [(2385, .aload_n 0, 1), (2386, .iload 4, 2), (2388, .iconst 3, 1), (2389, .iadd, 1), (2390, .iaload, 1), (2391, .aload_n 3, 1), (2392, .invokestatic 300, 3), (2395, .istore 5, 2), (2397, .aload_n 2, 1), (2398, .aload_n 0, 1), (2399, .iload 4, 2), (2401, .iconst 1, 1), (2402, .iadd, 1), (2403, .iaload, 1), (2404, .aload_n 0, 1), (2405, .iload 4, 2), (2407, .iconst 2, 1), (2408, .iadd, 1), (2409, .iaload, 1), (2410, .aload_n 0, 1), (2411, .iload 4, 2), (2413, .iconst 3, 1), (2414, .iadd, 1), (2415, .iaload, 1), (2416, .invokevirtual 302, 3), (2419, .istore 6, 2), (2421, .aload_n 2, 1), (2422, .invokevirtual 179, 3), (2425, .iload 5, 2), (2427, .if_icmp .eq 5, 3), (2430, .iconst 0, 1), (2431, .ireturn, 1), (2432, .iload 5, 2), (2434, .ifCond .ne 15, 3), (2437, .aload_n 3, 1), (2438, .iconst 0, 1), (2439, .laload, 1), (2440, .iload 6, 2), (2442, .i2l, 1), (2443, .lcmp, 1), (2444, .ifCond .eq 5, 3), (2447, .iconst 0, 1), (2448, .ireturn, 1), (2449, .goto 807, 3), (2452, .aload_n 1, 1), (2453, .aload_n 0, 1), (2454, .iload 4, 2), (2456, .iconst 1, 1), (2457, .iadd, 1), (2458, .iaload, 1), (2459, .aload_n 0, 1), (2460, .iload 4, 2), (2462, .iconst 2, 1), (2463, .iadd, 1), (2464, .iaload, 1), (2465, .aload_n 3, 1), (2466, .invokestatic 303, 3), (2469, .istore 5, 2), (2471, .aload_n 2, 1), (2472, .aload_n 0, 1), (2473, .iload 4, 2), (2475, .iconst 1, 1), (2476, .iadd, 1), (2477, .iaload, 1), (2478, .aload_n 0, 1), (2479, .iload 4, 2), (2481, .iconst 2, 1), (2482, .iadd, 1), (2483, .iaload, 1), (2484, .invokevirtual 305, 3), (2487, .istore 6, 2), (2489, .aload_n 2, 1), (2490, .invokevirtual 179, 3), (2493, .iload 5, 2), (2495, .if_icmp .eq 5, 3), (2498, .iconst 0, 1), (2499, .ireturn, 1), (2500, .iload 5, 2), (2502, .ifCond .ne 15, 3), (2505, .aload_n 3, 1), (2506, .iconst 0, 1), (2507, .laload, 1), (2508, .iload 6, 2), (2510, .i2l, 1), (2511, .lcmp, 1), (2512, .ifCond .eq 5, 3), (2515, .iconst 0, 1), (2516, .ireturn, 1), (2517, .goto 739, 3), (2520, .aload_n 1, 1), (2521, .aload_n 0, 1), (2522, .iload 4, 2), (2524, .iconst 1, 1), (2525, .iadd, 1), (2526, .iaload, 1), (2527, .aload_n 0, 1), (2528, .iload 4, 2), (2530, .iconst 2, 1), (2531, .iadd, 1), (2532, .iaload, 1)]
theorem dl_14_ok : ∀ q ∈ dl_14, decode code q.1 = .ok (q.2.1, q.2.2) := by decide +kernel
theorem dl_14_x (k : Nat) {pc : Nat} {i : Instr} {n : Nat} (h : dl_14[k]? = some (pc, i, n)) : decode code pc = .ok (i, n) := dl_14_ok (pc, i, n) (List.mem_of_getElem? h)
theorem dM_2385 : decode code 2385 = .ok (.aload_n 0, 1) := dl_14_x 0 rfl
theorem dM_2386 : decode code 2386 = .ok (.iload 4, 2) := dl_14_x 1 rfl
theorem dM_2388 : decode code 2388 = .ok (.iconst 3, 1) := dl_14_x 2 rfl
theorem dM_2389 : decode code 2389 = .ok (.iadd, 1) := dl_14_x 3 rfl
theorem dM_2390 : decode code 2390 = .ok (.iaload, 1) := dl_14_x 4 rfl
theorem dM_2391 : decode code 2391 = .ok (.aload_n 3, 1) := dl_14_x 5 rfl
theorem dM_2392 : decode code 2392 = .ok (.invokestatic 300, 3) := dl_14_x 6 rfl
theorem dM_2395 : decode code 2395 = .ok (.istore 5, 2) := dl_14_x 7 rfl
theorem dM_2397 : decode code 2397 = .ok (.aload_n 2, 1) := dl_14_x 8 rfl
theorem dM_2398 : decode code 2398 = .ok (.aload_n 0, 1) := dl_14_x 9 rfl
theorem dM_2399 : decode code 2399 = .ok (.iload 4, 2) := dl_14_x 10 rfl
theorem dM_2401 : decode code 2401 = .ok (.iconst 1, 1) := dl_14_x 11 rfl
theorem dM_2402 : decode code 2402 = .ok (.iadd, 1) := dl_14_x 12 rfl
theorem dM_2403 : decode code 2403 = .ok (.iaload, 1) := dl_14_x 13 rfl
theorem dM_2404 : decode code 2404 = .ok (.aload_n 0, 1) := dl_14_x 14 rfl
theorem dM_2405 : decode code 2405 = .ok (.iload 4, 2) := dl_14_x 15 rfl
theorem dM_2407 : decode code 2407 = .ok (.iconst 2, 1) := dl_14_x 16 rfl
theorem dM_2408 : decode code 2408 = .ok (.iadd, 1) := dl_14_x 17 rfl
theorem dM_2409 : decode code 2409 = .ok (.iaload, 1) := dl_14_x 18 rfl
theorem dM_2410 : decode code 2410 = .ok (.aload_n 0, 1) := dl_14_x 19 rfl
theorem dM_2411 : decode code 2411 = .ok (.iload 4, 2) := dl_14_x 20 rfl
theorem dM_2413 : decode code 2413 = .ok (.iconst 3, 1) := dl_14_x 21 rfl
theorem dM_2414 : decode code 2414 = .ok (.iadd, 1) := dl_14_x 22 rfl
theorem dM_2415 : decode code 2415 = .ok (.iaload, 1) := dl_14_x 23 rfl
theorem dM_2416 : decode code 2416 = .ok (.invokevirtual 302, 3) := dl_14_x 24 rfl
theorem dM_2419 : decode code 2419 = .ok (.istore 6, 2) := dl_14_x 25 rfl
theorem dM_2421 : decode code 2421 = .ok (.aload_n 2, 1) := dl_14_x 26 rfl
theorem dM_2422 : decode code 2422 = .ok (.invokevirtual 179, 3) := dl_14_x 27 rfl
theorem dM_2425 : decode code 2425 = .ok (.iload 5, 2) := dl_14_x 28 rfl
theorem dM_2427 : decode code 2427 = .ok (.if_icmp .eq 5, 3) := dl_14_x 29 rfl
theorem dM_2430 : decode code 2430 = .ok (.iconst 0, 1) := dl_14_x 30 rfl
theorem dM_2431 : decode code 2431 = .ok (.ireturn, 1) := dl_14_x 31 rfl
theorem dM_2432 : decode code 2432 = .ok (.iload 5, 2) := dl_14_x 32 rfl
theorem dM_2434 : decode code 2434 = .ok (.ifCond .ne 15, 3) := dl_14_x 33 rfl
theorem dM_2437 : decode code 2437 = .ok (.aload_n 3, 1) := dl_14_x 34 rfl
theorem dM_2438 : decode code 2438 = .ok (.iconst 0, 1) := dl_14_x 35 rfl
theorem dM_2439 : decode code 2439 = .ok (.laload, 1) := dl_14_x 36 rfl
theorem dM_2440 : decode code 2440 = .ok (.iload 6, 2) := dl_14_x 37 rfl
theorem dM_2442 : decode code 2442 = .ok (.i2l, 1) := dl_14_x 38 rfl
theorem dM_2443 : decode code 2443 = .ok (.lcmp, 1) := dl_14_x 39 rfl
theorem dM_2444 : decode code 2444 = .ok (.ifCond .eq 5, 3) := dl_14_x 40 rfl
theorem dM_2447 : decode code 2447 = .ok (.iconst 0, 1) := dl_14_x 41 rfl
theorem dM_2448 : decode code 2448 = .ok (.ireturn, 1) := dl_14_x 42 rfl
theorem dM_2449 : decode code 2449 = .ok (.goto 807, 3) := dl_14_x 43 rfl
theorem dM_2452 : decode code 2452 = .ok (.aload_n 1, 1) := dl_14_x 44 rfl
theorem dM_2453 : decode code 2453 = .ok (.aload_n 0, 1) := dl_14_x 45 rfl
theorem dM_2454 : decode code 2454 = .ok (.iload 4, 2) := dl_14_x 46 rfl
theorem dM_2456 : decode code 2456 = .ok (.iconst 1, 1) := dl_14_x 47 rfl
theorem dM_2457 : decode code 2457 = .ok (.iadd, 1) := dl_14_x 48 rfl
theorem dM_2458 : decode code 2458 = .ok (.iaload, 1) := dl_14_x 49 rfl
theorem dM_2459 : decode code 2459 = .ok (.aload_n 0, 1) := dl_14_x 50 rfl
theorem dM_2460 : decode code 2460 = .ok (.iload 4, 2) := dl_14_x 51 rfl
theorem dM_2462 : decode code 2462 = .ok (.iconst 2, 1) := dl_14_x 52 rfl
theorem dM_2463 : decode code 2463 = .ok (.iadd, 1) := dl_14_x 53 rfl
theorem dM_2464 : decode code 2464 = .ok (.iaload, 1) := dl_14_x 54 rfl
theorem dM_2465 : decode code 2465 = .ok (.aload_n 3, 1) := dl_14_x 55 rfl
theorem dM_2466 : decode code 2466 = .ok (.invokestatic 303, 3) := dl_14_x 56 rfl
theorem dM_2469 : decode code 2469 = .ok (.istore 5, 2) := dl_14_x 57 rfl
theorem dM_2471 : decode code 2471 = .ok (.aload_n 2, 1) := dl_14_x 58 rfl
theorem dM_2472 : decode code 2472 = .ok (.aload_n 0, 1) := dl_14_x 59 rfl
theorem dM_2473 : decode code 2473 = .ok (.iload 4, 2) := dl_14_x 60 rfl
theorem dM_2475 : decode code 2475 = .ok (.iconst 1, 1) := dl_14_x 61 rfl
theorem dM_2476 : decode code 2476 = .ok (.iadd, 1) := dl_14_x 62 rfl
theorem dM_2477 : decode code 2477 = .ok (.iaload, 1) := dl_14_x 63 rfl
theorem dM_2478 : decode code 2478 = .ok (.aload_n 0, 1) := dl_14_x 64 rfl
theorem dM_2479 : decode code 2479 = .ok (.iload 4, 2) := dl_14_x 65 rfl
theorem dM_2481 : decode code 2481 = .ok (.iconst 2, 1) := dl_14_x 66 rfl
theorem dM_2482 : decode code 2482 = .ok (.iadd, 1) := dl_14_x 67 rfl
theorem dM_2483 : decode code 2483 = .ok (.iaload, 1) := dl_14_x 68 rfl
theorem dM_2484 : decode code 2484 = .ok (.invokevirtual 305, 3) := dl_14_x 69 rfl
theorem dM_2487 : decode code 2487 = .ok (.istore 6, 2) := dl_14_x 70 rfl
theorem dM_2489 : decode code 2489 = .ok (.aload_n 2, 1) := dl_14_x 71 rfl
theorem dM_2490 : decode code 2490 = .ok (.invokevirtual 179, 3) := dl_14_x 72 rfl
theorem dM_2493 : decode code 2493 = .ok (.iload 5, 2) := dl_14_x 73 rfl
theorem dM_2495 : decode code 2495 = .ok (.if_icmp .eq 5, 3) := dl_14_x 74 rfl
theorem dM_2498 : decode code 2498 = .ok (.iconst 0, 1) := dl_14_x 75 rfl
theorem dM_2499 : decode code 2499 = .ok (.ireturn, 1) := dl_14_x 76 rfl
theorem dM_2500 : decode code 2500 = .ok (.iload 5, 2) := dl_14_x 77 rfl
theorem dM_2502 : decode code 2502 = .ok (.ifCond .ne 15, 3) := dl_14_x 78 rfl
theorem dM_2505 : decode code 2505 = .ok (.aload_n 3, 1) := dl_14_x 79 rfl
theorem dM_2506 : decode code 2506 = .ok (.iconst 0, 1) := dl_14_x 80 rfl
theorem dM_2507 : decode code 2507 = .ok (.laload, 1) := dl_14_x 81 rfl
theorem dM_2508 : decode code 2508 = .ok (.iload 6, 2) := dl_14_x 82 rfl
theorem dM_2510 : decode code 2510 = .ok (.i2l, 1) := dl_14_x 83 rfl
theorem dM_2511 : decode code 2511 = .ok (.lcmp, 1) := dl_14_x 84 rfl
theorem dM_2512 : decode code 2512 = .ok (.ifCond .eq 5, 3) := dl_14_x 85 rfl
theorem dM_2515 : decode code 2515 = .ok (.iconst 0, 1) := dl_14_x 86 rfl
theorem dM_2516 : decode code 2516 = .ok (.ireturn, 1) := dl_14_x 87 rfl
theorem dM_2517 : decode code 2517 = .ok (.goto 739, 3) := dl_14_x 88 rfl
theorem dM_2520 : decode code 2520 = .ok (.aload_n 1, 1) := dl_14_x 89 rfl
theorem dM_2521 : decode code 2521 = .ok (.aload_n 0, 1) := dl_14_x 90 rfl
theorem dM_2522 : decode code 2522 = .ok (.iload 4, 2) := dl_14_x 91 rfl
theorem dM_2524 : decode code 2524 = .ok (.iconst 1, 1) := dl_14_x 92 rfl
theorem dM_2525 : decode code 2525 = .ok (.iadd, 1) := dl_14_x 93 rfl
theorem dM_2526 : decode code 2526 = .ok (.iaload, 1) := dl_14_x 94 rfl
theorem dM_2527 : decode code 2527 = .ok (.aload_n 0, 1) := dl_14_x 95 rfl
theorem dM_2528 : decode code 2528 = .ok (.iload 4, 2) := dl_14_x 96 rfl
theorem dM_2530 : decode code 2530 = .ok (.iconst 2, 1) := dl_14_x 97 rfl
theorem dM_2531 : decode code 2531 = .ok (.iadd, 1) := dl_14_x 98 rfl
theorem dM_2532 : decode code 2532 = .ok (.iaload, 1) := dl_14_x 99 rfl
