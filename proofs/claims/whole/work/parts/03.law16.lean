/-! THE LAW'S OWN BODY, instruction by instruction: 2533 to 2682 -/
def dl_15 : List (Nat × Instr × Nat) := [(2533, .aload_n 0, 1), (2534, .iload 4, 2), (2536, .iconst 3, 1), (2537, .iadd, 1), (2538, .iaload, 1), (2539, .aload_n 3, 1), (2540, .invokestatic 306, 3), (2543, .istore 5, 2), (2545, .aload_n 2, 1), (2546, .aload_n 0, 1), (2547, .iload 4, 2), (2549, .iconst 1, 1), (2550, .iadd, 1), (2551, .iaload, 1), (2552, .aload_n 0, 1), (2553, .iload 4, 2), (2555, .iconst 2, 1), (2556, .iadd, 1), (2557, .iaload, 1), (2558, .aload_n 0, 1), (2559, .iload 4, 2), (2561, .iconst 3, 1), (2562, .iadd, 1), (2563, .iaload, 1), (2564, .invokevirtual 308, 3), (2567, .istore 6, 2), (2569, .aload_n 2, 1), (2570, .invokevirtual 179, 3), (2573, .iload 5, 2), (2575, .if_icmp .eq 5, 3), (2578, .iconst 0, 1), (2579, .ireturn, 1), (2580, .iload 5, 2), (2582, .ifCond .ne 15, 3), (2585, .aload_n 3, 1), (2586, .iconst 0, 1), (2587, .laload, 1), (2588, .iload 6, 2), (2590, .i2l, 1), (2591, .lcmp, 1), (2592, .ifCond .eq 5, 3), (2595, .iconst 0, 1), (2596, .ireturn, 1), (2597, .goto 659, 3), (2600, .aload_n 1, 1), (2601, .aload_n 0, 1), (2602, .iload 4, 2), (2604, .iconst 1, 1), (2605, .iadd, 1), (2606, .iaload, 1), (2607, .aload_n 3, 1), (2608, .invokestatic 309, 3), (2611, .istore 5, 2), (2613, .aload_n 2, 1), (2614, .aload_n 0, 1), (2615, .iload 4, 2), (2617, .iconst 1, 1), (2618, .iadd, 1), (2619, .iaload, 1), (2620, .invokevirtual 311, 3), (2623, .istore 6, 2), (2625, .aload_n 2, 1), (2626, .invokevirtual 179, 3), (2629, .iload 5, 2), (2631, .if_icmp .eq 5, 3), (2634, .iconst 0, 1), (2635, .ireturn, 1), (2636, .iload 5, 2), (2638, .ifCond .ne 15, 3), (2641, .aload_n 3, 1), (2642, .iconst 0, 1), (2643, .laload, 1), (2644, .iload 6, 2), (2646, .i2l, 1), (2647, .lcmp, 1), (2648, .ifCond .eq 5, 3), (2651, .iconst 0, 1), (2652, .ireturn, 1), (2653, .goto 603, 3), (2656, .aload_n 1, 1), (2657, .aload_n 0, 1), (2658, .iload 4, 2), (2660, .iconst 1, 1), (2661, .iadd, 1), (2662, .iaload, 1), (2663, .aload_n 0, 1), (2664, .iload 4, 2), (2666, .iconst 2, 1), (2667, .iadd, 1), (2668, .iaload, 1), (2669, .aload_n 0, 1), (2670, .iload 4, 2), (2672, .iconst 3, 1), (2673, .iadd, 1), (2674, .iaload, 1), (2675, .aload_n 3, 1), (2676, .invokestatic 312, 3), (2679, .istore 5, 2), (2681, .aload_n 2, 1), (2682, .aload_n 0, 1)]
theorem dl_15_ok : ∀ q ∈ dl_15, decode code q.1 = .ok (q.2.1, q.2.2) := by decide +kernel
theorem dl_15_x (k : Nat) {pc : Nat} {i : Instr} {n : Nat} (h : dl_15[k]? = some (pc, i, n)) : decode code pc = .ok (i, n) := dl_15_ok (pc, i, n) (List.mem_of_getElem? h)
theorem dM_2533 : decode code 2533 = .ok (.aload_n 0, 1) := dl_15_x 0 rfl
theorem dM_2534 : decode code 2534 = .ok (.iload 4, 2) := dl_15_x 1 rfl
theorem dM_2536 : decode code 2536 = .ok (.iconst 3, 1) := dl_15_x 2 rfl
theorem dM_2537 : decode code 2537 = .ok (.iadd, 1) := dl_15_x 3 rfl
theorem dM_2538 : decode code 2538 = .ok (.iaload, 1) := dl_15_x 4 rfl
theorem dM_2539 : decode code 2539 = .ok (.aload_n 3, 1) := dl_15_x 5 rfl
theorem dM_2540 : decode code 2540 = .ok (.invokestatic 306, 3) := dl_15_x 6 rfl
theorem dM_2543 : decode code 2543 = .ok (.istore 5, 2) := dl_15_x 7 rfl
theorem dM_2545 : decode code 2545 = .ok (.aload_n 2, 1) := dl_15_x 8 rfl
theorem dM_2546 : decode code 2546 = .ok (.aload_n 0, 1) := dl_15_x 9 rfl
theorem dM_2547 : decode code 2547 = .ok (.iload 4, 2) := dl_15_x 10 rfl
theorem dM_2549 : decode code 2549 = .ok (.iconst 1, 1) := dl_15_x 11 rfl
theorem dM_2550 : decode code 2550 = .ok (.iadd, 1) := dl_15_x 12 rfl
theorem dM_2551 : decode code 2551 = .ok (.iaload, 1) := dl_15_x 13 rfl
theorem dM_2552 : decode code 2552 = .ok (.aload_n 0, 1) := dl_15_x 14 rfl
theorem dM_2553 : decode code 2553 = .ok (.iload 4, 2) := dl_15_x 15 rfl
theorem dM_2555 : decode code 2555 = .ok (.iconst 2, 1) := dl_15_x 16 rfl
theorem dM_2556 : decode code 2556 = .ok (.iadd, 1) := dl_15_x 17 rfl
theorem dM_2557 : decode code 2557 = .ok (.iaload, 1) := dl_15_x 18 rfl
theorem dM_2558 : decode code 2558 = .ok (.aload_n 0, 1) := dl_15_x 19 rfl
theorem dM_2559 : decode code 2559 = .ok (.iload 4, 2) := dl_15_x 20 rfl
theorem dM_2561 : decode code 2561 = .ok (.iconst 3, 1) := dl_15_x 21 rfl
theorem dM_2562 : decode code 2562 = .ok (.iadd, 1) := dl_15_x 22 rfl
theorem dM_2563 : decode code 2563 = .ok (.iaload, 1) := dl_15_x 23 rfl
theorem dM_2564 : decode code 2564 = .ok (.invokevirtual 308, 3) := dl_15_x 24 rfl
theorem dM_2567 : decode code 2567 = .ok (.istore 6, 2) := dl_15_x 25 rfl
theorem dM_2569 : decode code 2569 = .ok (.aload_n 2, 1) := dl_15_x 26 rfl
theorem dM_2570 : decode code 2570 = .ok (.invokevirtual 179, 3) := dl_15_x 27 rfl
theorem dM_2573 : decode code 2573 = .ok (.iload 5, 2) := dl_15_x 28 rfl
theorem dM_2575 : decode code 2575 = .ok (.if_icmp .eq 5, 3) := dl_15_x 29 rfl
theorem dM_2578 : decode code 2578 = .ok (.iconst 0, 1) := dl_15_x 30 rfl
theorem dM_2579 : decode code 2579 = .ok (.ireturn, 1) := dl_15_x 31 rfl
theorem dM_2580 : decode code 2580 = .ok (.iload 5, 2) := dl_15_x 32 rfl
theorem dM_2582 : decode code 2582 = .ok (.ifCond .ne 15, 3) := dl_15_x 33 rfl
theorem dM_2585 : decode code 2585 = .ok (.aload_n 3, 1) := dl_15_x 34 rfl
theorem dM_2586 : decode code 2586 = .ok (.iconst 0, 1) := dl_15_x 35 rfl
theorem dM_2587 : decode code 2587 = .ok (.laload, 1) := dl_15_x 36 rfl
theorem dM_2588 : decode code 2588 = .ok (.iload 6, 2) := dl_15_x 37 rfl
theorem dM_2590 : decode code 2590 = .ok (.i2l, 1) := dl_15_x 38 rfl
theorem dM_2591 : decode code 2591 = .ok (.lcmp, 1) := dl_15_x 39 rfl
theorem dM_2592 : decode code 2592 = .ok (.ifCond .eq 5, 3) := dl_15_x 40 rfl
theorem dM_2595 : decode code 2595 = .ok (.iconst 0, 1) := dl_15_x 41 rfl
theorem dM_2596 : decode code 2596 = .ok (.ireturn, 1) := dl_15_x 42 rfl
theorem dM_2597 : decode code 2597 = .ok (.goto 659, 3) := dl_15_x 43 rfl
theorem dM_2600 : decode code 2600 = .ok (.aload_n 1, 1) := dl_15_x 44 rfl
theorem dM_2601 : decode code 2601 = .ok (.aload_n 0, 1) := dl_15_x 45 rfl
theorem dM_2602 : decode code 2602 = .ok (.iload 4, 2) := dl_15_x 46 rfl
theorem dM_2604 : decode code 2604 = .ok (.iconst 1, 1) := dl_15_x 47 rfl
theorem dM_2605 : decode code 2605 = .ok (.iadd, 1) := dl_15_x 48 rfl
theorem dM_2606 : decode code 2606 = .ok (.iaload, 1) := dl_15_x 49 rfl
theorem dM_2607 : decode code 2607 = .ok (.aload_n 3, 1) := dl_15_x 50 rfl
theorem dM_2608 : decode code 2608 = .ok (.invokestatic 309, 3) := dl_15_x 51 rfl
theorem dM_2611 : decode code 2611 = .ok (.istore 5, 2) := dl_15_x 52 rfl
theorem dM_2613 : decode code 2613 = .ok (.aload_n 2, 1) := dl_15_x 53 rfl
theorem dM_2614 : decode code 2614 = .ok (.aload_n 0, 1) := dl_15_x 54 rfl
theorem dM_2615 : decode code 2615 = .ok (.iload 4, 2) := dl_15_x 55 rfl
theorem dM_2617 : decode code 2617 = .ok (.iconst 1, 1) := dl_15_x 56 rfl
theorem dM_2618 : decode code 2618 = .ok (.iadd, 1) := dl_15_x 57 rfl
theorem dM_2619 : decode code 2619 = .ok (.iaload, 1) := dl_15_x 58 rfl
theorem dM_2620 : decode code 2620 = .ok (.invokevirtual 311, 3) := dl_15_x 59 rfl
theorem dM_2623 : decode code 2623 = .ok (.istore 6, 2) := dl_15_x 60 rfl
theorem dM_2625 : decode code 2625 = .ok (.aload_n 2, 1) := dl_15_x 61 rfl
theorem dM_2626 : decode code 2626 = .ok (.invokevirtual 179, 3) := dl_15_x 62 rfl
theorem dM_2629 : decode code 2629 = .ok (.iload 5, 2) := dl_15_x 63 rfl
theorem dM_2631 : decode code 2631 = .ok (.if_icmp .eq 5, 3) := dl_15_x 64 rfl
theorem dM_2634 : decode code 2634 = .ok (.iconst 0, 1) := dl_15_x 65 rfl
theorem dM_2635 : decode code 2635 = .ok (.ireturn, 1) := dl_15_x 66 rfl
theorem dM_2636 : decode code 2636 = .ok (.iload 5, 2) := dl_15_x 67 rfl
theorem dM_2638 : decode code 2638 = .ok (.ifCond .ne 15, 3) := dl_15_x 68 rfl
theorem dM_2641 : decode code 2641 = .ok (.aload_n 3, 1) := dl_15_x 69 rfl
theorem dM_2642 : decode code 2642 = .ok (.iconst 0, 1) := dl_15_x 70 rfl
theorem dM_2643 : decode code 2643 = .ok (.laload, 1) := dl_15_x 71 rfl
theorem dM_2644 : decode code 2644 = .ok (.iload 6, 2) := dl_15_x 72 rfl
theorem dM_2646 : decode code 2646 = .ok (.i2l, 1) := dl_15_x 73 rfl
theorem dM_2647 : decode code 2647 = .ok (.lcmp, 1) := dl_15_x 74 rfl
theorem dM_2648 : decode code 2648 = .ok (.ifCond .eq 5, 3) := dl_15_x 75 rfl
theorem dM_2651 : decode code 2651 = .ok (.iconst 0, 1) := dl_15_x 76 rfl
theorem dM_2652 : decode code 2652 = .ok (.ireturn, 1) := dl_15_x 77 rfl
theorem dM_2653 : decode code 2653 = .ok (.goto 603, 3) := dl_15_x 78 rfl
theorem dM_2656 : decode code 2656 = .ok (.aload_n 1, 1) := dl_15_x 79 rfl
theorem dM_2657 : decode code 2657 = .ok (.aload_n 0, 1) := dl_15_x 80 rfl
theorem dM_2658 : decode code 2658 = .ok (.iload 4, 2) := dl_15_x 81 rfl
theorem dM_2660 : decode code 2660 = .ok (.iconst 1, 1) := dl_15_x 82 rfl
theorem dM_2661 : decode code 2661 = .ok (.iadd, 1) := dl_15_x 83 rfl
theorem dM_2662 : decode code 2662 = .ok (.iaload, 1) := dl_15_x 84 rfl
theorem dM_2663 : decode code 2663 = .ok (.aload_n 0, 1) := dl_15_x 85 rfl
theorem dM_2664 : decode code 2664 = .ok (.iload 4, 2) := dl_15_x 86 rfl
theorem dM_2666 : decode code 2666 = .ok (.iconst 2, 1) := dl_15_x 87 rfl
theorem dM_2667 : decode code 2667 = .ok (.iadd, 1) := dl_15_x 88 rfl
theorem dM_2668 : decode code 2668 = .ok (.iaload, 1) := dl_15_x 89 rfl
theorem dM_2669 : decode code 2669 = .ok (.aload_n 0, 1) := dl_15_x 90 rfl
theorem dM_2670 : decode code 2670 = .ok (.iload 4, 2) := dl_15_x 91 rfl
theorem dM_2672 : decode code 2672 = .ok (.iconst 3, 1) := dl_15_x 92 rfl
theorem dM_2673 : decode code 2673 = .ok (.iadd, 1) := dl_15_x 93 rfl
theorem dM_2674 : decode code 2674 = .ok (.iaload, 1) := dl_15_x 94 rfl
theorem dM_2675 : decode code 2675 = .ok (.aload_n 3, 1) := dl_15_x 95 rfl
theorem dM_2676 : decode code 2676 = .ok (.invokestatic 312, 3) := dl_15_x 96 rfl
theorem dM_2679 : decode code 2679 = .ok (.istore 5, 2) := dl_15_x 97 rfl
theorem dM_2681 : decode code 2681 = .ok (.aload_n 2, 1) := dl_15_x 98 rfl
theorem dM_2682 : decode code 2682 = .ok (.aload_n 0, 1) := dl_15_x 99 rfl
