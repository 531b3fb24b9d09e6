/-! THE LAW'S OWN BODY, instruction by instruction: 2683 to 2756 -/
def dl_32 : List (Nat × Instr × Nat) := [(2683, .iload 4, 2), (2685, .iconst 1, 1), (2686, .iadd, 1), (2687, .iaload, 1), (2688, .aload_n 0, 1), (2689, .iload 4, 2), (2691, .iconst 2, 1), (2692, .iadd, 1), (2693, .iaload, 1), (2694, .aload_n 0, 1), (2695, .iload 4, 2), (2697, .iconst 3, 1), (2698, .iadd, 1), (2699, .iaload, 1), (2700, .invokevirtual 314, 3), (2703, .istore 6, 2), (2705, .aload_n 2, 1), (2706, .invokevirtual 179, 3), (2709, .iload 5, 2), (2711, .if_icmp .eq 5, 3), (2714, .iconst 0, 1), (2715, .ireturn, 1), (2716, .iload 5, 2), (2718, .ifCond .ne 15, 3), (2721, .aload_n 3, 1), (2722, .iconst 0, 1), (2723, .laload, 1), (2724, .iload 6, 2), (2726, .i2l, 1), (2727, .lcmp, 1), (2728, .ifCond .eq 5, 3), (2731, .iconst 0, 1), (2732, .ireturn, 1), (2733, .goto 523, 3), (2736, .aload_n 1, 1), (2737, .aload_n 0, 1), (2738, .iload 4, 2), (2740, .iconst 1, 1), (2741, .iadd, 1), (2742, .iaload, 1), (2743, .aload_n 0, 1), (2744, .iload 4, 2), (2746, .iconst 2, 1), (2747, .iadd, 1), (2748, .iaload, 1), (2749, .aload_n 3, 1), (2750, .invokestatic 315, 3), (2753, .istore 5, 2), (2755, .aload_n 2, 1), (2756, .aload_n 0, 1)]
theorem dl_32_ok : ∀ q ∈ dl_32, decode code q.1 = .ok (q.2.1, q.2.2) := by decide +kernel
theorem dl_32_x (k : Nat) {pc : Nat} {i : Instr} {n : Nat} (h : dl_32[k]? = some (pc, i, n)) : decode code pc = .ok (i, n) := dl_32_ok (pc, i, n) (List.mem_of_getElem? h)
theorem dM_2683 : decode code 2683 = .ok (.iload 4, 2) := dl_32_x 0 rfl
theorem dM_2685 : decode code 2685 = .ok (.iconst 1, 1) := dl_32_x 1 rfl
theorem dM_2686 : decode code 2686 = .ok (.iadd, 1) := dl_32_x 2 rfl
theorem dM_2687 : decode code 2687 = .ok (.iaload, 1) := dl_32_x 3 rfl
theorem dM_2688 : decode code 2688 = .ok (.aload_n 0, 1) := dl_32_x 4 rfl
theorem dM_2689 : decode code 2689 = .ok (.iload 4, 2) := dl_32_x 5 rfl
theorem dM_2691 : decode code 2691 = .ok (.iconst 2, 1) := dl_32_x 6 rfl
theorem dM_2692 : decode code 2692 = .ok (.iadd, 1) := dl_32_x 7 rfl
theorem dM_2693 : decode code 2693 = .ok (.iaload, 1) := dl_32_x 8 rfl
theorem dM_2694 : decode code 2694 = .ok (.aload_n 0, 1) := dl_32_x 9 rfl
theorem dM_2695 : decode code 2695 = .ok (.iload 4, 2) := dl_32_x 10 rfl
theorem dM_2697 : decode code 2697 = .ok (.iconst 3, 1) := dl_32_x 11 rfl
theorem dM_2698 : decode code 2698 = .ok (.iadd, 1) := dl_32_x 12 rfl
theorem dM_2699 : decode code 2699 = .ok (.iaload, 1) := dl_32_x 13 rfl
theorem dM_2700 : decode code 2700 = .ok (.invokevirtual 314, 3) := dl_32_x 14 rfl
theorem dM_2703 : decode code 2703 = .ok (.istore 6, 2) := dl_32_x 15 rfl
theorem dM_2705 : decode code 2705 = .ok (.aload_n 2, 1) := dl_32_x 16 rfl
theorem dM_2706 : decode code 2706 = .ok (.invokevirtual 179, 3) := dl_32_x 17 rfl
theorem dM_2709 : decode code 2709 = .ok (.iload 5, 2) := dl_32_x 18 rfl
theorem dM_2711 : decode code 2711 = .ok (.if_icmp .eq 5, 3) := dl_32_x 19 rfl
theorem dM_2714 : decode code 2714 = .ok (.iconst 0, 1) := dl_32_x 20 rfl
theorem dM_2715 : decode code 2715 = .ok (.ireturn, 1) := dl_32_x 21 rfl
theorem dM_2716 : decode code 2716 = .ok (.iload 5, 2) := dl_32_x 22 rfl
theorem dM_2718 : decode code 2718 = .ok (.ifCond .ne 15, 3) := dl_32_x 23 rfl
theorem dM_2721 : decode code 2721 = .ok (.aload_n 3, 1) := dl_32_x 24 rfl
theorem dM_2722 : decode code 2722 = .ok (.iconst 0, 1) := dl_32_x 25 rfl
theorem dM_2723 : decode code 2723 = .ok (.laload, 1) := dl_32_x 26 rfl
theorem dM_2724 : decode code 2724 = .ok (.iload 6, 2) := dl_32_x 27 rfl
theorem dM_2726 : decode code 2726 = .ok (.i2l, 1) := dl_32_x 28 rfl
theorem dM_2727 : decode code 2727 = .ok (.lcmp, 1) := dl_32_x 29 rfl
theorem dM_2728 : decode code 2728 = .ok (.ifCond .eq 5, 3) := dl_32_x 30 rfl
theorem dM_2731 : decode code 2731 = .ok (.iconst 0, 1) := dl_32_x 31 rfl
theorem dM_2732 : decode code 2732 = .ok (.ireturn, 1) := dl_32_x 32 rfl
theorem dM_2733 : decode code 2733 = .ok (.goto 523, 3) := dl_32_x 33 rfl
theorem dM_2736 : decode code 2736 = .ok (.aload_n 1, 1) := dl_32_x 34 rfl
theorem dM_2737 : decode code 2737 = .ok (.aload_n 0, 1) := dl_32_x 35 rfl
theorem dM_2738 : decode code 2738 = .ok (.iload 4, 2) := dl_32_x 36 rfl
theorem dM_2740 : decode code 2740 = .ok (.iconst 1, 1) := dl_32_x 37 rfl
theorem dM_2741 : decode code 2741 = .ok (.iadd, 1) := dl_32_x 38 rfl
theorem dM_2742 : decode code 2742 = .ok (.iaload, 1) := dl_32_x 39 rfl
theorem dM_2743 : decode code 2743 = .ok (.aload_n 0, 1) := dl_32_x 40 rfl
theorem dM_2744 : decode code 2744 = .ok (.iload 4, 2) := dl_32_x 41 rfl
theorem dM_2746 : decode code 2746 = .ok (.iconst 2, 1) := dl_32_x 42 rfl
theorem dM_2747 : decode code 2747 = .ok (.iadd, 1) := dl_32_x 43 rfl
theorem dM_2748 : decode code 2748 = .ok (.iaload, 1) := dl_32_x 44 rfl
theorem dM_2749 : decode code 2749 = .ok (.aload_n 3, 1) := dl_32_x 45 rfl
theorem dM_2750 : decode code 2750 = .ok (.invokestatic 315, 3) := dl_32_x 46 rfl
theorem dM_2753 : decode code 2753 = .ok (.istore 5, 2) := dl_32_x 47 rfl
theorem dM_2755 : decode code 2755 = .ok (.aload_n 2, 1) := dl_32_x 48 rfl
theorem dM_2756 : decode code 2756 = .ok (.aload_n 0, 1) := dl_32_x 49 rfl
