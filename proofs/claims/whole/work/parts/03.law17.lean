/-! THE LAW'S OWN BODY, instruction by instruction: 2683 to 2835 -/
def dl_16 : List (Nat × Instr × Nat) := [(2683, .iload 4, 2), (2685, .iconst 1, 1), (2686, .iadd, 1), (2687, .iaload, 1), (2688, .aload_n 0, 1), (2689, .iload 4, 2), (2691, .iconst 2, 1), (2692, .iadd, 1), (2693, .iaload, 1), (2694, .aload_n 0, 1), (2695, .iload 4, 2), (2697, .iconst 3, 1), (2698, .iadd, 1), (2699, .iaload, 1), (2700, .invokevirtual 314, 3), (2703, .istore 6, 2), (2705, .aload_n 2, 1), (2706, .invokevirtual 179, 3), (2709, .iload 5, 2), (2711, .if_icmp .eq 5, 3), (2714, .iconst 0, 1), (2715, .ireturn, 1), (2716, .iload 5, 2), (2718, .ifCond .ne 15, 3), (2721, .aload_n 3, 1), (2722, .iconst 0, 1), (2723, .laload, 1), (2724, .iload 6, 2), (2726, .i2l, 1), (2727, .lcmp, 1), (2728, .ifCond .eq 5, 3), (2731, .iconst 0, 1), (2732, .ireturn, 1), (2733, .goto 523, 3), (2736, .aload_n 1, 1), (2737, .aload_n 0, 1), (2738, .iload 4, 2), (2740, .iconst 1, 1), (2741, .iadd, 1), (2742, .iaload, 1), (2743, .aload_n 0, 1), (2744, .iload 4, 2), (2746, .iconst 2, 1), (2747, .iadd, 1), (2748, .iaload, 1), (2749, .aload_n 3, 1), (2750, .invokestatic 315, 3), (2753, .istore 5, 2), (2755, .aload_n 2, 1), (2756, .aload_n 0, 1), (2757, .iload 4, 2), (2759, .iconst 1, 1), (2760, .iadd, 1), (2761, .iaload, 1), (2762, .aload_n 0, 1), (2763, .iload 4, 2), (2765, .iconst 2, 1), (2766, .iadd, 1), (2767, .iaload, 1), (2768, .invokevirtual 317, 3), (2771, .istore 6, 2), (2773, .aload_n 2, 1), (2774, .invokevirtual 179, 3), (2777, .iload 5, 2), (2779, .if_icmp .eq 5, 3), (2782, .iconst 0, 1), (2783, .ireturn, 1), (2784, .iload 5, 2), (2786, .ifCond .ne 15, 3), (2789, .aload_n 3, 1), (2790, .iconst 0, 1), (2791, .laload, 1), (2792, .iload 6, 2), (2794, .i2l, 1), (2795, .lcmp, 1), (2796, .ifCond .eq 5, 3), (2799, .iconst 0, 1), (2800, .ireturn, 1), (2801, .goto 455, 3), (2804, .aload_n 1, 1), (2805, .aload_n 0, 1), (2806, .iload 4, 2), (2808, .iconst 1, 1), (2809, .iadd, 1), (2810, .iaload, 1), (2811, .aload_n 3, 1), (2812, .invokestatic 318, 3), (2815, .istore 5, 2), (2817, .aload_n 2, 1), (2818, .aload_n 0, 1), (2819, .iload 4, 2), (2821, .iconst 1, 1), (2822, .iadd, 1), (2823, .iaload, 1), (2824, .invokevirtual 320, 3), (2827, .lstore 6, 2), (2829, .aload_n 2, 1), (2830, .invokevirtual 179, 3), (2833, .iload 5, 2), (2835, .if_icmp .eq 5, 3)]
theorem dl_16_ok : ∀ q ∈ dl_16, decode code q.1 = .ok (q.2.1, q.2.2) := by decide +kernel
theorem dl_16_x (k : Nat) {pc : Nat} {i : Instr} {n : Nat} (h : dl_16[k]? = some (pc, i, n)) : decode code pc = .ok (i, n) := dl_16_ok (pc, i, n) (List.mem_of_getElem? h)
theorem dM_2683 : decode code 2683 = .ok (.iload 4, 2) := dl_16_x 0 rfl
theorem dM_2685 : decode code 2685 = .ok (.iconst 1, 1) := dl_16_x 1 rfl
theorem dM_2686 : decode code 2686 = .ok (.iadd, 1) := dl_16_x 2 rfl
theorem dM_2687 : decode code 2687 = .ok (.iaload, 1) := dl_16_x 3 rfl
theorem dM_2688 : decode code 2688 = .ok (.aload_n 0, 1) := dl_16_x 4 rfl
theorem dM_2689 : decode code 2689 = .ok (.iload 4, 2) := dl_16_x 5 rfl
theorem dM_2691 : decode code 2691 = .ok (.iconst 2, 1) := dl_16_x 6 rfl
theorem dM_2692 : decode code 2692 = .ok (.iadd, 1) := dl_16_x 7 rfl
theorem dM_2693 : decode code 2693 = .ok (.iaload, 1) := dl_16_x 8 rfl
theorem dM_2694 : decode code 2694 = .ok (.aload_n 0, 1) := dl_16_x 9 rfl
theorem dM_2695 : decode code 2695 = .ok (.iload 4, 2) := dl_16_x 10 rfl
theorem dM_2697 : decode code 2697 = .ok (.iconst 3, 1) := dl_16_x 11 rfl
theorem dM_2698 : decode code 2698 = .ok (.iadd, 1) := dl_16_x 12 rfl
theorem dM_2699 : decode code 2699 = .ok (.iaload, 1) := dl_16_x 13 rfl
theorem dM_2700 : decode code 2700 = .ok (.invokevirtual 314, 3) := dl_16_x 14 rfl
theorem dM_2703 : decode code 2703 = .ok (.istore 6, 2) := dl_16_x 15 rfl
theorem dM_2705 : decode code 2705 = .ok (.aload_n 2, 1) := dl_16_x 16 rfl
theorem dM_2706 : decode code 2706 = .ok (.invokevirtual 179, 3) := dl_16_x 17 rfl
theorem dM_2709 : decode code 2709 = .ok (.iload 5, 2) := dl_16_x 18 rfl
theorem dM_2711 : decode code 2711 = .ok (.if_icmp .eq 5, 3) := dl_16_x 19 rfl
theorem dM_2714 : decode code 2714 = .ok (.iconst 0, 1) := dl_16_x 20 rfl
theorem dM_2715 : decode code 2715 = .ok (.ireturn, 1) := dl_16_x 21 rfl
theorem dM_2716 : decode code 2716 = .ok (.iload 5, 2) := dl_16_x 22 rfl
theorem dM_2718 : decode code 2718 = .ok (.ifCond .ne 15, 3) := dl_16_x 23 rfl
theorem dM_2721 : decode code 2721 = .ok (.aload_n 3, 1) := dl_16_x 24 rfl
theorem dM_2722 : decode code 2722 = .ok (.iconst 0, 1) := dl_16_x 25 rfl
theorem dM_2723 : decode code 2723 = .ok (.laload, 1) := dl_16_x 26 rfl
theorem dM_2724 : decode code 2724 = .ok (.iload 6, 2) := dl_16_x 27 rfl
theorem dM_2726 : decode code 2726 = .ok (.i2l, 1) := dl_16_x 28 rfl
theorem dM_2727 : decode code 2727 = .ok (.lcmp, 1) := dl_16_x 29 rfl
theorem dM_2728 : decode code 2728 = .ok (.ifCond .eq 5, 3) := dl_16_x 30 rfl
theorem dM_2731 : decode code 2731 = .ok (.iconst 0, 1) := dl_16_x 31 rfl
theorem dM_2732 : decode code 2732 = .ok (.ireturn, 1) := dl_16_x 32 rfl
theorem dM_2733 : decode code 2733 = .ok (.goto 523, 3) := dl_16_x 33 rfl
theorem dM_2736 : decode code 2736 = .ok (.aload_n 1, 1) := dl_16_x 34 rfl
theorem dM_2737 : decode code 2737 = .ok (.aload_n 0, 1) := dl_16_x 35 rfl
theorem dM_2738 : decode code 2738 = .ok (.iload 4, 2) := dl_16_x 36 rfl
theorem dM_2740 : decode code 2740 = .ok (.iconst 1, 1) := dl_16_x 37 rfl
theorem dM_2741 : decode code 2741 = .ok (.iadd, 1) := dl_16_x 38 rfl
theorem dM_2742 : decode code 2742 = .ok (.iaload, 1) := dl_16_x 39 rfl
theorem dM_2743 : decode code 2743 = .ok (.aload_n 0, 1) := dl_16_x 40 rfl
theorem dM_2744 : decode code 2744 = .ok (.iload 4, 2) := dl_16_x 41 rfl
theorem dM_2746 : decode code 2746 = .ok (.iconst 2, 1) := dl_16_x 42 rfl
theorem dM_2747 : decode code 2747 = .ok (.iadd, 1) := dl_16_x 43 rfl
theorem dM_2748 : decode code 2748 = .ok (.iaload, 1) := dl_16_x 44 rfl
theorem dM_2749 : decode code 2749 = .ok (.aload_n 3, 1) := dl_16_x 45 rfl
theorem dM_2750 : decode code 2750 = .ok (.invokestatic 315, 3) := dl_16_x 46 rfl
theorem dM_2753 : decode code 2753 = .ok (.istore 5, 2) := dl_16_x 47 rfl
theorem dM_2755 : decode code 2755 = .ok (.aload_n 2, 1) := dl_16_x 48 rfl
theorem dM_2756 : decode code 2756 = .ok (.aload_n 0, 1) := dl_16_x 49 rfl
theorem dM_2757 : decode code 2757 = .ok (.iload 4, 2) := dl_16_x 50 rfl
theorem dM_2759 : decode code 2759 = .ok (.iconst 1, 1) := dl_16_x 51 rfl
theorem dM_2760 : decode code 2760 = .ok (.iadd, 1) := dl_16_x 52 rfl
theorem dM_2761 : decode code 2761 = .ok (.iaload, 1) := dl_16_x 53 rfl
theorem dM_2762 : decode code 2762 = .ok (.aload_n 0, 1) := dl_16_x 54 rfl
theorem dM_2763 : decode code 2763 = .ok (.iload 4, 2) := dl_16_x 55 rfl
theorem dM_2765 : decode code 2765 = .ok (.iconst 2, 1) := dl_16_x 56 rfl
theorem dM_2766 : decode code 2766 = .ok (.iadd, 1) := dl_16_x 57 rfl
theorem dM_2767 : decode code 2767 = .ok (.iaload, 1) := dl_16_x 58 rfl
theorem dM_2768 : decode code 2768 = .ok (.invokevirtual 317, 3) := dl_16_x 59 rfl
theorem dM_2771 : decode code 2771 = .ok (.istore 6, 2) := dl_16_x 60 rfl
theorem dM_2773 : decode code 2773 = .ok (.aload_n 2, 1) := dl_16_x 61 rfl
theorem dM_2774 : decode code 2774 = .ok (.invokevirtual 179, 3) := dl_16_x 62 rfl
theorem dM_2777 : decode code 2777 = .ok (.iload 5, 2) := dl_16_x 63 rfl
theorem dM_2779 : decode code 2779 = .ok (.if_icmp .eq 5, 3) := dl_16_x 64 rfl
theorem dM_2782 : decode code 2782 = .ok (.iconst 0, 1) := dl_16_x 65 rfl
theorem dM_2783 : decode code 2783 = .ok (.ireturn, 1) := dl_16_x 66 rfl
theorem dM_2784 : decode code 2784 = .ok (.iload 5, 2) := dl_16_x 67 rfl
theorem dM_2786 : decode code 2786 = .ok (.ifCond .ne 15, 3) := dl_16_x 68 rfl
theorem dM_2789 : decode code 2789 = .ok (.aload_n 3, 1) := dl_16_x 69 rfl
theorem dM_2790 : decode code 2790 = .ok (.iconst 0, 1) := dl_16_x 70 rfl
theorem dM_2791 : decode code 2791 = .ok (.laload, 1) := dl_16_x 71 rfl
theorem dM_2792 : decode code 2792 = .ok (.iload 6, 2) := dl_16_x 72 rfl
theorem dM_2794 : decode code 2794 = .ok (.i2l, 1) := dl_16_x 73 rfl
theorem dM_2795 : decode code 2795 = .ok (.lcmp, 1) := dl_16_x 74 rfl
theorem dM_2796 : decode code 2796 = .ok (.ifCond .eq 5, 3) := dl_16_x 75 rfl
theorem dM_2799 : decode code 2799 = .ok (.iconst 0, 1) := dl_16_x 76 rfl
theorem dM_2800 : decode code 2800 = .ok (.ireturn, 1) := dl_16_x 77 rfl
theorem dM_2801 : decode code 2801 = .ok (.goto 455, 3) := dl_16_x 78 rfl
theorem dM_2804 : decode code 2804 = .ok (.aload_n 1, 1) := dl_16_x 79 rfl
theorem dM_2805 : decode code 2805 = .ok (.aload_n 0, 1) := dl_16_x 80 rfl
theorem dM_2806 : decode code 2806 = .ok (.iload 4, 2) := dl_16_x 81 rfl
theorem dM_2808 : decode code 2808 = .ok (.iconst 1, 1) := dl_16_x 82 rfl
theorem dM_2809 : decode code 2809 = .ok (.iadd, 1) := dl_16_x 83 rfl
theorem dM_2810 : decode code 2810 = .ok (.iaload, 1) := dl_16_x 84 rfl
theorem dM_2811 : decode code 2811 = .ok (.aload_n 3, 1) := dl_16_x 85 rfl
theorem dM_2812 : decode code 2812 = .ok (.invokestatic 318, 3) := dl_16_x 86 rfl
theorem dM_2815 : decode code 2815 = .ok (.istore 5, 2) := dl_16_x 87 rfl
theorem dM_2817 : decode code 2817 = .ok (.aload_n 2, 1) := dl_16_x 88 rfl
theorem dM_2818 : decode code 2818 = .ok (.aload_n 0, 1) := dl_16_x 89 rfl
theorem dM_2819 : decode code 2819 = .ok (.iload 4, 2) := dl_16_x 90 rfl
theorem dM_2821 : decode code 2821 = .ok (.iconst 1, 1) := dl_16_x 91 rfl
theorem dM_2822 : decode code 2822 = .ok (.iadd, 1) := dl_16_x 92 rfl
theorem dM_2823 : decode code 2823 = .ok (.iaload, 1) := dl_16_x 93 rfl
theorem dM_2824 : decode code 2824 = .ok (.invokevirtual 320, 3) := dl_16_x 94 rfl
theorem dM_2827 : decode code 2827 = .ok (.lstore 6, 2) := dl_16_x 95 rfl
theorem dM_2829 : decode code 2829 = .ok (.aload_n 2, 1) := dl_16_x 96 rfl
theorem dM_2830 : decode code 2830 = .ok (.invokevirtual 179, 3) := dl_16_x 97 rfl
theorem dM_2833 : decode code 2833 = .ok (.iload 5, 2) := dl_16_x 98 rfl
theorem dM_2835 : decode code 2835 = .ok (.if_icmp .eq 5, 3) := dl_16_x 99 rfl
