/-! THE LAW'S OWN BODY, instruction by instruction: 2757 to 2835 -/
def dl_33 : List (Nat × Instr × Nat) := [(2757, .iload 4, 2), (2759, .iconst 1, 1), (2760, .iadd, 1), (2761, .iaload, 1), (2762, .aload_n 0, 1), (2763, .iload 4, 2), (2765, .iconst 2, 1), (2766, .iadd, 1), (2767, .iaload, 1), (2768, .invokevirtual 317, 3), (2771, .istore 6, 2), (2773, .aload_n 2, 1), (2774, .invokevirtual 179, 3), (2777, .iload 5, 2), (2779, .if_icmp .eq 5, 3), (2782, .iconst 0, 1), (2783, .ireturn, 1), (2784, .iload 5, 2), (2786, .ifCond .ne 15, 3), (2789, .aload_n 3, 1), (2790, .iconst 0, 1), (2791, .laload, 1), (2792, .iload 6, 2), (2794, .i2l, 1), (2795, .lcmp, 1), (2796, .ifCond .eq 5, 3), (2799, .iconst 0, 1), (2800, .ireturn, 1), (2801, .goto 455, 3), (2804, .aload_n 1, 1), (2805, .aload_n 0, 1), (2806, .iload 4, 2), (2808, .iconst 1, 1), (2809, .iadd, 1), (2810, .iaload, 1), (2811, .aload_n 3, 1), (2812, .invokestatic 318, 3), (2815, .istore 5, 2), (2817, .aload_n 2, 1), (2818, .aload_n 0, 1), (2819, .iload 4, 2), (2821, .iconst 1, 1), (2822, .iadd, 1), (2823, .iaload, 1), (2824, .invokevirtual 320, 3), (2827, .lstore 6, 2), (2829, .aload_n 2, 1), (2830, .invokevirtual 179, 3), (2833, .iload 5, 2), (2835, .if_icmp .eq 5, 3)]
theorem dl_33_ok : ∀ q ∈ dl_33, decode code q.1 = .ok (q.2.1, q.2.2) := by decide +kernel
theorem dl_33_x (k : Nat) {pc : Nat} {i : Instr} {n : Nat} (h : dl_33[k]? = some (pc, i, n)) : decode code pc = .ok (i, n) := dl_33_ok (pc, i, n) (List.mem_of_getElem? h)
theorem dM_2757 : decode code 2757 = .ok (.iload 4, 2) := dl_33_x 0 rfl
theorem dM_2759 : decode code 2759 = .ok (.iconst 1, 1) := dl_33_x 1 rfl
theorem dM_2760 : decode code 2760 = .ok (.iadd, 1) := dl_33_x 2 rfl
theorem dM_2761 : decode code 2761 = .ok (.iaload, 1) := dl_33_x 3 rfl
theorem dM_2762 : decode code 2762 = .ok (.aload_n 0, 1) := dl_33_x 4 rfl
theorem dM_2763 : decode code 2763 = .ok (.iload 4, 2) := dl_33_x 5 rfl
theorem dM_2765 : decode code 2765 = .ok (.iconst 2, 1) := dl_33_x 6 rfl
theorem dM_2766 : decode code 2766 = .ok (.iadd, 1) := dl_33_x 7 rfl
theorem dM_2767 : decode code 2767 = .ok (.iaload, 1) := dl_33_x 8 rfl
theorem dM_2768 : decode code 2768 = .ok (.invokevirtual 317, 3) := dl_33_x 9 rfl
theorem dM_2771 : decode code 2771 = .ok (.istore 6, 2) := dl_33_x 10 rfl
theorem dM_2773 : decode code 2773 = .ok (.aload_n 2, 1) := dl_33_x 11 rfl
theorem dM_2774 : decode code 2774 = .ok (.invokevirtual 179, 3) := dl_33_x 12 rfl
theorem dM_2777 : decode code 2777 = .ok (.iload 5, 2) := dl_33_x 13 rfl
theorem dM_2779 : decode code 2779 = .ok (.if_icmp .eq 5, 3) := dl_33_x 14 rfl
theorem dM_2782 : decode code 2782 = .ok (.iconst 0, 1) := dl_33_x 15 rfl
theorem dM_2783 : decode code 2783 = .ok (.ireturn, 1) := dl_33_x 16 rfl
theorem dM_2784 : decode code 2784 = .ok (.iload 5, 2) := dl_33_x 17 rfl
theorem dM_2786 : decode code 2786 = .ok (.ifCond .ne 15, 3) := dl_33_x 18 rfl
theorem dM_2789 : decode code 2789 = .ok (.aload_n 3, 1) := dl_33_x 19 rfl
theorem dM_2790 : decode code 2790 = .ok (.iconst 0, 1) := dl_33_x 20 rfl
theorem dM_2791 : decode code 2791 = .ok (.laload, 1) := dl_33_x 21 rfl
theorem dM_2792 : decode code 2792 = .ok (.iload 6, 2) := dl_33_x 22 rfl
theorem dM_2794 : decode code 2794 = .ok (.i2l, 1) := dl_33_x 23 rfl
theorem dM_2795 : decode code 2795 = .ok (.lcmp, 1) := dl_33_x 24 rfl
theorem dM_2796 : decode code 2796 = .ok (.ifCond .eq 5, 3) := dl_33_x 25 rfl
theorem dM_2799 : decode code 2799 = .ok (.iconst 0, 1) := dl_33_x 26 rfl
theorem dM_2800 : decode code 2800 = .ok (.ireturn, 1) := dl_33_x 27 rfl
theorem dM_2801 : decode code 2801 = .ok (.goto 455, 3) := dl_33_x 28 rfl
theorem dM_2804 : decode code 2804 = .ok (.aload_n 1, 1) := dl_33_x 29 rfl
theorem dM_2805 : decode code 2805 = .ok (.aload_n 0, 1) := dl_33_x 30 rfl
theorem dM_2806 : decode code 2806 = .ok (.iload 4, 2) := dl_33_x 31 rfl
theorem dM_2808 : decode code 2808 = .ok (.iconst 1, 1) := dl_33_x 32 rfl
theorem dM_2809 : decode code 2809 = .ok (.iadd, 1) := dl_33_x 33 rfl
theorem dM_2810 : decode code 2810 = .ok (.iaload, 1) := dl_33_x 34 rfl
theorem dM_2811 : decode code 2811 = .ok (.aload_n 3, 1) := dl_33_x 35 rfl
theorem dM_2812 : decode code 2812 = .ok (.invokestatic 318, 3) := dl_33_x 36 rfl
theorem dM_2815 : decode code 2815 = .ok (.istore 5, 2) := dl_33_x 37 rfl
theorem dM_2817 : decode code 2817 = .ok (.aload_n 2, 1) := dl_33_x 38 rfl
theorem dM_2818 : decode code 2818 = .ok (.aload_n 0, 1) := dl_33_x 39 rfl
theorem dM_2819 : decode code 2819 = .ok (.iload 4, 2) := dl_33_x 40 rfl
theorem dM_2821 : decode code 2821 = .ok (.iconst 1, 1) := dl_33_x 41 rfl
theorem dM_2822 : decode code 2822 = .ok (.iadd, 1) := dl_33_x 42 rfl
theorem dM_2823 : decode code 2823 = .ok (.iaload, 1) := dl_33_x 43 rfl
theorem dM_2824 : decode code 2824 = .ok (.invokevirtual 320, 3) := dl_33_x 44 rfl
theorem dM_2827 : decode code 2827 = .ok (.lstore 6, 2) := dl_33_x 45 rfl
theorem dM_2829 : decode code 2829 = .ok (.aload_n 2, 1) := dl_33_x 46 rfl
theorem dM_2830 : decode code 2830 = .ok (.invokevirtual 179, 3) := dl_33_x 47 rfl
theorem dM_2833 : decode code 2833 = .ok (.iload 5, 2) := dl_33_x 48 rfl
theorem dM_2835 : decode code 2835 = .ok (.if_icmp .eq 5, 3) := dl_33_x 49 rfl
