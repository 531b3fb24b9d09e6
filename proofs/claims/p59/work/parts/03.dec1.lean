theorem dX0_init_0 : decode cX0_init 0 = .ok (.aload_n 0, 1) := by decide +kernel
theorem dX0_init_1 : decode cX0_init 1 = .ok (.invokespecial 3, 3) := by decide +kernel
theorem dX0_init_4 : decode cX0_init 4 = .ok (.aload_n 0, 1) := by decide +kernel
theorem dX0_init_5 : decode cX0_init 5 = .ok (.bipush 24, 2) := by decide +kernel
theorem dX0_init_7 : decode cX0_init 7 = .ok (.newarray .int, 2) := by decide +kernel
theorem dX0_init_9 : decode cX0_init 9 = .ok (.putfield 9, 3) := by decide +kernel
theorem dX0_init_12 : decode cX0_init 12 = .ok (.aload_n 0, 1) := by decide +kernel
theorem dX0_init_13 : decode cX0_init 13 = .ok (.bipush 24, 2) := by decide +kernel
theorem dX0_init_15 : decode cX0_init 15 = .ok (.newarray .int, 2) := by decide +kernel
theorem dX0_init_17 : decode cX0_init 17 = .ok (.putfield 15, 3) := by decide +kernel
theorem dX0_init_20 : decode cX0_init 20 = .ok (.aload_n 0, 1) := by decide +kernel
theorem dX0_init_21 : decode cX0_init 21 = .ok (.bipush 12, 2) := by decide +kernel
theorem dX0_init_23 : decode cX0_init 23 = .ok (.newarray .int, 2) := by decide +kernel
theorem dX0_init_25 : decode cX0_init 25 = .ok (.putfield 18, 3) := by decide +kernel
theorem dX0_init_28 : decode cX0_init 28 = .ok (.aload_n 0, 1) := by decide +kernel
theorem dX0_init_29 : decode cX0_init 29 = .ok (.bipush 12, 2) := by decide +kernel
theorem dX0_init_31 : decode cX0_init 31 = .ok (.newarray .int, 2) := by decide +kernel
theorem dX0_init_33 : decode cX0_init 33 = .ok (.putfield 21, 3) := by decide +kernel
theorem dX0_init_36 : decode cX0_init 36 = .ok (.aload_n 0, 1) := by decide +kernel
theorem dX0_init_37 : decode cX0_init 37 = .ok (.iconst 0, 1) := by decide +kernel
theorem dX0_init_38 : decode cX0_init 38 = .ok (.putfield 24, 3) := by decide +kernel
theorem dX0_init_41 : decode cX0_init 41 = .ok (.return_, 1) := by decide +kernel
theorem dX0_allowAvailable_0 : decode cX0_allowAvailable 0 = .ok (.iconst 0, 1) := by decide +kernel
theorem dX0_allowAvailable_1 : decode cX0_allowAvailable 1 = .ok (.istore_n 2, 1) := by decide +kernel
theorem dX0_allowAvailable_2 : decode cX0_allowAvailable 2 = .ok (.iload_n 2, 1) := by decide +kernel
theorem dX0_allowAvailable_3 : decode cX0_allowAvailable 3 = .ok (.aload_n 1, 1) := by decide +kernel
theorem dX0_allowAvailable_4 : decode cX0_allowAvailable 4 = .ok (.getfield 28, 3) := by decide +kernel
theorem dX0_allowAvailable_7 : decode cX0_allowAvailable 7 = .ok (.if_icmp .ge 32, 3) := by decide +kernel
theorem dX0_allowAvailable_10 : decode cX0_allowAvailable 10 = .ok (.aload_n 0, 1) := by decide +kernel
theorem dX0_allowAvailable_11 : decode cX0_allowAvailable 11 = .ok (.getfield 9, 3) := by decide +kernel
theorem dX0_allowAvailable_14 : decode cX0_allowAvailable 14 = .ok (.iload_n 2, 1) := by decide +kernel
theorem dX0_allowAvailable_15 : decode cX0_allowAvailable 15 = .ok (.aload_n 1, 1) := by decide +kernel
theorem dX0_allowAvailable_16 : decode cX0_allowAvailable 16 = .ok (.iload_n 2, 1) := by decide +kernel
theorem dX0_allowAvailable_17 : decode cX0_allowAvailable 17 = .ok (.invokevirtual 33, 3) := by decide +kernel
theorem dX0_allowAvailable_20 : decode cX0_allowAvailable 20 = .ok (.ifCond .eq 11, 3) := by decide +kernel
theorem dX0_allowAvailable_23 : decode cX0_allowAvailable 23 = .ok (.aload_n 1, 1) := by decide +kernel
theorem dX0_allowAvailable_24 : decode cX0_allowAvailable 24 = .ok (.iload_n 2, 1) := by decide +kernel
theorem dX0_allowAvailable_25 : decode cX0_allowAvailable 25 = .ok (.invokevirtual 37, 3) := by decide +kernel
theorem dX0_allowAvailable_28 : decode cX0_allowAvailable 28 = .ok (.goto 4, 3) := by decide +kernel
theorem dX0_allowAvailable_31 : decode cX0_allowAvailable 31 = .ok (.iconst 0, 1) := by decide +kernel
theorem dX0_allowAvailable_32 : decode cX0_allowAvailable 32 = .ok (.iastore, 1) := by decide +kernel
theorem dX0_allowAvailable_33 : decode cX0_allowAvailable 33 = .ok (.iinc 2 1, 3) := by decide +kernel
theorem dX0_allowAvailable_36 : decode cX0_allowAvailable 36 = .ok (.goto (-34), 3) := by decide +kernel
theorem dX0_allowAvailable_39 : decode cX0_allowAvailable 39 = .ok (.return_, 1) := by decide +kernel
theorem dX0_allowOne_0 : decode cX0_allowOne 0 = .ok (.iconst 0, 1) := by decide +kernel
theorem dX0_allowOne_1 : decode cX0_allowOne 1 = .ok (.istore_n 2, 1) := by decide +kernel
theorem dX0_allowOne_2 : decode cX0_allowOne 2 = .ok (.iload_n 2, 1) := by decide +kernel
theorem dX0_allowOne_3 : decode cX0_allowOne 3 = .ok (.bipush 24, 2) := by decide +kernel
theorem dX0_allowOne_5 : decode cX0_allowOne 5 = .ok (.if_icmp .ge 20, 3) := by decide +kernel
theorem dX0_allowOne_8 : decode cX0_allowOne 8 = .ok (.aload_n 0, 1) := by decide +kernel
theorem dX0_allowOne_9 : decode cX0_allowOne 9 = .ok (.getfield 9, 3) := by decide +kernel
theorem dX0_allowOne_12 : decode cX0_allowOne 12 = .ok (.iload_n 2, 1) := by decide +kernel
theorem dX0_allowOne_13 : decode cX0_allowOne 13 = .ok (.iload_n 1, 1) := by decide +kernel
theorem dX0_allowOne_14 : decode cX0_allowOne 14 = .ok (.iload_n 2, 1) := by decide +kernel
theorem dX0_allowOne_15 : decode cX0_allowOne 15 = .ok (.ishr, 1) := by decide +kernel
theorem dX0_allowOne_16 : decode cX0_allowOne 16 = .ok (.iconst 1, 1) := by decide +kernel
theorem dX0_allowOne_17 : decode cX0_allowOne 17 = .ok (.iand, 1) := by decide +kernel
theorem dX0_allowOne_18 : decode cX0_allowOne 18 = .ok (.iastore, 1) := by decide +kernel
theorem dX0_allowOne_19 : decode cX0_allowOne 19 = .ok (.iinc 2 1, 3) := by decide +kernel
theorem dX0_allowOne_22 : decode cX0_allowOne 22 = .ok (.goto (-20), 3) := by decide +kernel
theorem dX0_allowOne_25 : decode cX0_allowOne 25 = .ok (.return_, 1) := by decide +kernel
theorem dX0_isReached_0 : decode cX0_isReached 0 = .ok (.aload_n 0, 1) := by decide +kernel
theorem dX0_isReached_1 : decode cX0_isReached 1 = .ok (.getfield 24, 3) := by decide +kernel
theorem dX0_isReached_4 : decode cX0_isReached 4 = .ok (.iload_n 1, 1) := by decide +kernel
theorem dX0_isReached_5 : decode cX0_isReached 5 = .ok (.ishr, 1) := by decide +kernel
theorem dX0_isReached_6 : decode cX0_isReached 6 = .ok (.iconst 1, 1) := by decide +kernel
theorem dX0_isReached_7 : decode cX0_isReached 7 = .ok (.iand, 1) := by decide +kernel
theorem dX0_isReached_8 : decode cX0_isReached 8 = .ok (.ifCond .eq 7, 3) := by decide +kernel
theorem dX0_isReached_11 : decode cX0_isReached 11 = .ok (.iconst 1, 1) := by decide +kernel
theorem dX0_isReached_12 : decode cX0_isReached 12 = .ok (.goto 4, 3) := by decide +kernel
theorem dX0_isReached_15 : decode cX0_isReached 15 = .ok (.iconst 0, 1) := by decide +kernel
theorem dX0_isReached_16 : decode cX0_isReached 16 = .ok (.ireturn, 1) := by decide +kernel
theorem dX0_fill_0 : decode cX0_fill 0 = .ok (.aload_n 0, 1) := by decide +kernel
theorem dX0_fill_1 : decode cX0_fill 1 = .ok (.getfield 15, 3) := by decide +kernel
theorem dX0_fill_4 : decode cX0_fill 4 = .ok (.iconst 0, 1) := by decide +kernel
theorem dX0_fill_5 : decode cX0_fill 5 = .ok (.invokestatic 41, 3) := by decide +kernel
theorem dX0_fill_8 : decode cX0_fill 8 = .ok (.iconst 0, 1) := by decide +kernel
theorem dX0_fill_9 : decode cX0_fill 9 = .ok (.istore 4, 2) := by decide +kernel
theorem dX0_fill_11 : decode cX0_fill 11 = .ok (.aload_n 0, 1) := by decide +kernel
theorem dX0_fill_12 : decode cX0_fill 12 = .ok (.aload_n 1, 1) := by decide +kernel
theorem dX0_fill_13 : decode cX0_fill 13 = .ok (.iload_n 2, 1) := by decide +kernel
theorem dX0_fill_14 : decode cX0_fill 14 = .ok (.invokevirtual 47, 3) := by decide +kernel
theorem dX0_fill_17 : decode cX0_fill 17 = .ok (.iconst 0, 1) := by decide +kernel
theorem dX0_fill_18 : decode cX0_fill 18 = .ok (.istore 5, 2) := by decide +kernel
theorem dX0_fill_20 : decode cX0_fill 20 = .ok (.iload 5, 2) := by decide +kernel
theorem dX0_fill_22 : decode cX0_fill 22 = .ok (.ldc 51, 2) := by decide +kernel
theorem dX0_fill_24 : decode cX0_fill 24 = .ok (.if_icmp .ge 35, 3) := by decide +kernel
theorem dX0_fill_27 : decode cX0_fill 27 = .ok (.aload_n 0, 1) := by decide +kernel
theorem dX0_fill_28 : decode cX0_fill 28 = .ok (.iload_n 3, 1) := by decide +kernel
theorem dX0_fill_29 : decode cX0_fill 29 = .ok (.invokevirtual 52, 3) := by decide +kernel
theorem dX0_fill_32 : decode cX0_fill 32 = .ok (.ifCond .eq 27, 3) := by decide +kernel
theorem dX0_fill_35 : decode cX0_fill 35 = .ok (.iload 4, 2) := by decide +kernel
theorem dX0_fill_37 : decode cX0_fill 37 = .ok (.aload_n 0, 1) := by decide +kernel
theorem dX0_fill_38 : decode cX0_fill 38 = .ok (.aload_n 1, 1) := by decide +kernel
theorem dX0_fill_39 : decode cX0_fill 39 = .ok (.iload_n 2, 1) := by decide +kernel
theorem dX0_fill_40 : decode cX0_fill 40 = .ok (.iload_n 3, 1) := by decide +kernel
theorem dX0_fill_41 : decode cX0_fill 41 = .ok (.invokevirtual 55, 3) := by decide +kernel
theorem dX0_fill_44 : decode cX0_fill 44 = .ok (.iadd, 1) := by decide +kernel
theorem dX0_fill_45 : decode cX0_fill 45 = .ok (.istore 4, 2) := by decide +kernel
theorem dX0_fill_47 : decode cX0_fill 47 = .ok (.aload_n 0, 1) := by decide +kernel
theorem dX0_fill_48 : decode cX0_fill 48 = .ok (.aload_n 1, 1) := by decide +kernel
theorem dX0_fill_49 : decode cX0_fill 49 = .ok (.iload_n 2, 1) := by decide +kernel
theorem dX0_fill_50 : decode cX0_fill 50 = .ok (.invokevirtual 47, 3) := by decide +kernel
theorem dX0_fill_53 : decode cX0_fill 53 = .ok (.iinc 5 1, 3) := by decide +kernel
theorem dX0_fill_56 : decode cX0_fill 56 = .ok (.goto (-36), 3) := by decide +kernel
theorem dX0_fill_59 : decode cX0_fill 59 = .ok (.iload 4, 2) := by decide +kernel
theorem dX0_fill_61 : decode cX0_fill 61 = .ok (.ireturn, 1) := by decide +kernel
theorem dX0_search_0 : decode cX0_search 0 = .ok (.aload_n 0, 1) := by decide +kernel
theorem dX0_search_1 : decode cX0_search 1 = .ok (.iconst 1, 1) := by decide +kernel
theorem dX0_search_2 : decode cX0_search 2 = .ok (.iload_n 2, 1) := by decide +kernel
theorem dX0_search_3 : decode cX0_search 3 = .ok (.ishl, 1) := by decide +kernel
theorem dX0_search_4 : decode cX0_search 4 = .ok (.putfield 24, 3) := by decide +kernel
theorem dX0_search_7 : decode cX0_search 7 = .ok (.aload_n 0, 1) := by decide +kernel
theorem dX0_search_8 : decode cX0_search 8 = .ok (.getfield 18, 3) := by decide +kernel
theorem dX0_search_11 : decode cX0_search 11 = .ok (.iconst 0, 1) := by decide +kernel
theorem dX0_search_12 : decode cX0_search 12 = .ok (.iload_n 2, 1) := by decide +kernel
theorem dX0_search_13 : decode cX0_search 13 = .ok (.iastore, 1) := by decide +kernel
theorem dX0_search_14 : decode cX0_search 14 = .ok (.iconst 1, 1) := by decide +kernel
theorem dX0_search_15 : decode cX0_search 15 = .ok (.istore_n 3, 1) := by decide +kernel
theorem dX0_search_16 : decode cX0_search 16 = .ok (.iconst 0, 1) := by decide +kernel
theorem dX0_search_17 : decode cX0_search 17 = .ok (.istore 4, 2) := by decide +kernel
theorem dX0_search_19 : decode cX0_search 19 = .ok (.iload 4, 2) := by decide +kernel
theorem dX0_search_21 : decode cX0_search 21 = .ok (.iload_n 3, 1) := by decide +kernel
theorem dX0_search_22 : decode cX0_search 22 = .ok (.if_icmp .ge 104, 3) := by decide +kernel
theorem dX0_search_25 : decode cX0_search 25 = .ok (.iload 4, 2) := by decide +kernel
theorem dX0_search_27 : decode cX0_search 27 = .ok (.bipush 12, 2) := by decide +kernel
theorem dX0_search_29 : decode cX0_search 29 = .ok (.if_icmp .ge 97, 3) := by decide +kernel
theorem dX0_search_32 : decode cX0_search 32 = .ok (.iconst 0, 1) := by decide +kernel
theorem dX0_search_33 : decode cX0_search 33 = .ok (.istore 5, 2) := by decide +kernel
theorem dX0_search_35 : decode cX0_search 35 = .ok (.iload 5, 2) := by decide +kernel
theorem dX0_search_37 : decode cX0_search 37 = .ok (.aload_n 1, 1) := by decide +kernel
theorem dX0_search_38 : decode cX0_search 38 = .ok (.getfield 28, 3) := by decide +kernel
theorem dX0_search_41 : decode cX0_search 41 = .ok (.if_icmp .ge 79, 3) := by decide +kernel
theorem dX0_search_44 : decode cX0_search 44 = .ok (.aload_n 0, 1) := by decide +kernel
theorem dX0_search_45 : decode cX0_search 45 = .ok (.aload_n 1, 1) := by decide +kernel
theorem dX0_search_46 : decode cX0_search 46 = .ok (.iload 5, 2) := by decide +kernel
theorem dX0_search_48 : decode cX0_search 48 = .ok (.aload_n 0, 1) := by decide +kernel
theorem dX0_search_49 : decode cX0_search 49 = .ok (.getfield 18, 3) := by decide +kernel
theorem dX0_search_52 : decode cX0_search 52 = .ok (.iload 4, 2) := by decide +kernel
theorem dX0_search_54 : decode cX0_search 54 = .ok (.iaload, 1) := by decide +kernel
theorem dX0_search_55 : decode cX0_search 55 = .ok (.invokevirtual 59, 3) := by decide +kernel
theorem dX0_search_58 : decode cX0_search 58 = .ok (.istore 6, 2) := by decide +kernel
theorem dX0_search_60 : decode cX0_search 60 = .ok (.iload 6, 2) := by decide +kernel
theorem dX0_search_62 : decode cX0_search 62 = .ok (.iconst (-1), 1) := by decide +kernel
theorem dX0_search_63 : decode cX0_search 63 = .ok (.if_icmp .eq 51, 3) := by decide +kernel
theorem dX0_search_66 : decode cX0_search 66 = .ok (.aload_n 0, 1) := by decide +kernel
theorem dX0_search_67 : decode cX0_search 67 = .ok (.iload 6, 2) := by decide +kernel
theorem dX0_search_69 : decode cX0_search 69 = .ok (.invokevirtual 52, 3) := by decide +kernel
theorem dX0_search_72 : decode cX0_search 72 = .ok (.ifCond .ne 42, 3) := by decide +kernel
theorem dX0_search_75 : decode cX0_search 75 = .ok (.iload_n 3, 1) := by decide +kernel
theorem dX0_search_76 : decode cX0_search 76 = .ok (.bipush 12, 2) := by decide +kernel
theorem dX0_search_78 : decode cX0_search 78 = .ok (.if_icmp .ge 36, 3) := by decide +kernel
theorem dX0_search_81 : decode cX0_search 81 = .ok (.aload_n 0, 1) := by decide +kernel
theorem dX0_search_82 : decode cX0_search 82 = .ok (.dup, 1) := by decide +kernel
theorem dX0_search_83 : decode cX0_search 83 = .ok (.getfield 24, 3) := by decide +kernel
theorem dX0_search_86 : decode cX0_search 86 = .ok (.iconst 1, 1) := by decide +kernel
theorem dX0_search_87 : decode cX0_search 87 = .ok (.iload 6, 2) := by decide +kernel
theorem dX0_search_89 : decode cX0_search 89 = .ok (.ishl, 1) := by decide +kernel
theorem dX0_search_90 : decode cX0_search 90 = .ok (.ior, 1) := by decide +kernel
theorem dX0_search_91 : decode cX0_search 91 = .ok (.putfield 24, 3) := by decide +kernel
theorem dX0_search_94 : decode cX0_search 94 = .ok (.aload_n 0, 1) := by decide +kernel
theorem dX0_search_95 : decode cX0_search 95 = .ok (.getfield 21, 3) := by decide +kernel
theorem dX0_search_98 : decode cX0_search 98 = .ok (.iload 6, 2) := by decide +kernel
theorem dX0_search_100 : decode cX0_search 100 = .ok (.iload 5, 2) := by decide +kernel
theorem dX0_search_102 : decode cX0_search 102 = .ok (.iastore, 1) := by decide +kernel
theorem dX0_search_103 : decode cX0_search 103 = .ok (.aload_n 0, 1) := by decide +kernel
theorem dX0_search_104 : decode cX0_search 104 = .ok (.getfield 18, 3) := by decide +kernel
theorem dX0_search_107 : decode cX0_search 107 = .ok (.iload_n 3, 1) := by decide +kernel
theorem dX0_search_108 : decode cX0_search 108 = .ok (.iload 6, 2) := by decide +kernel
theorem dX0_search_110 : decode cX0_search 110 = .ok (.iastore, 1) := by decide +kernel
theorem dX0_search_111 : decode cX0_search 111 = .ok (.iinc 3 1, 3) := by decide +kernel
theorem dX0_search_114 : decode cX0_search 114 = .ok (.iinc 5 1, 3) := by decide +kernel
theorem dX0_search_117 : decode cX0_search 117 = .ok (.goto (-82), 3) := by decide +kernel
theorem dX0_search_120 : decode cX0_search 120 = .ok (.iinc 4 1, 3) := by decide +kernel
theorem dX0_search_123 : decode cX0_search 123 = .ok (.goto (-104), 3) := by decide +kernel
theorem dX0_search_126 : decode cX0_search 126 = .ok (.return_, 1) := by decide +kernel
theorem dX0_across_0 : decode cX0_across 0 = .ok (.aload_n 1, 1) := by decide +kernel
theorem dX0_across_1 : decode cX0_across 1 = .ok (.getfield 62, 3) := by decide +kernel
theorem dX0_across_4 : decode cX0_across 4 = .ok (.iload_n 2, 1) := by decide +kernel
theorem dX0_across_5 : decode cX0_across 5 = .ok (.iaload, 1) := by decide +kernel
theorem dX0_across_6 : decode cX0_across 6 = .ok (.iload_n 3, 1) := by decide +kernel
theorem dX0_across_7 : decode cX0_across 7 = .ok (.if_icmp .ne 25, 3) := by decide +kernel
theorem dX0_across_10 : decode cX0_across 10 = .ok (.aload_n 0, 1) := by decide +kernel
theorem dX0_across_11 : decode cX0_across 11 = .ok (.getfield 15, 3) := by decide +kernel
theorem dX0_across_14 : decode cX0_across 14 = .ok (.iload_n 2, 1) := by decide +kernel
theorem dX0_across_15 : decode cX0_across 15 = .ok (.iaload, 1) := by decide +kernel
theorem dX0_across_16 : decode cX0_across 16 = .ok (.aload_n 0, 1) := by decide +kernel
theorem dX0_across_17 : decode cX0_across 17 = .ok (.getfield 9, 3) := by decide +kernel
theorem dX0_across_20 : decode cX0_across 20 = .ok (.iload_n 2, 1) := by decide +kernel
theorem dX0_across_21 : decode cX0_across 21 = .ok (.iaload, 1) := by decide +kernel
theorem dX0_across_22 : decode cX0_across 22 = .ok (.if_icmp .ge 10, 3) := by decide +kernel
theorem dX0_across_25 : decode cX0_across 25 = .ok (.aload_n 1, 1) := by decide +kernel
theorem dX0_across_26 : decode cX0_across 26 = .ok (.getfield 65, 3) := by decide +kernel
theorem dX0_across_29 : decode cX0_across 29 = .ok (.iload_n 2, 1) := by decide +kernel
theorem dX0_across_30 : decode cX0_across 30 = .ok (.iaload, 1) := by decide +kernel
theorem dX0_across_31 : decode cX0_across 31 = .ok (.ireturn, 1) := by decide +kernel
theorem dX0_across_32 : decode cX0_across 32 = .ok (.aload_n 1, 1) := by decide +kernel
theorem dX0_across_33 : decode cX0_across 33 = .ok (.getfield 65, 3) := by decide +kernel
theorem dX0_across_36 : decode cX0_across 36 = .ok (.iload_n 2, 1) := by decide +kernel
theorem dX0_across_37 : decode cX0_across 37 = .ok (.iaload, 1) := by decide +kernel
theorem dX0_across_38 : decode cX0_across 38 = .ok (.iload_n 3, 1) := by decide +kernel
theorem dX0_across_39 : decode cX0_across 39 = .ok (.if_icmp .ne 21, 3) := by decide +kernel
theorem dX0_across_42 : decode cX0_across 42 = .ok (.aload_n 0, 1) := by decide +kernel
theorem dX0_across_43 : decode cX0_across 43 = .ok (.getfield 15, 3) := by decide +kernel
theorem dX0_across_46 : decode cX0_across 46 = .ok (.iload_n 2, 1) := by decide +kernel
theorem dX0_across_47 : decode cX0_across 47 = .ok (.iaload, 1) := by decide +kernel
theorem dX0_across_48 : decode cX0_across 48 = .ok (.ifCond .le 12, 3) := by decide +kernel
theorem dX0_across_51 : decode cX0_across 51 = .ok (.aload_n 1, 1) := by decide +kernel
theorem dX0_across_52 : decode cX0_across 52 = .ok (.getfield 62, 3) := by decide +kernel
theorem dX0_across_55 : decode cX0_across 55 = .ok (.iload_n 2, 1) := by decide +kernel
theorem dX0_across_56 : decode cX0_across 56 = .ok (.iaload, 1) := by decide +kernel
theorem dX0_across_57 : decode cX0_across 57 = .ok (.goto 4, 3) := by decide +kernel
theorem dX0_across_60 : decode cX0_across 60 = .ok (.iconst (-1), 1) := by decide +kernel
theorem dX0_across_61 : decode cX0_across 61 = .ok (.ireturn, 1) := by decide +kernel
theorem dX0_growOneWay_0 : decode cX0_growOneWay 0 = .ok (.ldc 51, 2) := by decide +kernel
theorem dX0_growOneWay_2 : decode cX0_growOneWay 2 = .ok (.istore 4, 2) := by decide +kernel
theorem dX0_growOneWay_4 : decode cX0_growOneWay 4 = .ok (.iload_n 3, 1) := by decide +kernel
theorem dX0_growOneWay_5 : decode cX0_growOneWay 5 = .ok (.istore 5, 2) := by decide +kernel
theorem dX0_growOneWay_7 : decode cX0_growOneWay 7 = .ok (.iconst 0, 1) := by decide +kernel
theorem dX0_growOneWay_8 : decode cX0_growOneWay 8 = .ok (.istore 6, 2) := by decide +kernel
theorem dX0_growOneWay_10 : decode cX0_growOneWay 10 = .ok (.iload 6, 2) := by decide +kernel
theorem dX0_growOneWay_12 : decode cX0_growOneWay 12 = .ok (.bipush 12, 2) := by decide +kernel
theorem dX0_growOneWay_14 : decode cX0_growOneWay 14 = .ok (.if_icmp .ge 104, 3) := by decide +kernel
theorem dX0_growOneWay_17 : decode cX0_growOneWay 17 = .ok (.iload 5, 2) := by decide +kernel
theorem dX0_growOneWay_19 : decode cX0_growOneWay 19 = .ok (.iload_n 2, 1) := by decide +kernel
theorem dX0_growOneWay_20 : decode cX0_growOneWay 20 = .ok (.if_icmp .eq 98, 3) := by decide +kernel
theorem dX0_growOneWay_23 : decode cX0_growOneWay 23 = .ok (.aload_n 0, 1) := by decide +kernel
theorem dX0_growOneWay_24 : decode cX0_growOneWay 24 = .ok (.getfield 21, 3) := by decide +kernel
theorem dX0_growOneWay_27 : decode cX0_growOneWay 27 = .ok (.iload 5, 2) := by decide +kernel
theorem dX0_growOneWay_29 : decode cX0_growOneWay 29 = .ok (.iaload, 1) := by decide +kernel
theorem dX0_growOneWay_30 : decode cX0_growOneWay 30 = .ok (.istore 7, 2) := by decide +kernel
theorem dX0_growOneWay_32 : decode cX0_growOneWay 32 = .ok (.aload_n 1, 1) := by decide +kernel
theorem dX0_growOneWay_33 : decode cX0_growOneWay 33 = .ok (.getfield 65, 3) := by decide +kernel
theorem dX0_growOneWay_36 : decode cX0_growOneWay 36 = .ok (.iload 7, 2) := by decide +kernel
theorem dX0_growOneWay_38 : decode cX0_growOneWay 38 = .ok (.iaload, 1) := by decide +kernel
theorem dX0_growOneWay_39 : decode cX0_growOneWay 39 = .ok (.iload 5, 2) := by decide +kernel
theorem dX0_growOneWay_41 : decode cX0_growOneWay 41 = .ok (.if_icmp .ne 7, 3) := by decide +kernel
theorem dX0_growOneWay_44 : decode cX0_growOneWay 44 = .ok (.iconst 1, 1) := by decide +kernel
theorem dX0_growOneWay_45 : decode cX0_growOneWay 45 = .ok (.goto 4, 3) := by decide +kernel
theorem dX0_growOneWay_48 : decode cX0_growOneWay 48 = .ok (.iconst 0, 1) := by decide +kernel
theorem dX0_growOneWay_49 : decode cX0_growOneWay 49 = .ok (.istore 8, 2) := by decide +kernel
theorem dX0_growOneWay_51 : decode cX0_growOneWay 51 = .ok (.iload 4, 2) := by decide +kernel
theorem dX0_growOneWay_53 : decode cX0_growOneWay 53 = .ok (.iload 8, 2) := by decide +kernel
theorem dX0_growOneWay_55 : decode cX0_growOneWay 55 = .ok (.ifCond .eq 21, 3) := by decide +kernel
theorem dX0_growOneWay_58 : decode cX0_growOneWay 58 = .ok (.aload_n 0, 1) := by decide +kernel
theorem dX0_growOneWay_59 : decode cX0_growOneWay 59 = .ok (.getfield 9, 3) := by decide +kernel
theorem dX0_growOneWay_62 : decode cX0_growOneWay 62 = .ok (.iload 7, 2) := by decide +kernel
theorem dX0_growOneWay_64 : decode cX0_growOneWay 64 = .ok (.iaload, 1) := by decide +kernel
theorem dX0_growOneWay_65 : decode cX0_growOneWay 65 = .ok (.aload_n 0, 1) := by decide +kernel
theorem dX0_growOneWay_66 : decode cX0_growOneWay 66 = .ok (.getfield 15, 3) := by decide +kernel
theorem dX0_growOneWay_69 : decode cX0_growOneWay 69 = .ok (.iload 7, 2) := by decide +kernel
theorem dX0_growOneWay_71 : decode cX0_growOneWay 71 = .ok (.iaload, 1) := by decide +kernel
theorem dX0_growOneWay_72 : decode cX0_growOneWay 72 = .ok (.isub, 1) := by decide +kernel
theorem dX0_growOneWay_73 : decode cX0_growOneWay 73 = .ok (.goto 10, 3) := by decide +kernel
theorem dX0_growOneWay_76 : decode cX0_growOneWay 76 = .ok (.aload_n 0, 1) := by decide +kernel
theorem dX0_growOneWay_77 : decode cX0_growOneWay 77 = .ok (.getfield 15, 3) := by decide +kernel
theorem dX0_growOneWay_80 : decode cX0_growOneWay 80 = .ok (.iload 7, 2) := by decide +kernel
theorem dX0_growOneWay_82 : decode cX0_growOneWay 82 = .ok (.iaload, 1) := by decide +kernel
theorem dX0_growOneWay_83 : decode cX0_growOneWay 83 = .ok (.invokestatic 68, 3) := by decide +kernel
theorem dX0_growOneWay_86 : decode cX0_growOneWay 86 = .ok (.istore 4, 2) := by decide +kernel
theorem dX0_growOneWay_88 : decode cX0_growOneWay 88 = .ok (.iload 8, 2) := by decide +kernel
theorem dX0_growOneWay_90 : decode cX0_growOneWay 90 = .ok (.ifCond .eq 13, 3) := by decide +kernel
theorem dX0_growOneWay_93 : decode cX0_growOneWay 93 = .ok (.aload_n 1, 1) := by decide +kernel
theorem dX0_growOneWay_94 : decode cX0_growOneWay 94 = .ok (.getfield 62, 3) := by decide +kernel
theorem dX0_growOneWay_97 : decode cX0_growOneWay 97 = .ok (.iload 7, 2) := by decide +kernel
theorem dX0_growOneWay_99 : decode cX0_growOneWay 99 = .ok (.iaload, 1) := by decide +kernel
theorem dX0_growOneWay_100 : decode cX0_growOneWay 100 = .ok (.goto 10, 3) := by decide +kernel
theorem dX0_growOneWay_103 : decode cX0_growOneWay 103 = .ok (.aload_n 1, 1) := by decide +kernel
theorem dX0_growOneWay_104 : decode cX0_growOneWay 104 = .ok (.getfield 65, 3) := by decide +kernel
theorem dX0_growOneWay_107 : decode cX0_growOneWay 107 = .ok (.iload 7, 2) := by decide +kernel
theorem dX0_growOneWay_109 : decode cX0_growOneWay 109 = .ok (.iaload, 1) := by decide +kernel
theorem dX0_growOneWay_110 : decode cX0_growOneWay 110 = .ok (.istore 5, 2) := by decide +kernel
theorem dX0_growOneWay_112 : decode cX0_growOneWay 112 = .ok (.iinc 6 1, 3) := by decide +kernel
theorem dX0_growOneWay_115 : decode cX0_growOneWay 115 = .ok (.goto (-105), 3) := by decide +kernel
theorem dX0_growOneWay_118 : decode cX0_growOneWay 118 = .ok (.iload_n 3, 1) := by decide +kernel
theorem dX0_growOneWay_119 : decode cX0_growOneWay 119 = .ok (.istore 5, 2) := by decide +kernel
theorem dX0_growOneWay_121 : decode cX0_growOneWay 121 = .ok (.iconst 0, 1) := by decide +kernel
theorem dX0_growOneWay_122 : decode cX0_growOneWay 122 = .ok (.istore 6, 2) := by decide +kernel
theorem dX0_growOneWay_124 : decode cX0_growOneWay 124 = .ok (.iload 6, 2) := by decide +kernel
theorem dX0_growOneWay_126 : decode cX0_growOneWay 126 = .ok (.bipush 12, 2) := by decide +kernel
theorem dX0_growOneWay_128 : decode cX0_growOneWay 128 = .ok (.if_icmp .ge 90, 3) := by decide +kernel
theorem dX0_growOneWay_131 : decode cX0_growOneWay 131 = .ok (.iload 5, 2) := by decide +kernel
theorem dX0_growOneWay_133 : decode cX0_growOneWay 133 = .ok (.iload_n 2, 1) := by decide +kernel
theorem dX0_growOneWay_134 : decode cX0_growOneWay 134 = .ok (.if_icmp .eq 84, 3) := by decide +kernel
theorem dX0_growOneWay_137 : decode cX0_growOneWay 137 = .ok (.aload_n 0, 1) := by decide +kernel
theorem dX0_growOneWay_138 : decode cX0_growOneWay 138 = .ok (.getfield 21, 3) := by decide +kernel
theorem dX0_growOneWay_141 : decode cX0_growOneWay 141 = .ok (.iload 5, 2) := by decide +kernel
theorem dX0_growOneWay_143 : decode cX0_growOneWay 143 = .ok (.iaload, 1) := by decide +kernel
theorem dX0_growOneWay_144 : decode cX0_growOneWay 144 = .ok (.istore 7, 2) := by decide +kernel
theorem dX0_growOneWay_146 : decode cX0_growOneWay 146 = .ok (.aload_n 1, 1) := by decide +kernel
theorem dX0_growOneWay_147 : decode cX0_growOneWay 147 = .ok (.getfield 65, 3) := by decide +kernel
theorem dX0_growOneWay_150 : decode cX0_growOneWay 150 = .ok (.iload 7, 2) := by decide +kernel
theorem dX0_growOneWay_152 : decode cX0_growOneWay 152 = .ok (.iaload, 1) := by decide +kernel
theorem dX0_growOneWay_153 : decode cX0_growOneWay 153 = .ok (.iload 5, 2) := by decide +kernel
theorem dX0_growOneWay_155 : decode cX0_growOneWay 155 = .ok (.if_icmp .ne 7, 3) := by decide +kernel
theorem dX0_growOneWay_158 : decode cX0_growOneWay 158 = .ok (.iconst 1, 1) := by decide +kernel
theorem dX0_growOneWay_159 : decode cX0_growOneWay 159 = .ok (.goto 4, 3) := by decide +kernel
theorem dX0_growOneWay_162 : decode cX0_growOneWay 162 = .ok (.iconst 0, 1) := by decide +kernel
theorem dX0_growOneWay_163 : decode cX0_growOneWay 163 = .ok (.istore 8, 2) := by decide +kernel
theorem dX0_growOneWay_165 : decode cX0_growOneWay 165 = .ok (.aload_n 0, 1) := by decide +kernel
theorem dX0_growOneWay_166 : decode cX0_growOneWay 166 = .ok (.getfield 15, 3) := by decide +kernel
theorem dX0_growOneWay_169 : decode cX0_growOneWay 169 = .ok (.iload 7, 2) := by decide +kernel
theorem dX0_growOneWay_171 : decode cX0_growOneWay 171 = .ok (.dup2, 1) := by decide +kernel
theorem dX0_growOneWay_172 : decode cX0_growOneWay 172 = .ok (.iaload, 1) := by decide +kernel
theorem dX0_growOneWay_173 : decode cX0_growOneWay 173 = .ok (.iload 8, 2) := by decide +kernel
theorem dX0_growOneWay_175 : decode cX0_growOneWay 175 = .ok (.ifCond .eq 8, 3) := by decide +kernel
theorem dX0_growOneWay_178 : decode cX0_growOneWay 178 = .ok (.iload 4, 2) := by decide +kernel
theorem dX0_growOneWay_180 : decode cX0_growOneWay 180 = .ok (.goto 6, 3) := by decide +kernel
theorem dX0_growOneWay_183 : decode cX0_growOneWay 183 = .ok (.iload 4, 2) := by decide +kernel
theorem dX0_growOneWay_185 : decode cX0_growOneWay 185 = .ok (.ineg, 1) := by decide +kernel
theorem dX0_growOneWay_186 : decode cX0_growOneWay 186 = .ok (.iadd, 1) := by decide +kernel
theorem dX0_growOneWay_187 : decode cX0_growOneWay 187 = .ok (.iastore, 1) := by decide +kernel
theorem dX0_growOneWay_188 : decode cX0_growOneWay 188 = .ok (.iload 8, 2) := by decide +kernel
theorem dX0_growOneWay_190 : decode cX0_growOneWay 190 = .ok (.ifCond .eq 13, 3) := by decide +kernel
theorem dX0_growOneWay_193 : decode cX0_growOneWay 193 = .ok (.aload_n 1, 1) := by decide +kernel
theorem dX0_growOneWay_194 : decode cX0_growOneWay 194 = .ok (.getfield 62, 3) := by decide +kernel
theorem dX0_growOneWay_197 : decode cX0_growOneWay 197 = .ok (.iload 7, 2) := by decide +kernel
theorem dX0_growOneWay_199 : decode cX0_growOneWay 199 = .ok (.iaload, 1) := by decide +kernel
theorem dX0_growOneWay_200 : decode cX0_growOneWay 200 = .ok (.goto 10, 3) := by decide +kernel
theorem dX0_growOneWay_203 : decode cX0_growOneWay 203 = .ok (.aload_n 1, 1) := by decide +kernel
theorem dX0_growOneWay_204 : decode cX0_growOneWay 204 = .ok (.getfield 65, 3) := by decide +kernel
theorem dX0_growOneWay_207 : decode cX0_growOneWay 207 = .ok (.iload 7, 2) := by decide +kernel
theorem dX0_growOneWay_209 : decode cX0_growOneWay 209 = .ok (.iaload, 1) := by decide +kernel
theorem dX0_growOneWay_210 : decode cX0_growOneWay 210 = .ok (.istore 5, 2) := by decide +kernel
theorem dX0_growOneWay_212 : decode cX0_growOneWay 212 = .ok (.iinc 6 1, 3) := by decide +kernel
theorem dX0_growOneWay_215 : decode cX0_growOneWay 215 = .ok (.goto (-91), 3) := by decide +kernel
theorem dX0_growOneWay_218 : decode cX0_growOneWay 218 = .ok (.iload 4, 2) := by decide +kernel
theorem dX0_growOneWay_220 : decode cX0_growOneWay 220 = .ok (.ireturn, 1) := by decide +kernel
theorem dX1_init_0 : decode cX1_init 0 = .ok (.aload_n 0, 1) := by decide +kernel
theorem dX1_init_1 : decode cX1_init 1 = .ok (.invokespecial 3, 3) := by decide +kernel
theorem dX1_init_4 : decode cX1_init 4 = .ok (.aload_n 0, 1) := by decide +kernel
theorem dX1_init_5 : decode cX1_init 5 = .ok (.iconst 0, 1) := by decide +kernel
theorem dX1_init_6 : decode cX1_init 6 = .ok (.putfield 9, 3) := by decide +kernel
theorem dX1_init_9 : decode cX1_init 9 = .ok (.aload_n 0, 1) := by decide +kernel
theorem dX1_init_10 : decode cX1_init 10 = .ok (.iconst 0, 1) := by decide +kernel
theorem dX1_init_11 : decode cX1_init 11 = .ok (.putfield 15, 3) := by decide +kernel
theorem dX1_init_14 : decode cX1_init 14 = .ok (.aload_n 0, 1) := by decide +kernel
theorem dX1_init_15 : decode cX1_init 15 = .ok (.sipush 700, 3) := by decide +kernel
theorem dX1_init_18 : decode cX1_init 18 = .ok (.newarray .byte, 2) := by decide +kernel
theorem dX1_init_20 : decode cX1_init 20 = .ok (.putfield 18, 3) := by decide +kernel
theorem dX1_init_23 : decode cX1_init 23 = .ok (.aload_n 0, 1) := by decide +kernel
theorem dX1_init_24 : decode cX1_init 24 = .ok (.iconst 0, 1) := by decide +kernel
theorem dX1_init_25 : decode cX1_init 25 = .ok (.putfield 22, 3) := by decide +kernel
theorem dX1_init_28 : decode cX1_init 28 = .ok (.aload_n 0, 1) := by decide +kernel
theorem dX1_init_29 : decode cX1_init 29 = .ok (.iconst 0, 1) := by decide +kernel
theorem dX1_init_30 : decode cX1_init 30 = .ok (.putfield 25, 3) := by decide +kernel
theorem dX1_init_33 : decode cX1_init 33 = .ok (.aload_n 0, 1) := by decide +kernel
theorem dX1_init_34 : decode cX1_init 34 = .ok (.iconst 0, 1) := by decide +kernel
theorem dX1_init_35 : decode cX1_init 35 = .ok (.putfield 28, 3) := by decide +kernel
theorem dX1_init_38 : decode cX1_init 38 = .ok (.return_, 1) := by decide +kernel
theorem dX1_add_0 : decode cX1_add 0 = .ok (.iconst 0, 1) := by decide +kernel
theorem dX1_add_1 : decode cX1_add 1 = .ok (.istore_n 3, 1) := by decide +kernel
theorem dX1_add_2 : decode cX1_add 2 = .ok (.bipush 56, 2) := by decide +kernel
theorem dX1_add_4 : decode cX1_add 4 = .ok (.istore 4, 2) := by decide +kernel
theorem dX1_add_6 : decode cX1_add 6 = .ok (.iload 4, 2) := by decide +kernel
theorem dX1_add_8 : decode cX1_add 8 = .ok (.ifCond .lt 30, 3) := by decide +kernel
theorem dX1_add_11 : decode cX1_add 11 = .ok (.iload_n 3, 1) := by decide +kernel
theorem dX1_add_12 : decode cX1_add 12 = .ok (.lload_n 1, 1) := by decide +kernel
theorem dX1_add_13 : decode cX1_add 13 = .ok (.iload 4, 2) := by decide +kernel
theorem dX1_add_15 : decode cX1_add 15 = .ok (.lushr, 1) := by decide +kernel
theorem dX1_add_16 : decode cX1_add 16 = .ok (.ldc2_w 31, 3) := by decide +kernel
theorem dX1_add_19 : decode cX1_add 19 = .ok (.land, 1) := by decide +kernel
theorem dX1_add_20 : decode cX1_add 20 = .ok (.lconst 0, 1) := by decide +kernel
theorem dX1_add_21 : decode cX1_add 21 = .ok (.lcmp, 1) := by decide +kernel
theorem dX1_add_22 : decode cX1_add 22 = .ok (.ifCond .eq 7, 3) := by decide +kernel
theorem dX1_add_25 : decode cX1_add 25 = .ok (.iconst 1, 1) := by decide +kernel
theorem dX1_add_26 : decode cX1_add 26 = .ok (.goto 4, 3) := by decide +kernel
theorem dX1_add_29 : decode cX1_add 29 = .ok (.iconst 0, 1) := by decide +kernel
theorem dX1_add_30 : decode cX1_add 30 = .ok (.iadd, 1) := by decide +kernel
theorem dX1_add_31 : decode cX1_add 31 = .ok (.istore_n 3, 1) := by decide +kernel
theorem dX1_add_32 : decode cX1_add 32 = .ok (.iinc 4 (-8), 3) := by decide +kernel
theorem dX1_add_35 : decode cX1_add 35 = .ok (.goto (-29), 3) := by decide +kernel
theorem dX1_add_38 : decode cX1_add 38 = .ok (.aload_n 0, 1) := by decide +kernel
theorem dX1_add_39 : decode cX1_add 39 = .ok (.getfield 22, 3) := by decide +kernel
theorem dX1_add_42 : decode cX1_add 42 = .ok (.iload_n 3, 1) := by decide +kernel
theorem dX1_add_43 : decode cX1_add 43 = .ok (.iadd, 1) := by decide +kernel
theorem dX1_add_44 : decode cX1_add 44 = .ok (.sipush 700, 3) := by decide +kernel
theorem dX1_add_47 : decode cX1_add 47 = .ok (.if_icmp .le 6, 3) := by decide +kernel
theorem dX1_add_50 : decode cX1_add 50 = .ok (.bipush (-2), 2) := by decide +kernel
theorem dX1_add_52 : decode cX1_add 52 = .ok (.ireturn, 1) := by decide +kernel
theorem dX1_add_53 : decode cX1_add 53 = .ok (.bipush 56, 2) := by decide +kernel
theorem dX1_add_55 : decode cX1_add 55 = .ok (.istore 4, 2) := by decide +kernel
theorem dX1_add_57 : decode cX1_add 57 = .ok (.iload 4, 2) := by decide +kernel
theorem dX1_add_59 : decode cX1_add 59 = .ok (.ifCond .lt 53, 3) := by decide +kernel
theorem dX1_add_62 : decode cX1_add 62 = .ok (.lload_n 1, 1) := by decide +kernel
theorem dX1_add_63 : decode cX1_add 63 = .ok (.iload 4, 2) := by decide +kernel
theorem dX1_add_65 : decode cX1_add 65 = .ok (.lushr, 1) := by decide +kernel
theorem dX1_add_66 : decode cX1_add 66 = .ok (.l2i, 1) := by decide +kernel
theorem dX1_add_67 : decode cX1_add 67 = .ok (.i2b, 1) := by decide +kernel
theorem dX1_add_68 : decode cX1_add 68 = .ok (.istore 5, 2) := by decide +kernel
theorem dX1_add_70 : decode cX1_add 70 = .ok (.iload 5, 2) := by decide +kernel
theorem dX1_add_72 : decode cX1_add 72 = .ok (.ifCond .eq 34, 3) := by decide +kernel
theorem dX1_add_75 : decode cX1_add 75 = .ok (.aload_n 0, 1) := by decide +kernel
theorem dX1_add_76 : decode cX1_add 76 = .ok (.getfield 22, 3) := by decide +kernel
theorem dX1_add_79 : decode cX1_add 79 = .ok (.sipush 700, 3) := by decide +kernel
theorem dX1_add_82 : decode cX1_add 82 = .ok (.if_icmp .ge 24, 3) := by decide +kernel
theorem dX1_add_85 : decode cX1_add 85 = .ok (.aload_n 0, 1) := by decide +kernel
theorem dX1_add_86 : decode cX1_add 86 = .ok (.getfield 18, 3) := by decide +kernel
theorem dX1_add_89 : decode cX1_add 89 = .ok (.aload_n 0, 1) := by decide +kernel
theorem dX1_add_90 : decode cX1_add 90 = .ok (.getfield 22, 3) := by decide +kernel
theorem dX1_add_93 : decode cX1_add 93 = .ok (.iload 5, 2) := by decide +kernel
theorem dX1_add_95 : decode cX1_add 95 = .ok (.bastore, 1) := by decide +kernel
theorem dX1_add_96 : decode cX1_add 96 = .ok (.aload_n 0, 1) := by decide +kernel
theorem dX1_add_97 : decode cX1_add 97 = .ok (.dup, 1) := by decide +kernel
theorem dX1_add_98 : decode cX1_add 98 = .ok (.getfield 22, 3) := by decide +kernel
theorem dX1_add_101 : decode cX1_add 101 = .ok (.iconst 1, 1) := by decide +kernel
theorem dX1_add_102 : decode cX1_add 102 = .ok (.iadd, 1) := by decide +kernel
theorem dX1_add_103 : decode cX1_add 103 = .ok (.putfield 22, 3) := by decide +kernel
theorem dX1_add_106 : decode cX1_add 106 = .ok (.iinc 4 (-8), 3) := by decide +kernel
theorem dX1_add_109 : decode cX1_add 109 = .ok (.goto (-52), 3) := by decide +kernel
theorem dX1_add_112 : decode cX1_add 112 = .ok (.aload_n 0, 1) := by decide +kernel
theorem dX1_add_113 : decode cX1_add 113 = .ok (.getfield 22, 3) := by decide +kernel
theorem dX1_add_116 : decode cX1_add 116 = .ok (.ireturn, 1) := by decide +kernel
theorem dX1_readInto_0 : decode cX1_readInto 0 = .ok (.aload_n 0, 1) := by decide +kernel
theorem dX1_readInto_1 : decode cX1_readInto 1 = .ok (.iconst 0, 1) := by decide +kernel
theorem dX1_readInto_2 : decode cX1_readInto 2 = .ok (.putfield 25, 3) := by decide +kernel
theorem dX1_readInto_5 : decode cX1_readInto 5 = .ok (.aload_n 0, 1) := by decide +kernel
theorem dX1_readInto_6 : decode cX1_readInto 6 = .ok (.iconst 0, 1) := by decide +kernel
theorem dX1_readInto_7 : decode cX1_readInto 7 = .ok (.putfield 9, 3) := by decide +kernel
theorem dX1_readInto_10 : decode cX1_readInto 10 = .ok (.aload_n 0, 1) := by decide +kernel
theorem dX1_readInto_11 : decode cX1_readInto 11 = .ok (.iconst 0, 1) := by decide +kernel
theorem dX1_readInto_12 : decode cX1_readInto 12 = .ok (.putfield 15, 3) := by decide +kernel
theorem dX1_readInto_15 : decode cX1_readInto 15 = .ok (.aload_n 1, 1) := by decide +kernel
theorem dX1_readInto_16 : decode cX1_readInto 16 = .ok (.invokevirtual 33, 3) := by decide +kernel
theorem dX1_readInto_19 : decode cX1_readInto 19 = .ok (.aload_n 0, 1) := by decide +kernel
theorem dX1_readInto_20 : decode cX1_readInto 20 = .ok (.aload_n 1, 1) := by decide +kernel
theorem dX1_readInto_21 : decode cX1_readInto 21 = .ok (.invokevirtual 38, 3) := by decide +kernel
theorem dX1_readInto_24 : decode cX1_readInto 24 = .ok (.iconst 0, 1) := by decide +kernel
theorem dX1_readInto_25 : decode cX1_readInto 25 = .ok (.istore_n 2, 1) := by decide +kernel
theorem dX1_readInto_26 : decode cX1_readInto 26 = .ok (.iload_n 2, 1) := by decide +kernel
theorem dX1_readInto_27 : decode cX1_readInto 27 = .ok (.sipush 700, 3) := by decide +kernel
theorem dX1_readInto_30 : decode cX1_readInto 30 = .ok (.if_icmp .ge 32, 3) := by decide +kernel
theorem dX1_readInto_33 : decode cX1_readInto 33 = .ok (.aload_n 0, 1) := by decide +kernel
theorem dX1_readInto_34 : decode cX1_readInto 34 = .ok (.getfield 9, 3) := by decide +kernel
theorem dX1_readInto_37 : decode cX1_readInto 37 = .ok (.ifCond .ne 25, 3) := by decide +kernel
theorem dX1_readInto_40 : decode cX1_readInto 40 = .ok (.aload_n 0, 1) := by decide +kernel
theorem dX1_readInto_41 : decode cX1_readInto 41 = .ok (.invokevirtual 42, 3) := by decide +kernel
theorem dX1_readInto_44 : decode cX1_readInto 44 = .ok (.ifCond .ne 18, 3) := by decide +kernel
theorem dX1_readInto_47 : decode cX1_readInto 47 = .ok (.aload_n 0, 1) := by decide +kernel
theorem dX1_readInto_48 : decode cX1_readInto 48 = .ok (.invokevirtual 46, 3) := by decide +kernel
theorem dX1_readInto_51 : decode cX1_readInto 51 = .ok (.aload_n 0, 1) := by decide +kernel
theorem dX1_readInto_52 : decode cX1_readInto 52 = .ok (.aload_n 1, 1) := by decide +kernel
theorem dX1_readInto_53 : decode cX1_readInto 53 = .ok (.invokevirtual 38, 3) := by decide +kernel
theorem dX1_readInto_56 : decode cX1_readInto 56 = .ok (.iinc 2 1, 3) := by decide +kernel
theorem dX1_readInto_59 : decode cX1_readInto 59 = .ok (.goto (-33), 3) := by decide +kernel
theorem dX1_readInto_62 : decode cX1_readInto 62 = .ok (.aload_n 0, 1) := by decide +kernel
theorem dX1_readInto_63 : decode cX1_readInto 63 = .ok (.iconst 0, 1) := by decide +kernel
theorem dX1_readInto_64 : decode cX1_readInto 64 = .ok (.putfield 22, 3) := by decide +kernel
theorem dX1_readInto_67 : decode cX1_readInto 67 = .ok (.return_, 1) := by decide +kernel
theorem dX1_readStatement_0 : decode cX1_readStatement 0 = .ok (.aload_n 0, 1) := by decide +kernel
theorem dX1_readStatement_1 : decode cX1_readStatement 1 = .ok (.invokevirtual 49, 3) := by decide +kernel
theorem dX1_readStatement_4 : decode cX1_readStatement 4 = .ok (.lstore_n 2, 1) := by decide +kernel
theorem dX1_readStatement_5 : decode cX1_readStatement 5 = .ok (.aload_n 0, 1) := by decide +kernel
theorem dX1_readStatement_6 : decode cX1_readStatement 6 = .ok (.getfield 28, 3) := by decide +kernel
theorem dX1_readStatement_9 : decode cX1_readStatement 9 = .ok (.istore 4, 2) := by decide +kernel
theorem dX1_readStatement_11 : decode cX1_readStatement 11 = .ok (.lload_n 2, 1) := by decide +kernel
theorem dX1_readStatement_12 : decode cX1_readStatement 12 = .ok (.invokestatic 53, 3) := by decide +kernel
theorem dX1_readStatement_15 : decode cX1_readStatement 15 = .ok (.istore 5, 2) := by decide +kernel
theorem dX1_readStatement_17 : decode cX1_readStatement 17 = .ok (.aload_n 0, 1) := by decide +kernel
theorem dX1_readStatement_18 : decode cX1_readStatement 18 = .ok (.getfield 9, 3) := by decide +kernel
theorem dX1_readStatement_21 : decode cX1_readStatement 21 = .ok (.ifCond .eq 4, 3) := by decide +kernel
theorem dX1_readStatement_24 : decode cX1_readStatement 24 = .ok (.return_, 1) := by decide +kernel
theorem dX1_readStatement_25 : decode cX1_readStatement 25 = .ok (.lload_n 2, 1) := by decide +kernel
theorem dX1_readStatement_26 : decode cX1_readStatement 26 = .ok (.ldc 57, 2) := by decide +kernel
theorem dX1_readStatement_28 : decode cX1_readStatement 28 = .ok (.invokestatic 59, 3) := by decide +kernel
theorem dX1_readStatement_31 : decode cX1_readStatement 31 = .ok (.lcmp, 1) := by decide +kernel
theorem dX1_readStatement_32 : decode cX1_readStatement 32 = .ok (.ifCond .ne 13, 3) := by decide +kernel
theorem dX1_readStatement_35 : decode cX1_readStatement 35 = .ok (.aload_n 0, 1) := by decide +kernel
theorem dX1_readStatement_36 : decode cX1_readStatement 36 = .ok (.aload_n 1, 1) := by decide +kernel
theorem dX1_readStatement_37 : decode cX1_readStatement 37 = .ok (.iload 4, 2) := by decide +kernel
theorem dX1_readStatement_39 : decode cX1_readStatement 39 = .ok (.invokevirtual 63, 3) := by decide +kernel
theorem dX1_readStatement_42 : decode cX1_readStatement 42 = .ok (.goto 62, 3) := by decide +kernel
theorem dX1_readStatement_45 : decode cX1_readStatement 45 = .ok (.lload_n 2, 1) := by decide +kernel
theorem dX1_readStatement_46 : decode cX1_readStatement 46 = .ok (.ldc 67, 2) := by decide +kernel
theorem dX1_readStatement_48 : decode cX1_readStatement 48 = .ok (.invokestatic 59, 3) := by decide +kernel
theorem dX1_readStatement_51 : decode cX1_readStatement 51 = .ok (.lcmp, 1) := by decide +kernel
theorem dX1_readStatement_52 : decode cX1_readStatement 52 = .ok (.ifCond .ne 13, 3) := by decide +kernel
theorem dX1_readStatement_55 : decode cX1_readStatement 55 = .ok (.aload_n 0, 1) := by decide +kernel
theorem dX1_readStatement_56 : decode cX1_readStatement 56 = .ok (.aload_n 1, 1) := by decide +kernel
theorem dX1_readStatement_57 : decode cX1_readStatement 57 = .ok (.iload 4, 2) := by decide +kernel
theorem dX1_readStatement_59 : decode cX1_readStatement 59 = .ok (.invokevirtual 69, 3) := by decide +kernel
theorem dX1_readStatement_62 : decode cX1_readStatement 62 = .ok (.goto 42, 3) := by decide +kernel
theorem dX1_readStatement_65 : decode cX1_readStatement 65 = .ok (.iload 5, 2) := by decide +kernel
theorem dX1_readStatement_67 : decode cX1_readStatement 67 = .ok (.iconst (-1), 1) := by decide +kernel
theorem dX1_readStatement_68 : decode cX1_readStatement 68 = .ok (.if_icmp .eq 29, 3) := by decide +kernel
theorem dX1_readStatement_71 : decode cX1_readStatement 71 = .ok (.aload_n 1, 1) := by decide +kernel
theorem dX1_readStatement_72 : decode cX1_readStatement 72 = .ok (.getfield 72, 3) := by decide +kernel
theorem dX1_readStatement_75 : decode cX1_readStatement 75 = .ok (.iload 5, 2) := by decide +kernel
theorem dX1_readStatement_77 : decode cX1_readStatement 77 = .ok (.aload_n 0, 1) := by decide +kernel
theorem dX1_readStatement_78 : decode cX1_readStatement 78 = .ok (.getstatic 76, 3) := by decide +kernel
theorem dX1_readStatement_81 : decode cX1_readStatement 81 = .ok (.iload 5, 2) := by decide +kernel
theorem dX1_readStatement_83 : decode cX1_readStatement 83 = .ok (.iaload, 1) := by decide +kernel
theorem dX1_readStatement_84 : decode cX1_readStatement 84 = .ok (.getstatic 79, 3) := by decide +kernel
theorem dX1_readStatement_87 : decode cX1_readStatement 87 = .ok (.iload 5, 2) := by decide +kernel
theorem dX1_readStatement_89 : decode cX1_readStatement 89 = .ok (.iaload, 1) := by decide +kernel
theorem dX1_readStatement_90 : decode cX1_readStatement 90 = .ok (.invokevirtual 82, 3) := by decide +kernel
theorem dX1_readStatement_93 : decode cX1_readStatement 93 = .ok (.iastore, 1) := by decide +kernel
theorem dX1_readStatement_94 : decode cX1_readStatement 94 = .ok (.goto 10, 3) := by decide +kernel
theorem dX1_readStatement_97 : decode cX1_readStatement 97 = .ok (.aload_n 0, 1) := by decide +kernel
theorem dX1_readStatement_98 : decode cX1_readStatement 98 = .ok (.iconst 1, 1) := by decide +kernel
theorem dX1_readStatement_99 : decode cX1_readStatement 99 = .ok (.iload 4, 2) := by decide +kernel
theorem dX1_readStatement_101 : decode cX1_readStatement 101 = .ok (.invokevirtual 86, 3) := by decide +kernel
theorem dX1_readStatement_104 : decode cX1_readStatement 104 = .ok (.return_, 1) := by decide +kernel
theorem dX1_settingOf_0 : decode cX1_settingOf 0 = .ok (.lload_n 0, 1) := by decide +kernel
theorem dX1_settingOf_1 : decode cX1_settingOf 1 = .ok (.ldc 90, 2) := by decide +kernel
theorem dX1_settingOf_3 : decode cX1_settingOf 3 = .ok (.invokestatic 59, 3) := by decide +kernel
theorem dX1_settingOf_6 : decode cX1_settingOf 6 = .ok (.lcmp, 1) := by decide +kernel
theorem dX1_settingOf_7 : decode cX1_settingOf 7 = .ok (.ifCond .ne 5, 3) := by decide +kernel
theorem dX1_settingOf_10 : decode cX1_settingOf 10 = .ok (.iconst 0, 1) := by decide +kernel
theorem dX1_settingOf_11 : decode cX1_settingOf 11 = .ok (.ireturn, 1) := by decide +kernel
theorem dX1_settingOf_12 : decode cX1_settingOf 12 = .ok (.lload_n 0, 1) := by decide +kernel
theorem dX1_settingOf_13 : decode cX1_settingOf 13 = .ok (.ldc 92, 2) := by decide +kernel
theorem dX1_settingOf_15 : decode cX1_settingOf 15 = .ok (.invokestatic 59, 3) := by decide +kernel
theorem dX1_settingOf_18 : decode cX1_settingOf 18 = .ok (.lcmp, 1) := by decide +kernel
theorem dX1_settingOf_19 : decode cX1_settingOf 19 = .ok (.ifCond .ne 5, 3) := by decide +kernel
theorem dX1_settingOf_22 : decode cX1_settingOf 22 = .ok (.iconst 1, 1) := by decide +kernel
theorem dX1_settingOf_23 : decode cX1_settingOf 23 = .ok (.ireturn, 1) := by decide +kernel
theorem dX1_settingOf_24 : decode cX1_settingOf 24 = .ok (.lload_n 0, 1) := by decide +kernel
theorem dX1_settingOf_25 : decode cX1_settingOf 25 = .ok (.ldc 94, 2) := by decide +kernel
theorem dX1_settingOf_27 : decode cX1_settingOf 27 = .ok (.invokestatic 59, 3) := by decide +kernel
theorem dX1_settingOf_30 : decode cX1_settingOf 30 = .ok (.lcmp, 1) := by decide +kernel
theorem dX1_settingOf_31 : decode cX1_settingOf 31 = .ok (.ifCond .ne 5, 3) := by decide +kernel
theorem dX1_settingOf_34 : decode cX1_settingOf 34 = .ok (.iconst 2, 1) := by decide +kernel
theorem dX1_settingOf_35 : decode cX1_settingOf 35 = .ok (.ireturn, 1) := by decide +kernel
theorem dX1_settingOf_36 : decode cX1_settingOf 36 = .ok (.lload_n 0, 1) := by decide +kernel
theorem dX1_settingOf_37 : decode cX1_settingOf 37 = .ok (.ldc 96, 2) := by decide +kernel
theorem dX1_settingOf_39 : decode cX1_settingOf 39 = .ok (.invokestatic 59, 3) := by decide +kernel
theorem dX1_settingOf_42 : decode cX1_settingOf 42 = .ok (.lcmp, 1) := by decide +kernel
theorem dX1_settingOf_43 : decode cX1_settingOf 43 = .ok (.ifCond .ne 5, 3) := by decide +kernel
theorem dX1_settingOf_46 : decode cX1_settingOf 46 = .ok (.iconst 3, 1) := by decide +kernel
theorem dX1_settingOf_47 : decode cX1_settingOf 47 = .ok (.ireturn, 1) := by decide +kernel
theorem dX1_settingOf_48 : decode cX1_settingOf 48 = .ok (.lload_n 0, 1) := by decide +kernel
theorem dX1_settingOf_49 : decode cX1_settingOf 49 = .ok (.ldc 98, 2) := by decide +kernel
theorem dX1_settingOf_51 : decode cX1_settingOf 51 = .ok (.invokestatic 59, 3) := by decide +kernel
theorem dX1_settingOf_54 : decode cX1_settingOf 54 = .ok (.lcmp, 1) := by decide +kernel
theorem dX1_settingOf_55 : decode cX1_settingOf 55 = .ok (.ifCond .ne 7, 3) := by decide +kernel
theorem dX1_settingOf_58 : decode cX1_settingOf 58 = .ok (.iconst 4, 1) := by decide +kernel
theorem dX1_settingOf_59 : decode cX1_settingOf 59 = .ok (.goto 4, 3) := by decide +kernel
theorem dX1_settingOf_62 : decode cX1_settingOf 62 = .ok (.iconst (-1), 1) := by decide +kernel
theorem dX1_settingOf_63 : decode cX1_settingOf 63 = .ok (.ireturn, 1) := by decide +kernel
theorem dX1_readNode_0 : decode cX1_readNode 0 = .ok (.aload_n 1, 1) := by decide +kernel
theorem dX1_readNode_1 : decode cX1_readNode 1 = .ok (.getfield 100, 3) := by decide +kernel
theorem dX1_readNode_4 : decode cX1_readNode 4 = .ok (.bipush 12, 2) := by decide +kernel
theorem dX1_readNode_6 : decode cX1_readNode 6 = .ok (.if_icmp .lt 10, 3) := by decide +kernel
theorem dX1_readNode_9 : decode cX1_readNode 9 = .ok (.aload_n 0, 1) := by decide +kernel
theorem dX1_readNode_10 : decode cX1_readNode 10 = .ok (.iconst 4, 1) := by decide +kernel
theorem dX1_readNode_11 : decode cX1_readNode 11 = .ok (.iload_n 2, 1) := by decide +kernel
theorem dX1_readNode_12 : decode cX1_readNode 12 = .ok (.invokevirtual 86, 3) := by decide +kernel
theorem dX1_readNode_15 : decode cX1_readNode 15 = .ok (.return_, 1) := by decide +kernel
theorem dX1_readNode_16 : decode cX1_readNode 16 = .ok (.aload_n 0, 1) := by decide +kernel
theorem dX1_readNode_17 : decode cX1_readNode 17 = .ok (.invokevirtual 49, 3) := by decide +kernel
theorem dX1_readNode_20 : decode cX1_readNode 20 = .ok (.lstore_n 3, 1) := by decide +kernel
theorem dX1_readNode_21 : decode cX1_readNode 21 = .ok (.lload_n 3, 1) := by decide +kernel
theorem dX1_readNode_22 : decode cX1_readNode 22 = .ok (.lconst 0, 1) := by decide +kernel
theorem dX1_readNode_23 : decode cX1_readNode 23 = .ok (.lcmp, 1) := by decide +kernel
theorem dX1_readNode_24 : decode cX1_readNode 24 = .ok (.ifCond .eq 12, 3) := by decide +kernel
theorem dX1_readNode_27 : decode cX1_readNode 27 = .ok (.aload_n 1, 1) := by decide +kernel
theorem dX1_readNode_28 : decode cX1_readNode 28 = .ok (.lload_n 3, 1) := by decide +kernel
theorem dX1_readNode_29 : decode cX1_readNode 29 = .ok (.invokevirtual 103, 3) := by decide +kernel
theorem dX1_readNode_32 : decode cX1_readNode 32 = .ok (.iconst (-1), 1) := by decide +kernel
theorem dX1_readNode_33 : decode cX1_readNode 33 = .ok (.if_icmp .eq 12, 3) := by decide +kernel
theorem dX1_readNode_36 : decode cX1_readNode 36 = .ok (.aload_n 0, 1) := by decide +kernel
theorem dX1_readNode_37 : decode cX1_readNode 37 = .ok (.iconst 3, 1) := by decide +kernel
theorem dX1_readNode_38 : decode cX1_readNode 38 = .ok (.aload_n 0, 1) := by decide +kernel
theorem dX1_readNode_39 : decode cX1_readNode 39 = .ok (.getfield 28, 3) := by decide +kernel
theorem dX1_readNode_42 : decode cX1_readNode 42 = .ok (.invokevirtual 86, 3) := by decide +kernel
theorem dX1_readNode_45 : decode cX1_readNode 45 = .ok (.aload_n 0, 1) := by decide +kernel
theorem dX1_readNode_46 : decode cX1_readNode 46 = .ok (.getfield 9, 3) := by decide +kernel
theorem dX1_readNode_49 : decode cX1_readNode 49 = .ok (.ifCond .ne 8, 3) := by decide +kernel
theorem dX1_readNode_52 : decode cX1_readNode 52 = .ok (.aload_n 1, 1) := by decide +kernel
theorem dX1_readNode_53 : decode cX1_readNode 53 = .ok (.lload_n 3, 1) := by decide +kernel
theorem dX1_readNode_54 : decode cX1_readNode 54 = .ok (.invokevirtual 106, 3) := by decide +kernel
theorem dX1_readNode_57 : decode cX1_readNode 57 = .ok (.return_, 1) := by decide +kernel
theorem dX1_readLink_0 : decode cX1_readLink 0 = .ok (.aload_n 1, 1) := by decide +kernel
theorem dX1_readLink_1 : decode cX1_readLink 1 = .ok (.getfield 110, 3) := by decide +kernel
theorem dX1_readLink_4 : decode cX1_readLink 4 = .ok (.getfield 114, 3) := by decide +kernel
theorem dX1_readLink_7 : decode cX1_readLink 7 = .ok (.bipush 24, 2) := by decide +kernel
theorem dX1_readLink_9 : decode cX1_readLink 9 = .ok (.if_icmp .lt 10, 3) := by decide +kernel
theorem dX1_readLink_12 : decode cX1_readLink 12 = .ok (.aload_n 0, 1) := by decide +kernel
theorem dX1_readLink_13 : decode cX1_readLink 13 = .ok (.iconst 4, 1) := by decide +kernel
theorem dX1_readLink_14 : decode cX1_readLink 14 = .ok (.iload_n 2, 1) := by decide +kernel
theorem dX1_readLink_15 : decode cX1_readLink 15 = .ok (.invokevirtual 86, 3) := by decide +kernel
theorem dX1_readLink_18 : decode cX1_readLink 18 = .ok (.return_, 1) := by decide +kernel
theorem dX1_readLink_19 : decode cX1_readLink 19 = .ok (.aload_n 0, 1) := by decide +kernel
theorem dX1_readLink_20 : decode cX1_readLink 20 = .ok (.aload_n 1, 1) := by decide +kernel
theorem dX1_readLink_21 : decode cX1_readLink 21 = .ok (.invokevirtual 119, 3) := by decide +kernel
theorem dX1_readLink_24 : decode cX1_readLink 24 = .ok (.istore_n 3, 1) := by decide +kernel
theorem dX1_readLink_25 : decode cX1_readLink 25 = .ok (.aload_n 0, 1) := by decide +kernel
theorem dX1_readLink_26 : decode cX1_readLink 26 = .ok (.aload_n 1, 1) := by decide +kernel
theorem dX1_readLink_27 : decode cX1_readLink 27 = .ok (.invokevirtual 119, 3) := by decide +kernel
theorem dX1_readLink_30 : decode cX1_readLink 30 = .ok (.istore 4, 2) := by decide +kernel
theorem dX1_readLink_32 : decode cX1_readLink 32 = .ok (.iload_n 3, 1) := by decide +kernel
theorem dX1_readLink_33 : decode cX1_readLink 33 = .ok (.iload 4, 2) := by decide +kernel
theorem dX1_readLink_35 : decode cX1_readLink 35 = .ok (.if_icmp .ne 12, 3) := by decide +kernel
theorem dX1_readLink_38 : decode cX1_readLink 38 = .ok (.aload_n 0, 1) := by decide +kernel
theorem dX1_readLink_39 : decode cX1_readLink 39 = .ok (.iconst 3, 1) := by decide +kernel
theorem dX1_readLink_40 : decode cX1_readLink 40 = .ok (.aload_n 0, 1) := by decide +kernel
theorem dX1_readLink_41 : decode cX1_readLink 41 = .ok (.getfield 28, 3) := by decide +kernel
theorem dX1_readLink_44 : decode cX1_readLink 44 = .ok (.invokevirtual 86, 3) := by decide +kernel
theorem dX1_readLink_47 : decode cX1_readLink 47 = .ok (.aload_n 0, 1) := by decide +kernel
theorem dX1_readLink_48 : decode cX1_readLink 48 = .ok (.iconst 0, 1) := by decide +kernel
theorem dX1_readLink_49 : decode cX1_readLink 49 = .ok (.sipush 1000, 3) := by decide +kernel
theorem dX1_readLink_52 : decode cX1_readLink 52 = .ok (.invokevirtual 82, 3) := by decide +kernel
theorem dX1_readLink_55 : decode cX1_readLink 55 = .ok (.istore 5, 2) := by decide +kernel
theorem dX1_readLink_57 : decode cX1_readLink 57 = .ok (.aload_n 0, 1) := by decide +kernel
theorem dX1_readLink_58 : decode cX1_readLink 58 = .ok (.iconst 0, 1) := by decide +kernel
theorem dX1_readLink_59 : decode cX1_readLink 59 = .ok (.sipush 1000, 3) := by decide +kernel
theorem dX1_readLink_62 : decode cX1_readLink 62 = .ok (.invokevirtual 82, 3) := by decide +kernel
theorem dX1_readLink_65 : decode cX1_readLink 65 = .ok (.istore 6, 2) := by decide +kernel
theorem dX1_readLink_67 : decode cX1_readLink 67 = .ok (.aload_n 0, 1) := by decide +kernel
theorem dX1_readLink_68 : decode cX1_readLink 68 = .ok (.iconst 1, 1) := by decide +kernel
theorem dX1_readLink_69 : decode cX1_readLink 69 = .ok (.bipush 50, 2) := by decide +kernel
theorem dX1_readLink_71 : decode cX1_readLink 71 = .ok (.invokevirtual 82, 3) := by decide +kernel
theorem dX1_readLink_74 : decode cX1_readLink 74 = .ok (.istore 7, 2) := by decide +kernel
theorem dX1_readLink_76 : decode cX1_readLink 76 = .ok (.aload_n 0, 1) := by decide +kernel
theorem dX1_readLink_77 : decode cX1_readLink 77 = .ok (.getfield 9, 3) := by decide +kernel
theorem dX1_readLink_80 : decode cX1_readLink 80 = .ok (.ifCond .ne 19, 3) := by decide +kernel
theorem dX1_readLink_83 : decode cX1_readLink 83 = .ok (.aload_n 1, 1) := by decide +kernel
theorem dX1_readLink_84 : decode cX1_readLink 84 = .ok (.getfield 110, 3) := by decide +kernel
theorem dX1_readLink_87 : decode cX1_readLink 87 = .ok (.iload_n 3, 1) := by decide +kernel
theorem dX1_readLink_88 : decode cX1_readLink 88 = .ok (.iload 4, 2) := by decide +kernel
theorem dX1_readLink_90 : decode cX1_readLink 90 = .ok (.iload 5, 2) := by decide +kernel
theorem dX1_readLink_92 : decode cX1_readLink 92 = .ok (.iload 6, 2) := by decide +kernel
theorem dX1_readLink_94 : decode cX1_readLink 94 = .ok (.iload 7, 2) := by decide +kernel
theorem dX1_readLink_96 : decode cX1_readLink 96 = .ok (.invokevirtual 123, 3) := by decide +kernel
theorem dX1_readLink_99 : decode cX1_readLink 99 = .ok (.return_, 1) := by decide +kernel
theorem dX1_readKnownNode_0 : decode cX1_readKnownNode 0 = .ok (.aload_n 1, 1) := by decide +kernel
theorem dX1_readKnownNode_1 : decode cX1_readKnownNode 1 = .ok (.aload_n 0, 1) := by decide +kernel
theorem dX1_readKnownNode_2 : decode cX1_readKnownNode 2 = .ok (.invokevirtual 49, 3) := by decide +kernel
theorem dX1_readKnownNode_5 : decode cX1_readKnownNode 5 = .ok (.invokevirtual 103, 3) := by decide +kernel
theorem dX1_readKnownNode_8 : decode cX1_readKnownNode 8 = .ok (.istore_n 2, 1) := by decide +kernel
theorem dX1_readKnownNode_9 : decode cX1_readKnownNode 9 = .ok (.iload_n 2, 1) := by decide +kernel
theorem dX1_readKnownNode_10 : decode cX1_readKnownNode 10 = .ok (.iconst (-1), 1) := by decide +kernel
theorem dX1_readKnownNode_11 : decode cX1_readKnownNode 11 = .ok (.if_icmp .ne 12, 3) := by decide +kernel
theorem dX1_readKnownNode_14 : decode cX1_readKnownNode 14 = .ok (.aload_n 0, 1) := by decide +kernel
theorem dX1_readKnownNode_15 : decode cX1_readKnownNode 15 = .ok (.iconst 3, 1) := by decide +kernel
theorem dX1_readKnownNode_16 : decode cX1_readKnownNode 16 = .ok (.aload_n 0, 1) := by decide +kernel
theorem dX1_readKnownNode_17 : decode cX1_readKnownNode 17 = .ok (.getfield 28, 3) := by decide +kernel
theorem dX1_readKnownNode_20 : decode cX1_readKnownNode 20 = .ok (.invokevirtual 86, 3) := by decide +kernel
theorem dX1_readKnownNode_23 : decode cX1_readKnownNode 23 = .ok (.iload_n 2, 1) := by decide +kernel
theorem dX1_readKnownNode_24 : decode cX1_readKnownNode 24 = .ok (.ireturn, 1) := by decide +kernel
theorem dX1_readWord_0 : decode cX1_readWord 0 = .ok (.aload_n 0, 1) := by decide +kernel
theorem dX1_readWord_1 : decode cX1_readWord 1 = .ok (.invokevirtual 127, 3) := by decide +kernel
theorem dX1_readWord_4 : decode cX1_readWord 4 = .ok (.aload_n 0, 1) := by decide +kernel
theorem dX1_readWord_5 : decode cX1_readWord 5 = .ok (.aload_n 0, 1) := by decide +kernel
theorem dX1_readWord_6 : decode cX1_readWord 6 = .ok (.getfield 25, 3) := by decide +kernel
theorem dX1_readWord_9 : decode cX1_readWord 9 = .ok (.putfield 28, 3) := by decide +kernel
theorem dX1_readWord_12 : decode cX1_readWord 12 = .ok (.lconst 0, 1) := by decide +kernel
theorem dX1_readWord_13 : decode cX1_readWord 13 = .ok (.lstore_n 1, 1) := by decide +kernel
theorem dX1_readWord_14 : decode cX1_readWord 14 = .ok (.iconst 0, 1) := by decide +kernel
theorem dX1_readWord_15 : decode cX1_readWord 15 = .ok (.istore_n 3, 1) := by decide +kernel
theorem dX1_readWord_16 : decode cX1_readWord 16 = .ok (.iload_n 3, 1) := by decide +kernel
theorem dX1_readWord_17 : decode cX1_readWord 17 = .ok (.sipush 700, 3) := by decide +kernel
theorem dX1_readWord_20 : decode cX1_readWord 20 = .ok (.if_icmp .ge 56, 3) := by decide +kernel
theorem dX1_readWord_23 : decode cX1_readWord 23 = .ok (.aload_n 0, 1) := by decide +kernel
theorem dX1_readWord_24 : decode cX1_readWord 24 = .ok (.bipush 97, 2) := by decide +kernel
theorem dX1_readWord_26 : decode cX1_readWord 26 = .ok (.bipush 122, 2) := by decide +kernel
theorem dX1_readWord_28 : decode cX1_readWord 28 = .ok (.invokevirtual 130, 3) := by decide +kernel
theorem dX1_readWord_31 : decode cX1_readWord 31 = .ok (.ifCond .eq 45, 3) := by decide +kernel
theorem dX1_readWord_34 : decode cX1_readWord 34 = .ok (.iload_n 3, 1) := by decide +kernel
theorem dX1_readWord_35 : decode cX1_readWord 35 = .ok (.bipush 6, 2) := by decide +kernel
theorem dX1_readWord_37 : decode cX1_readWord 37 = .ok (.if_icmp .ge 21, 3) := by decide +kernel
theorem dX1_readWord_40 : decode cX1_readWord 40 = .ok (.lload_n 1, 1) := by decide +kernel
theorem dX1_readWord_41 : decode cX1_readWord 41 = .ok (.bipush 8, 2) := by decide +kernel
theorem dX1_readWord_43 : decode cX1_readWord 43 = .ok (.lshl, 1) := by decide +kernel
theorem dX1_readWord_44 : decode cX1_readWord 44 = .ok (.aload_n 0, 1) := by decide +kernel
theorem dX1_readWord_45 : decode cX1_readWord 45 = .ok (.getfield 18, 3) := by decide +kernel
theorem dX1_readWord_48 : decode cX1_readWord 48 = .ok (.aload_n 0, 1) := by decide +kernel
theorem dX1_readWord_49 : decode cX1_readWord 49 = .ok (.getfield 25, 3) := by decide +kernel
theorem dX1_readWord_52 : decode cX1_readWord 52 = .ok (.baload, 1) := by decide +kernel
theorem dX1_readWord_53 : decode cX1_readWord 53 = .ok (.i2l, 1) := by decide +kernel
theorem dX1_readWord_54 : decode cX1_readWord 54 = .ok (.lor, 1) := by decide +kernel
theorem dX1_readWord_55 : decode cX1_readWord 55 = .ok (.goto 4, 3) := by decide +kernel
theorem dX1_readWord_58 : decode cX1_readWord 58 = .ok (.lconst 0, 1) := by decide +kernel
theorem dX1_readWord_59 : decode cX1_readWord 59 = .ok (.lstore_n 1, 1) := by decide +kernel
theorem dX1_readWord_60 : decode cX1_readWord 60 = .ok (.aload_n 0, 1) := by decide +kernel
theorem dX1_readWord_61 : decode cX1_readWord 61 = .ok (.dup, 1) := by decide +kernel
theorem dX1_readWord_62 : decode cX1_readWord 62 = .ok (.getfield 25, 3) := by decide +kernel
theorem dX1_readWord_65 : decode cX1_readWord 65 = .ok (.iconst 1, 1) := by decide +kernel
theorem dX1_readWord_66 : decode cX1_readWord 66 = .ok (.iadd, 1) := by decide +kernel
theorem dX1_readWord_67 : decode cX1_readWord 67 = .ok (.putfield 25, 3) := by decide +kernel
theorem dX1_readWord_70 : decode cX1_readWord 70 = .ok (.iinc 3 1, 3) := by decide +kernel
theorem dX1_readWord_73 : decode cX1_readWord 73 = .ok (.goto (-57), 3) := by decide +kernel
theorem dX1_readWord_76 : decode cX1_readWord 76 = .ok (.aload_n 0, 1) := by decide +kernel
theorem dX1_readWord_77 : decode cX1_readWord 77 = .ok (.getfield 25, 3) := by decide +kernel
theorem dX1_readWord_80 : decode cX1_readWord 80 = .ok (.aload_n 0, 1) := by decide +kernel
theorem dX1_readWord_81 : decode cX1_readWord 81 = .ok (.getfield 28, 3) := by decide +kernel
theorem dX1_readWord_84 : decode cX1_readWord 84 = .ok (.if_icmp .ne 12, 3) := by decide +kernel
theorem dX1_readWord_87 : decode cX1_readWord 87 = .ok (.aload_n 0, 1) := by decide +kernel
theorem dX1_readWord_88 : decode cX1_readWord 88 = .ok (.iconst 1, 1) := by decide +kernel
theorem dX1_readWord_89 : decode cX1_readWord 89 = .ok (.aload_n 0, 1) := by decide +kernel
theorem dX1_readWord_90 : decode cX1_readWord 90 = .ok (.getfield 25, 3) := by decide +kernel
theorem dX1_readWord_93 : decode cX1_readWord 93 = .ok (.invokevirtual 86, 3) := by decide +kernel
theorem dX1_readWord_96 : decode cX1_readWord 96 = .ok (.lload_n 1, 1) := by decide +kernel
theorem dX1_readWord_97 : decode cX1_readWord 97 = .ok (.lreturn, 1) := by decide +kernel
theorem dX1_readNumber_0 : decode cX1_readNumber 0 = .ok (.aload_n 0, 1) := by decide +kernel
theorem dX1_readNumber_1 : decode cX1_readNumber 1 = .ok (.invokevirtual 127, 3) := by decide +kernel
theorem dX1_readNumber_4 : decode cX1_readNumber 4 = .ok (.aload_n 0, 1) := by decide +kernel
theorem dX1_readNumber_5 : decode cX1_readNumber 5 = .ok (.getfield 25, 3) := by decide +kernel
theorem dX1_readNumber_8 : decode cX1_readNumber 8 = .ok (.istore_n 3, 1) := by decide +kernel
theorem dX1_readNumber_9 : decode cX1_readNumber 9 = .ok (.iconst 0, 1) := by decide +kernel
theorem dX1_readNumber_10 : decode cX1_readNumber 10 = .ok (.istore 4, 2) := by decide +kernel
theorem dX1_readNumber_12 : decode cX1_readNumber 12 = .ok (.iconst 0, 1) := by decide +kernel
theorem dX1_readNumber_13 : decode cX1_readNumber 13 = .ok (.istore 5, 2) := by decide +kernel
theorem dX1_readNumber_15 : decode cX1_readNumber 15 = .ok (.iload 5, 2) := by decide +kernel
theorem dX1_readNumber_17 : decode cX1_readNumber 17 = .ok (.sipush 700, 3) := by decide +kernel
theorem dX1_readNumber_20 : decode cX1_readNumber 20 = .ok (.if_icmp .ge 55, 3) := by decide +kernel
theorem dX1_readNumber_23 : decode cX1_readNumber 23 = .ok (.aload_n 0, 1) := by decide +kernel
theorem dX1_readNumber_24 : decode cX1_readNumber 24 = .ok (.bipush 48, 2) := by decide +kernel
theorem dX1_readNumber_26 : decode cX1_readNumber 26 = .ok (.bipush 57, 2) := by decide +kernel
theorem dX1_readNumber_28 : decode cX1_readNumber 28 = .ok (.invokevirtual 130, 3) := by decide +kernel
theorem dX1_readNumber_31 : decode cX1_readNumber 31 = .ok (.ifCond .eq 44, 3) := by decide +kernel
theorem dX1_readNumber_34 : decode cX1_readNumber 34 = .ok (.iload 4, 2) := by decide +kernel
theorem dX1_readNumber_36 : decode cX1_readNumber 36 = .ok (.bipush 10, 2) := by decide +kernel
theorem dX1_readNumber_38 : decode cX1_readNumber 38 = .ok (.imul, 1) := by decide +kernel
theorem dX1_readNumber_39 : decode cX1_readNumber 39 = .ok (.aload_n 0, 1) := by decide +kernel
theorem dX1_readNumber_40 : decode cX1_readNumber 40 = .ok (.getfield 18, 3) := by decide +kernel
theorem dX1_readNumber_43 : decode cX1_readNumber 43 = .ok (.aload_n 0, 1) := by decide +kernel
theorem dX1_readNumber_44 : decode cX1_readNumber 44 = .ok (.getfield 25, 3) := by decide +kernel
theorem dX1_readNumber_47 : decode cX1_readNumber 47 = .ok (.baload, 1) := by decide +kernel
theorem dX1_readNumber_48 : decode cX1_readNumber 48 = .ok (.iadd, 1) := by decide +kernel
theorem dX1_readNumber_49 : decode cX1_readNumber 49 = .ok (.bipush 48, 2) := by decide +kernel
theorem dX1_readNumber_51 : decode cX1_readNumber 51 = .ok (.isub, 1) := by decide +kernel
theorem dX1_readNumber_52 : decode cX1_readNumber 52 = .ok (.ldc 134, 2) := by decide +kernel
theorem dX1_readNumber_54 : decode cX1_readNumber 54 = .ok (.invokestatic 135, 3) := by decide +kernel
theorem dX1_readNumber_57 : decode cX1_readNumber 57 = .ok (.istore 4, 2) := by decide +kernel
theorem dX1_readNumber_59 : decode cX1_readNumber 59 = .ok (.aload_n 0, 1) := by decide +kernel
theorem dX1_readNumber_60 : decode cX1_readNumber 60 = .ok (.dup, 1) := by decide +kernel
theorem dX1_readNumber_61 : decode cX1_readNumber 61 = .ok (.getfield 25, 3) := by decide +kernel
theorem dX1_readNumber_64 : decode cX1_readNumber 64 = .ok (.iconst 1, 1) := by decide +kernel
theorem dX1_readNumber_65 : decode cX1_readNumber 65 = .ok (.iadd, 1) := by decide +kernel
theorem dX1_readNumber_66 : decode cX1_readNumber 66 = .ok (.putfield 25, 3) := by decide +kernel
theorem dX1_readNumber_69 : decode cX1_readNumber 69 = .ok (.iinc 5 1, 3) := by decide +kernel
theorem dX1_readNumber_72 : decode cX1_readNumber 72 = .ok (.goto (-57), 3) := by decide +kernel
theorem dX1_readNumber_75 : decode cX1_readNumber 75 = .ok (.aload_n 0, 1) := by decide +kernel
theorem dX1_readNumber_76 : decode cX1_readNumber 76 = .ok (.getfield 25, 3) := by decide +kernel
theorem dX1_readNumber_79 : decode cX1_readNumber 79 = .ok (.iload_n 3, 1) := by decide +kernel
theorem dX1_readNumber_80 : decode cX1_readNumber 80 = .ok (.if_icmp .ne 15, 3) := by decide +kernel
theorem dX1_readNumber_83 : decode cX1_readNumber 83 = .ok (.aload_n 0, 1) := by decide +kernel
theorem dX1_readNumber_84 : decode cX1_readNumber 84 = .ok (.iconst 1, 1) := by decide +kernel
theorem dX1_readNumber_85 : decode cX1_readNumber 85 = .ok (.aload_n 0, 1) := by decide +kernel
theorem dX1_readNumber_86 : decode cX1_readNumber 86 = .ok (.getfield 25, 3) := by decide +kernel
theorem dX1_readNumber_89 : decode cX1_readNumber 89 = .ok (.invokevirtual 86, 3) := by decide +kernel
theorem dX1_readNumber_92 : decode cX1_readNumber 92 = .ok (.goto 21, 3) := by decide +kernel
theorem dX1_readNumber_95 : decode cX1_readNumber 95 = .ok (.iload 4, 2) := by decide +kernel
theorem dX1_readNumber_97 : decode cX1_readNumber 97 = .ok (.iload_n 1, 1) := by decide +kernel
theorem dX1_readNumber_98 : decode cX1_readNumber 98 = .ok (.if_icmp .lt 9, 3) := by decide +kernel
theorem dX1_readNumber_101 : decode cX1_readNumber 101 = .ok (.iload 4, 2) := by decide +kernel
theorem dX1_readNumber_103 : decode cX1_readNumber 103 = .ok (.iload_n 2, 1) := by decide +kernel
theorem dX1_readNumber_104 : decode cX1_readNumber 104 = .ok (.if_icmp .le 9, 3) := by decide +kernel
theorem dX1_readNumber_107 : decode cX1_readNumber 107 = .ok (.aload_n 0, 1) := by decide +kernel
theorem dX1_readNumber_108 : decode cX1_readNumber 108 = .ok (.iconst 2, 1) := by decide +kernel
theorem dX1_readNumber_109 : decode cX1_readNumber 109 = .ok (.iload_n 3, 1) := by decide +kernel
theorem dX1_readNumber_110 : decode cX1_readNumber 110 = .ok (.invokevirtual 86, 3) := by decide +kernel
theorem dX1_readNumber_113 : decode cX1_readNumber 113 = .ok (.iload 4, 2) := by decide +kernel
theorem dX1_readNumber_115 : decode cX1_readNumber 115 = .ok (.ireturn, 1) := by decide +kernel
theorem dX1_readSemicolon_0 : decode cX1_readSemicolon 0 = .ok (.aload_n 0, 1) := by decide +kernel
theorem dX1_readSemicolon_1 : decode cX1_readSemicolon 1 = .ok (.getfield 25, 3) := by decide +kernel
theorem dX1_readSemicolon_4 : decode cX1_readSemicolon 4 = .ok (.aload_n 0, 1) := by decide +kernel
theorem dX1_readSemicolon_5 : decode cX1_readSemicolon 5 = .ok (.getfield 22, 3) := by decide +kernel
theorem dX1_readSemicolon_8 : decode cX1_readSemicolon 8 = .ok (.if_icmp .ge 30, 3) := by decide +kernel
theorem dX1_readSemicolon_11 : decode cX1_readSemicolon 11 = .ok (.aload_n 0, 1) := by decide +kernel
theorem dX1_readSemicolon_12 : decode cX1_readSemicolon 12 = .ok (.getfield 18, 3) := by decide +kernel
theorem dX1_readSemicolon_15 : decode cX1_readSemicolon 15 = .ok (.aload_n 0, 1) := by decide +kernel
theorem dX1_readSemicolon_16 : decode cX1_readSemicolon 16 = .ok (.getfield 25, 3) := by decide +kernel
theorem dX1_readSemicolon_19 : decode cX1_readSemicolon 19 = .ok (.baload, 1) := by decide +kernel
theorem dX1_readSemicolon_20 : decode cX1_readSemicolon 20 = .ok (.bipush 59, 2) := by decide +kernel
theorem dX1_readSemicolon_22 : decode cX1_readSemicolon 22 = .ok (.if_icmp .ne 16, 3) := by decide +kernel
theorem dX1_readSemicolon_25 : decode cX1_readSemicolon 25 = .ok (.aload_n 0, 1) := by decide +kernel
theorem dX1_readSemicolon_26 : decode cX1_readSemicolon 26 = .ok (.dup, 1) := by decide +kernel
theorem dX1_readSemicolon_27 : decode cX1_readSemicolon 27 = .ok (.getfield 25, 3) := by decide +kernel
theorem dX1_readSemicolon_30 : decode cX1_readSemicolon 30 = .ok (.iconst 1, 1) := by decide +kernel
theorem dX1_readSemicolon_31 : decode cX1_readSemicolon 31 = .ok (.iadd, 1) := by decide +kernel
theorem dX1_readSemicolon_32 : decode cX1_readSemicolon 32 = .ok (.putfield 25, 3) := by decide +kernel
theorem dX1_readSemicolon_35 : decode cX1_readSemicolon 35 = .ok (.goto 12, 3) := by decide +kernel
theorem dX1_readSemicolon_38 : decode cX1_readSemicolon 38 = .ok (.aload_n 0, 1) := by decide +kernel
theorem dX1_readSemicolon_39 : decode cX1_readSemicolon 39 = .ok (.iconst 1, 1) := by decide +kernel
theorem dX1_readSemicolon_40 : decode cX1_readSemicolon 40 = .ok (.aload_n 0, 1) := by decide +kernel
theorem dX1_readSemicolon_41 : decode cX1_readSemicolon 41 = .ok (.getfield 25, 3) := by decide +kernel
theorem dX1_readSemicolon_44 : decode cX1_readSemicolon 44 = .ok (.invokevirtual 86, 3) := by decide +kernel
theorem dX1_readSemicolon_47 : decode cX1_readSemicolon 47 = .ok (.return_, 1) := by decide +kernel
theorem dX1_isAtEnd_0 : decode cX1_isAtEnd 0 = .ok (.aload_n 0, 1) := by decide +kernel
theorem dX1_isAtEnd_1 : decode cX1_isAtEnd 1 = .ok (.invokevirtual 127, 3) := by decide +kernel
theorem dX1_isAtEnd_4 : decode cX1_isAtEnd 4 = .ok (.aload_n 0, 1) := by decide +kernel
theorem dX1_isAtEnd_5 : decode cX1_isAtEnd 5 = .ok (.getfield 25, 3) := by decide +kernel
theorem dX1_isAtEnd_8 : decode cX1_isAtEnd 8 = .ok (.aload_n 0, 1) := by decide +kernel
theorem dX1_isAtEnd_9 : decode cX1_isAtEnd 9 = .ok (.getfield 22, 3) := by decide +kernel
theorem dX1_isAtEnd_12 : decode cX1_isAtEnd 12 = .ok (.if_icmp .lt 7, 3) := by decide +kernel
theorem dX1_isAtEnd_15 : decode cX1_isAtEnd 15 = .ok (.iconst 1, 1) := by decide +kernel
theorem dX1_isAtEnd_16 : decode cX1_isAtEnd 16 = .ok (.goto 4, 3) := by decide +kernel
theorem dX1_isAtEnd_19 : decode cX1_isAtEnd 19 = .ok (.iconst 0, 1) := by decide +kernel
theorem dX1_isAtEnd_20 : decode cX1_isAtEnd 20 = .ok (.ireturn, 1) := by decide +kernel
theorem dX1_skipSpaces_0 : decode cX1_skipSpaces 0 = .ok (.iconst 0, 1) := by decide +kernel
theorem dX1_skipSpaces_1 : decode cX1_skipSpaces 1 = .ok (.istore_n 1, 1) := by decide +kernel
theorem dX1_skipSpaces_2 : decode cX1_skipSpaces 2 = .ok (.iload_n 1, 1) := by decide +kernel
theorem dX1_skipSpaces_3 : decode cX1_skipSpaces 3 = .ok (.sipush 700, 3) := by decide +kernel
theorem dX1_skipSpaces_6 : decode cX1_skipSpaces 6 = .ok (.if_icmp .ge 44, 3) := by decide +kernel
theorem dX1_skipSpaces_9 : decode cX1_skipSpaces 9 = .ok (.aload_n 0, 1) := by decide +kernel
theorem dX1_skipSpaces_10 : decode cX1_skipSpaces 10 = .ok (.getfield 25, 3) := by decide +kernel
theorem dX1_skipSpaces_13 : decode cX1_skipSpaces 13 = .ok (.aload_n 0, 1) := by decide +kernel
theorem dX1_skipSpaces_14 : decode cX1_skipSpaces 14 = .ok (.getfield 22, 3) := by decide +kernel
theorem dX1_skipSpaces_17 : decode cX1_skipSpaces 17 = .ok (.if_icmp .ge 33, 3) := by decide +kernel
theorem dX1_skipSpaces_20 : decode cX1_skipSpaces 20 = .ok (.aload_n 0, 1) := by decide +kernel
theorem dX1_skipSpaces_21 : decode cX1_skipSpaces 21 = .ok (.getfield 18, 3) := by decide +kernel
theorem dX1_skipSpaces_24 : decode cX1_skipSpaces 24 = .ok (.aload_n 0, 1) := by decide +kernel
theorem dX1_skipSpaces_25 : decode cX1_skipSpaces 25 = .ok (.getfield 25, 3) := by decide +kernel
theorem dX1_skipSpaces_28 : decode cX1_skipSpaces 28 = .ok (.baload, 1) := by decide +kernel
theorem dX1_skipSpaces_29 : decode cX1_skipSpaces 29 = .ok (.bipush 32, 2) := by decide +kernel
theorem dX1_skipSpaces_31 : decode cX1_skipSpaces 31 = .ok (.if_icmp .ne 19, 3) := by decide +kernel
theorem dX1_skipSpaces_34 : decode cX1_skipSpaces 34 = .ok (.aload_n 0, 1) := by decide +kernel
theorem dX1_skipSpaces_35 : decode cX1_skipSpaces 35 = .ok (.dup, 1) := by decide +kernel
theorem dX1_skipSpaces_36 : decode cX1_skipSpaces 36 = .ok (.getfield 25, 3) := by decide +kernel
theorem dX1_skipSpaces_39 : decode cX1_skipSpaces 39 = .ok (.iconst 1, 1) := by decide +kernel
theorem dX1_skipSpaces_40 : decode cX1_skipSpaces 40 = .ok (.iadd, 1) := by decide +kernel
theorem dX1_skipSpaces_41 : decode cX1_skipSpaces 41 = .ok (.putfield 25, 3) := by decide +kernel
theorem dX1_skipSpaces_44 : decode cX1_skipSpaces 44 = .ok (.iinc 1 1, 3) := by decide +kernel
theorem dX1_skipSpaces_47 : decode cX1_skipSpaces 47 = .ok (.goto (-45), 3) := by decide +kernel
theorem dX1_skipSpaces_50 : decode cX1_skipSpaces 50 = .ok (.return_, 1) := by decide +kernel
theorem dX1_isNextBetween_0 : decode cX1_isNextBetween 0 = .ok (.aload_n 0, 1) := by decide +kernel
theorem dX1_isNextBetween_1 : decode cX1_isNextBetween 1 = .ok (.getfield 25, 3) := by decide +kernel
theorem dX1_isNextBetween_4 : decode cX1_isNextBetween 4 = .ok (.aload_n 0, 1) := by decide +kernel
theorem dX1_isNextBetween_5 : decode cX1_isNextBetween 5 = .ok (.getfield 22, 3) := by decide +kernel
theorem dX1_isNextBetween_8 : decode cX1_isNextBetween 8 = .ok (.if_icmp .ge 33, 3) := by decide +kernel
theorem dX1_isNextBetween_11 : decode cX1_isNextBetween 11 = .ok (.aload_n 0, 1) := by decide +kernel
theorem dX1_isNextBetween_12 : decode cX1_isNextBetween 12 = .ok (.getfield 18, 3) := by decide +kernel
theorem dX1_isNextBetween_15 : decode cX1_isNextBetween 15 = .ok (.aload_n 0, 1) := by decide +kernel
theorem dX1_isNextBetween_16 : decode cX1_isNextBetween 16 = .ok (.getfield 25, 3) := by decide +kernel
theorem dX1_isNextBetween_19 : decode cX1_isNextBetween 19 = .ok (.baload, 1) := by decide +kernel
theorem dX1_isNextBetween_20 : decode cX1_isNextBetween 20 = .ok (.iload_n 1, 1) := by decide +kernel
theorem dX1_isNextBetween_21 : decode cX1_isNextBetween 21 = .ok (.if_icmp .lt 20, 3) := by decide +kernel
theorem dX1_isNextBetween_24 : decode cX1_isNextBetween 24 = .ok (.aload_n 0, 1) := by decide +kernel
theorem dX1_isNextBetween_25 : decode cX1_isNextBetween 25 = .ok (.getfield 18, 3) := by decide +kernel
theorem dX1_isNextBetween_28 : decode cX1_isNextBetween 28 = .ok (.aload_n 0, 1) := by decide +kernel
theorem dX1_isNextBetween_29 : decode cX1_isNextBetween 29 = .ok (.getfield 25, 3) := by decide +kernel
theorem dX1_isNextBetween_32 : decode cX1_isNextBetween 32 = .ok (.baload, 1) := by decide +kernel
theorem dX1_isNextBetween_33 : decode cX1_isNextBetween 33 = .ok (.iload_n 2, 1) := by decide +kernel
theorem dX1_isNextBetween_34 : decode cX1_isNextBetween 34 = .ok (.if_icmp .gt 7, 3) := by decide +kernel
theorem dX1_isNextBetween_37 : decode cX1_isNextBetween 37 = .ok (.iconst 1, 1) := by decide +kernel
theorem dX1_isNextBetween_38 : decode cX1_isNextBetween 38 = .ok (.goto 4, 3) := by decide +kernel
theorem dX1_isNextBetween_41 : decode cX1_isNextBetween 41 = .ok (.iconst 0, 1) := by decide +kernel
theorem dX1_isNextBetween_42 : decode cX1_isNextBetween 42 = .ok (.ireturn, 1) := by decide +kernel
theorem dX1_fail_0 : decode cX1_fail 0 = .ok (.aload_n 0, 1) := by decide +kernel
theorem dX1_fail_1 : decode cX1_fail 1 = .ok (.getfield 9, 3) := by decide +kernel
theorem dX1_fail_4 : decode cX1_fail 4 = .ok (.ifCond .ne 13, 3) := by decide +kernel
theorem dX1_fail_7 : decode cX1_fail 7 = .ok (.aload_n 0, 1) := by decide +kernel
theorem dX1_fail_8 : decode cX1_fail 8 = .ok (.iload_n 1, 1) := by decide +kernel
theorem dX1_fail_9 : decode cX1_fail 9 = .ok (.putfield 9, 3) := by decide +kernel
theorem dX1_fail_12 : decode cX1_fail 12 = .ok (.aload_n 0, 1) := by decide +kernel
theorem dX1_fail_13 : decode cX1_fail 13 = .ok (.iload_n 2, 1) := by decide +kernel
theorem dX1_fail_14 : decode cX1_fail 14 = .ok (.putfield 15, 3) := by decide +kernel
theorem dX1_fail_17 : decode cX1_fail 17 = .ok (.return_, 1) := by decide +kernel
theorem dX1_packed_0 : decode cX1_packed 0 = .ok (.lconst 0, 1) := by decide +kernel
theorem dX1_packed_1 : decode cX1_packed 1 = .ok (.lstore_n 1, 1) := by decide +kernel
theorem dX1_packed_2 : decode cX1_packed 2 = .ok (.iconst 0, 1) := by decide +kernel
theorem dX1_packed_3 : decode cX1_packed 3 = .ok (.istore_n 3, 1) := by decide +kernel
theorem dX1_packed_4 : decode cX1_packed 4 = .ok (.iload_n 3, 1) := by decide +kernel
theorem dX1_packed_5 : decode cX1_packed 5 = .ok (.aload_n 0, 1) := by decide +kernel
theorem dX1_packed_6 : decode cX1_packed 6 = .ok (.invokevirtual 140, 3) := by decide +kernel
theorem dX1_packed_9 : decode cX1_packed 9 = .ok (.if_icmp .ge 21, 3) := by decide +kernel
theorem dX1_packed_12 : decode cX1_packed 12 = .ok (.lload_n 1, 1) := by decide +kernel
theorem dX1_packed_13 : decode cX1_packed 13 = .ok (.bipush 8, 2) := by decide +kernel
theorem dX1_packed_15 : decode cX1_packed 15 = .ok (.lshl, 1) := by decide +kernel
theorem dX1_packed_16 : decode cX1_packed 16 = .ok (.aload_n 0, 1) := by decide +kernel
theorem dX1_packed_17 : decode cX1_packed 17 = .ok (.iload_n 3, 1) := by decide +kernel
theorem dX1_packed_18 : decode cX1_packed 18 = .ok (.invokevirtual 145, 3) := by decide +kernel
theorem dX1_packed_21 : decode cX1_packed 21 = .ok (.i2l, 1) := by decide +kernel
theorem dX1_packed_22 : decode cX1_packed 22 = .ok (.lor, 1) := by decide +kernel
theorem dX1_packed_23 : decode cX1_packed 23 = .ok (.lstore_n 1, 1) := by decide +kernel
theorem dX1_packed_24 : decode cX1_packed 24 = .ok (.iinc 3 1, 3) := by decide +kernel
theorem dX1_packed_27 : decode cX1_packed 27 = .ok (.goto (-23), 3) := by decide +kernel
theorem dX1_packed_30 : decode cX1_packed 30 = .ok (.lload_n 1, 1) := by decide +kernel
theorem dX1_packed_31 : decode cX1_packed 31 = .ok (.lreturn, 1) := by decide +kernel
theorem dX2_init_0 : decode cX2_init 0 = .ok (.aload_n 0, 1) := by decide +kernel
theorem dX2_init_1 : decode cX2_init 1 = .ok (.invokespecial 3, 3) := by decide +kernel
theorem dX2_init_4 : decode cX2_init 4 = .ok (.aload_n 0, 1) := by decide +kernel
theorem dX2_init_5 : decode cX2_init 5 = .ok (.bipush 24, 2) := by decide +kernel
theorem dX2_init_7 : decode cX2_init 7 = .ok (.newarray .int, 2) := by decide +kernel
theorem dX2_init_9 : decode cX2_init 9 = .ok (.putfield 9, 3) := by decide +kernel
theorem dX2_init_12 : decode cX2_init 12 = .ok (.aload_n 0, 1) := by decide +kernel
theorem dX2_init_13 : decode cX2_init 13 = .ok (.bipush 24, 2) := by decide +kernel
theorem dX2_init_15 : decode cX2_init 15 = .ok (.newarray .int, 2) := by decide +kernel
theorem dX2_init_17 : decode cX2_init 17 = .ok (.putfield 15, 3) := by decide +kernel
theorem dX2_init_20 : decode cX2_init 20 = .ok (.aload_n 0, 1) := by decide +kernel
theorem dX2_init_21 : decode cX2_init 21 = .ok (.bipush 24, 2) := by decide +kernel
theorem dX2_init_23 : decode cX2_init 23 = .ok (.newarray .int, 2) := by decide +kernel
theorem dX2_init_25 : decode cX2_init 25 = .ok (.putfield 18, 3) := by decide +kernel
theorem dX2_init_28 : decode cX2_init 28 = .ok (.aload_n 0, 1) := by decide +kernel
theorem dX2_init_29 : decode cX2_init 29 = .ok (.bipush 24, 2) := by decide +kernel
theorem dX2_init_31 : decode cX2_init 31 = .ok (.newarray .int, 2) := by decide +kernel
theorem dX2_init_33 : decode cX2_init 33 = .ok (.putfield 21, 3) := by decide +kernel
theorem dX2_init_36 : decode cX2_init 36 = .ok (.aload_n 0, 1) := by decide +kernel
theorem dX2_init_37 : decode cX2_init 37 = .ok (.bipush 24, 2) := by decide +kernel
theorem dX2_init_39 : decode cX2_init 39 = .ok (.newarray .int, 2) := by decide +kernel
theorem dX2_init_41 : decode cX2_init 41 = .ok (.putfield 24, 3) := by decide +kernel
theorem dX2_init_44 : decode cX2_init 44 = .ok (.aload_n 0, 1) := by decide +kernel
theorem dX2_init_45 : decode cX2_init 45 = .ok (.bipush 24, 2) := by decide +kernel
theorem dX2_init_47 : decode cX2_init 47 = .ok (.newarray .int, 2) := by decide +kernel
theorem dX2_init_49 : decode cX2_init 49 = .ok (.putfield 27, 3) := by decide +kernel
theorem dX2_init_52 : decode cX2_init 52 = .ok (.aload_n 0, 1) := by decide +kernel
theorem dX2_init_53 : decode cX2_init 53 = .ok (.bipush 24, 2) := by decide +kernel
theorem dX2_init_55 : decode cX2_init 55 = .ok (.newarray .int, 2) := by decide +kernel
theorem dX2_init_57 : decode cX2_init 57 = .ok (.putfield 30, 3) := by decide +kernel
theorem dX2_init_60 : decode cX2_init 60 = .ok (.aload_n 0, 1) := by decide +kernel
theorem dX2_init_61 : decode cX2_init 61 = .ok (.iconst 0, 1) := by decide +kernel
theorem dX2_init_62 : decode cX2_init 62 = .ok (.putfield 33, 3) := by decide +kernel
theorem dX2_init_65 : decode cX2_init 65 = .ok (.aload_n 0, 1) := by decide +kernel
theorem dX2_init_66 : decode cX2_init 66 = .ok (.iconst 0, 1) := by decide +kernel
theorem dX2_init_67 : decode cX2_init 67 = .ok (.putfield 37, 3) := by decide +kernel
theorem dX2_init_70 : decode cX2_init 70 = .ok (.return_, 1) := by decide +kernel
theorem dX2_add_0 : decode cX2_add 0 = .ok (.aload_n 0, 1) := by decide +kernel
theorem dX2_add_1 : decode cX2_add 1 = .ok (.getfield 37, 3) := by decide +kernel
theorem dX2_add_4 : decode cX2_add 4 = .ok (.bipush 24, 2) := by decide +kernel
theorem dX2_add_6 : decode cX2_add 6 = .ok (.if_icmp .lt 4, 3) := by decide +kernel
theorem dX2_add_9 : decode cX2_add 9 = .ok (.return_, 1) := by decide +kernel
theorem dX2_add_10 : decode cX2_add 10 = .ok (.aload_n 0, 1) := by decide +kernel
theorem dX2_add_11 : decode cX2_add 11 = .ok (.getfield 9, 3) := by decide +kernel
theorem dX2_add_14 : decode cX2_add 14 = .ok (.aload_n 0, 1) := by decide +kernel
theorem dX2_add_15 : decode cX2_add 15 = .ok (.getfield 37, 3) := by decide +kernel
theorem dX2_add_18 : decode cX2_add 18 = .ok (.iload_n 1, 1) := by decide +kernel
theorem dX2_add_19 : decode cX2_add 19 = .ok (.iastore, 1) := by decide +kernel
theorem dX2_add_20 : decode cX2_add 20 = .ok (.aload_n 0, 1) := by decide +kernel
theorem dX2_add_21 : decode cX2_add 21 = .ok (.getfield 15, 3) := by decide +kernel
theorem dX2_add_24 : decode cX2_add 24 = .ok (.aload_n 0, 1) := by decide +kernel
theorem dX2_add_25 : decode cX2_add 25 = .ok (.getfield 37, 3) := by decide +kernel
theorem dX2_add_28 : decode cX2_add 28 = .ok (.iload_n 2, 1) := by decide +kernel
theorem dX2_add_29 : decode cX2_add 29 = .ok (.iastore, 1) := by decide +kernel
theorem dX2_add_30 : decode cX2_add 30 = .ok (.aload_n 0, 1) := by decide +kernel
theorem dX2_add_31 : decode cX2_add 31 = .ok (.getfield 18, 3) := by decide +kernel
theorem dX2_add_34 : decode cX2_add 34 = .ok (.aload_n 0, 1) := by decide +kernel
theorem dX2_add_35 : decode cX2_add 35 = .ok (.getfield 37, 3) := by decide +kernel
theorem dX2_add_38 : decode cX2_add 38 = .ok (.iload_n 3, 1) := by decide +kernel
theorem dX2_add_39 : decode cX2_add 39 = .ok (.iastore, 1) := by decide +kernel
theorem dX2_add_40 : decode cX2_add 40 = .ok (.aload_n 0, 1) := by decide +kernel
theorem dX2_add_41 : decode cX2_add 41 = .ok (.getfield 21, 3) := by decide +kernel
theorem dX2_add_44 : decode cX2_add 44 = .ok (.aload_n 0, 1) := by decide +kernel
theorem dX2_add_45 : decode cX2_add 45 = .ok (.getfield 37, 3) := by decide +kernel
theorem dX2_add_48 : decode cX2_add 48 = .ok (.iload 4, 2) := by decide +kernel
theorem dX2_add_50 : decode cX2_add 50 = .ok (.iastore, 1) := by decide +kernel
theorem dX2_add_51 : decode cX2_add 51 = .ok (.aload_n 0, 1) := by decide +kernel
theorem dX2_add_52 : decode cX2_add 52 = .ok (.getfield 24, 3) := by decide +kernel
theorem dX2_add_55 : decode cX2_add 55 = .ok (.aload_n 0, 1) := by decide +kernel
theorem dX2_add_56 : decode cX2_add 56 = .ok (.getfield 37, 3) := by decide +kernel
theorem dX2_add_59 : decode cX2_add 59 = .ok (.iload 5, 2) := by decide +kernel
theorem dX2_add_61 : decode cX2_add 61 = .ok (.iastore, 1) := by decide +kernel
theorem dX2_add_62 : decode cX2_add 62 = .ok (.aload_n 0, 1) := by decide +kernel
theorem dX2_add_63 : decode cX2_add 63 = .ok (.getfield 27, 3) := by decide +kernel
theorem dX2_add_66 : decode cX2_add 66 = .ok (.aload_n 0, 1) := by decide +kernel
theorem dX2_add_67 : decode cX2_add 67 = .ok (.getfield 37, 3) := by decide +kernel
theorem dX2_add_70 : decode cX2_add 70 = .ok (.iconst 0, 1) := by decide +kernel
theorem dX2_add_71 : decode cX2_add 71 = .ok (.iastore, 1) := by decide +kernel
theorem dX2_add_72 : decode cX2_add 72 = .ok (.aload_n 0, 1) := by decide +kernel
theorem dX2_add_73 : decode cX2_add 73 = .ok (.getfield 30, 3) := by decide +kernel
theorem dX2_add_76 : decode cX2_add 76 = .ok (.aload_n 0, 1) := by decide +kernel
theorem dX2_add_77 : decode cX2_add 77 = .ok (.getfield 37, 3) := by decide +kernel
theorem dX2_add_80 : decode cX2_add 80 = .ok (.iconst 0, 1) := by decide +kernel
theorem dX2_add_81 : decode cX2_add 81 = .ok (.iastore, 1) := by decide +kernel
theorem dX2_add_82 : decode cX2_add 82 = .ok (.aload_n 0, 1) := by decide +kernel
theorem dX2_add_83 : decode cX2_add 83 = .ok (.dup, 1) := by decide +kernel
theorem dX2_add_84 : decode cX2_add 84 = .ok (.getfield 33, 3) := by decide +kernel
theorem dX2_add_87 : decode cX2_add 87 = .ok (.iconst 1, 1) := by decide +kernel
theorem dX2_add_88 : decode cX2_add 88 = .ok (.aload_n 0, 1) := by decide +kernel
theorem dX2_add_89 : decode cX2_add 89 = .ok (.getfield 37, 3) := by decide +kernel
theorem dX2_add_92 : decode cX2_add 92 = .ok (.ishl, 1) := by decide +kernel
theorem dX2_add_93 : decode cX2_add 93 = .ok (.ior, 1) := by decide +kernel
theorem dX2_add_94 : decode cX2_add 94 = .ok (.putfield 33, 3) := by decide +kernel
theorem dX2_add_97 : decode cX2_add 97 = .ok (.aload_n 0, 1) := by decide +kernel
theorem dX2_add_98 : decode cX2_add 98 = .ok (.dup, 1) := by decide +kernel
theorem dX2_add_99 : decode cX2_add 99 = .ok (.getfield 37, 3) := by decide +kernel
theorem dX2_add_102 : decode cX2_add 102 = .ok (.iconst 1, 1) := by decide +kernel
theorem dX2_add_103 : decode cX2_add 103 = .ok (.iadd, 1) := by decide +kernel
theorem dX2_add_104 : decode cX2_add 104 = .ok (.putfield 37, 3) := by decide +kernel
theorem dX2_add_107 : decode cX2_add 107 = .ok (.return_, 1) := by decide +kernel
theorem dX2_isUp_0 : decode cX2_isUp 0 = .ok (.aload_n 0, 1) := by decide +kernel
theorem dX2_isUp_1 : decode cX2_isUp 1 = .ok (.getfield 33, 3) := by decide +kernel
theorem dX2_isUp_4 : decode cX2_isUp 4 = .ok (.iload_n 1, 1) := by decide +kernel
theorem dX2_isUp_5 : decode cX2_isUp 5 = .ok (.ishr, 1) := by decide +kernel
theorem dX2_isUp_6 : decode cX2_isUp 6 = .ok (.iconst 1, 1) := by decide +kernel
theorem dX2_isUp_7 : decode cX2_isUp 7 = .ok (.iand, 1) := by decide +kernel
theorem dX2_isUp_8 : decode cX2_isUp 8 = .ok (.ifCond .eq 7, 3) := by decide +kernel
theorem dX2_isUp_11 : decode cX2_isUp 11 = .ok (.iconst 1, 1) := by decide +kernel
theorem dX2_isUp_12 : decode cX2_isUp 12 = .ok (.goto 4, 3) := by decide +kernel
theorem dX2_isUp_15 : decode cX2_isUp 15 = .ok (.iconst 0, 1) := by decide +kernel
theorem dX2_isUp_16 : decode cX2_isUp 16 = .ok (.ireturn, 1) := by decide +kernel
theorem dX2_available_0 : decode cX2_available 0 = .ok (.aload_n 0, 1) := by decide +kernel
theorem dX2_available_1 : decode cX2_available 1 = .ok (.getfield 18, 3) := by decide +kernel
theorem dX2_available_4 : decode cX2_available 4 = .ok (.iload_n 1, 1) := by decide +kernel
theorem dX2_available_5 : decode cX2_available 5 = .ok (.iaload, 1) := by decide +kernel
theorem dX2_available_6 : decode cX2_available 6 = .ok (.aload_n 0, 1) := by decide +kernel
theorem dX2_available_7 : decode cX2_available 7 = .ok (.getfield 27, 3) := by decide +kernel
theorem dX2_available_10 : decode cX2_available 10 = .ok (.iload_n 1, 1) := by decide +kernel
theorem dX2_available_11 : decode cX2_available 11 = .ok (.iaload, 1) := by decide +kernel
theorem dX2_available_12 : decode cX2_available 12 = .ok (.isub, 1) := by decide +kernel
theorem dX2_available_13 : decode cX2_available 13 = .ok (.ireturn, 1) := by decide +kernel
theorem dX2_withUnits_0 : decode cX2_withUnits 0 = .ok (.iconst 0, 1) := by decide +kernel
theorem dX2_withUnits_1 : decode cX2_withUnits 1 = .ok (.istore_n 2, 1) := by decide +kernel
theorem dX2_withUnits_2 : decode cX2_withUnits 2 = .ok (.iconst 0, 1) := by decide +kernel
theorem dX2_withUnits_3 : decode cX2_withUnits 3 = .ok (.istore_n 3, 1) := by decide +kernel
theorem dX2_withUnits_4 : decode cX2_withUnits 4 = .ok (.iload_n 3, 1) := by decide +kernel
theorem dX2_withUnits_5 : decode cX2_withUnits 5 = .ok (.aload_n 0, 1) := by decide +kernel
theorem dX2_withUnits_6 : decode cX2_withUnits 6 = .ok (.getfield 37, 3) := by decide +kernel
theorem dX2_withUnits_9 : decode cX2_withUnits 9 = .ok (.if_icmp .ge 28, 3) := by decide +kernel
theorem dX2_withUnits_12 : decode cX2_withUnits 12 = .ok (.iload_n 2, 1) := by decide +kernel
theorem dX2_withUnits_13 : decode cX2_withUnits 13 = .ok (.aload_n 0, 1) := by decide +kernel
theorem dX2_withUnits_14 : decode cX2_withUnits 14 = .ok (.iload_n 3, 1) := by decide +kernel
theorem dX2_withUnits_15 : decode cX2_withUnits 15 = .ok (.invokevirtual 40, 3) := by decide +kernel
theorem dX2_withUnits_18 : decode cX2_withUnits 18 = .ok (.iload_n 1, 1) := by decide +kernel
theorem dX2_withUnits_19 : decode cX2_withUnits 19 = .ok (.if_icmp .lt 9, 3) := by decide +kernel
theorem dX2_withUnits_22 : decode cX2_withUnits 22 = .ok (.iconst 1, 1) := by decide +kernel
theorem dX2_withUnits_23 : decode cX2_withUnits 23 = .ok (.iload_n 3, 1) := by decide +kernel
theorem dX2_withUnits_24 : decode cX2_withUnits 24 = .ok (.ishl, 1) := by decide +kernel
theorem dX2_withUnits_25 : decode cX2_withUnits 25 = .ok (.goto 4, 3) := by decide +kernel
theorem dX2_withUnits_28 : decode cX2_withUnits 28 = .ok (.iconst 0, 1) := by decide +kernel
theorem dX2_withUnits_29 : decode cX2_withUnits 29 = .ok (.ior, 1) := by decide +kernel
theorem dX2_withUnits_30 : decode cX2_withUnits 30 = .ok (.istore_n 2, 1) := by decide +kernel
theorem dX2_withUnits_31 : decode cX2_withUnits 31 = .ok (.iinc 3 1, 3) := by decide +kernel
theorem dX2_withUnits_34 : decode cX2_withUnits 34 = .ok (.goto (-30), 3) := by decide +kernel
theorem dX2_withUnits_37 : decode cX2_withUnits 37 = .ok (.iload_n 2, 1) := by decide +kernel
theorem dX2_withUnits_38 : decode cX2_withUnits 38 = .ok (.aload_n 0, 1) := by decide +kernel
theorem dX2_withUnits_39 : decode cX2_withUnits 39 = .ok (.getfield 33, 3) := by decide +kernel
theorem dX2_withUnits_42 : decode cX2_withUnits 42 = .ok (.iand, 1) := by decide +kernel
theorem dX2_withUnits_43 : decode cX2_withUnits 43 = .ok (.ireturn, 1) := by decide +kernel
theorem dX2_value_0 : decode cX2_value 0 = .ok (.iload_n 2, 1) := by decide +kernel
theorem dX2_value_1 : decode cX2_value 1 = .ok (.tableswitch 102 0 7 #[47, 54, 61, 68, 75, 82, 89, 95], 47) := by decide +kernel
theorem dX2_value_48 : decode cX2_value 48 = .ok (.aload_n 0, 1) := by decide +kernel
theorem dX2_value_49 : decode cX2_value 49 = .ok (.getfield 9, 3) := by decide +kernel
theorem dX2_value_52 : decode cX2_value 52 = .ok (.iload_n 1, 1) := by decide +kernel
theorem dX2_value_53 : decode cX2_value 53 = .ok (.iaload, 1) := by decide +kernel
theorem dX2_value_54 : decode cX2_value 54 = .ok (.ireturn, 1) := by decide +kernel
theorem dX2_value_55 : decode cX2_value 55 = .ok (.aload_n 0, 1) := by decide +kernel
theorem dX2_value_56 : decode cX2_value 56 = .ok (.getfield 15, 3) := by decide +kernel
theorem dX2_value_59 : decode cX2_value 59 = .ok (.iload_n 1, 1) := by decide +kernel
theorem dX2_value_60 : decode cX2_value 60 = .ok (.iaload, 1) := by decide +kernel
theorem dX2_value_61 : decode cX2_value 61 = .ok (.ireturn, 1) := by decide +kernel
theorem dX2_value_62 : decode cX2_value 62 = .ok (.aload_n 0, 1) := by decide +kernel
theorem dX2_value_63 : decode cX2_value 63 = .ok (.getfield 18, 3) := by decide +kernel
theorem dX2_value_66 : decode cX2_value 66 = .ok (.iload_n 1, 1) := by decide +kernel
theorem dX2_value_67 : decode cX2_value 67 = .ok (.iaload, 1) := by decide +kernel
theorem dX2_value_68 : decode cX2_value 68 = .ok (.ireturn, 1) := by decide +kernel
theorem dX2_value_69 : decode cX2_value 69 = .ok (.aload_n 0, 1) := by decide +kernel
theorem dX2_value_70 : decode cX2_value 70 = .ok (.getfield 21, 3) := by decide +kernel
theorem dX2_value_73 : decode cX2_value 73 = .ok (.iload_n 1, 1) := by decide +kernel
theorem dX2_value_74 : decode cX2_value 74 = .ok (.iaload, 1) := by decide +kernel
theorem dX2_value_75 : decode cX2_value 75 = .ok (.ireturn, 1) := by decide +kernel
theorem dX2_value_76 : decode cX2_value 76 = .ok (.aload_n 0, 1) := by decide +kernel
theorem dX2_value_77 : decode cX2_value 77 = .ok (.getfield 24, 3) := by decide +kernel
theorem dX2_value_80 : decode cX2_value 80 = .ok (.iload_n 1, 1) := by decide +kernel
theorem dX2_value_81 : decode cX2_value 81 = .ok (.iaload, 1) := by decide +kernel
theorem dX2_value_82 : decode cX2_value 82 = .ok (.ireturn, 1) := by decide +kernel
theorem dX2_value_83 : decode cX2_value 83 = .ok (.aload_n 0, 1) := by decide +kernel
theorem dX2_value_84 : decode cX2_value 84 = .ok (.getfield 27, 3) := by decide +kernel
theorem dX2_value_87 : decode cX2_value 87 = .ok (.iload_n 1, 1) := by decide +kernel
theorem dX2_value_88 : decode cX2_value 88 = .ok (.iaload, 1) := by decide +kernel
theorem dX2_value_89 : decode cX2_value 89 = .ok (.ireturn, 1) := by decide +kernel
theorem dX2_value_90 : decode cX2_value 90 = .ok (.aload_n 0, 1) := by decide +kernel
theorem dX2_value_91 : decode cX2_value 91 = .ok (.iload_n 1, 1) := by decide +kernel
theorem dX2_value_92 : decode cX2_value 92 = .ok (.invokevirtual 40, 3) := by decide +kernel
theorem dX2_value_95 : decode cX2_value 95 = .ok (.ireturn, 1) := by decide +kernel
theorem dX2_value_96 : decode cX2_value 96 = .ok (.aload_n 0, 1) := by decide +kernel
theorem dX2_value_97 : decode cX2_value 97 = .ok (.getfield 30, 3) := by decide +kernel
theorem dX2_value_100 : decode cX2_value 100 = .ok (.iload_n 1, 1) := by decide +kernel
theorem dX2_value_101 : decode cX2_value 101 = .ok (.iaload, 1) := by decide +kernel
theorem dX2_value_102 : decode cX2_value 102 = .ok (.ireturn, 1) := by decide +kernel
theorem dX2_value_103 : decode cX2_value 103 = .ok (.aload_n 0, 1) := by decide +kernel
theorem dX2_value_104 : decode cX2_value 104 = .ok (.iload_n 1, 1) := by decide +kernel
theorem dX2_value_105 : decode cX2_value 105 = .ok (.invokevirtual 44, 3) := by decide +kernel
theorem dX2_value_108 : decode cX2_value 108 = .ok (.ifCond .eq 7, 3) := by decide +kernel
theorem dX2_value_111 : decode cX2_value 111 = .ok (.iconst 1, 1) := by decide +kernel
theorem dX2_value_112 : decode cX2_value 112 = .ok (.goto 4, 3) := by decide +kernel
theorem dX2_value_115 : decode cX2_value 115 = .ok (.iconst 0, 1) := by decide +kernel
theorem dX2_value_116 : decode cX2_value 116 = .ok (.ireturn, 1) := by decide +kernel
theorem dX2_copyFrom_0 : decode cX2_copyFrom 0 = .ok (.aload_n 0, 1) := by decide +kernel
theorem dX2_copyFrom_1 : decode cX2_copyFrom 1 = .ok (.aload_n 1, 1) := by decide +kernel
theorem dX2_copyFrom_2 : decode cX2_copyFrom 2 = .ok (.getfield 37, 3) := by decide +kernel
theorem dX2_copyFrom_5 : decode cX2_copyFrom 5 = .ok (.putfield 37, 3) := by decide +kernel
theorem dX2_copyFrom_8 : decode cX2_copyFrom 8 = .ok (.aload_n 0, 1) := by decide +kernel
theorem dX2_copyFrom_9 : decode cX2_copyFrom 9 = .ok (.aload_n 1, 1) := by decide +kernel
theorem dX2_copyFrom_10 : decode cX2_copyFrom 10 = .ok (.getfield 33, 3) := by decide +kernel
theorem dX2_copyFrom_13 : decode cX2_copyFrom 13 = .ok (.putfield 33, 3) := by decide +kernel
theorem dX2_copyFrom_16 : decode cX2_copyFrom 16 = .ok (.aload_n 1, 1) := by decide +kernel
theorem dX2_copyFrom_17 : decode cX2_copyFrom 17 = .ok (.getfield 9, 3) := by decide +kernel
theorem dX2_copyFrom_20 : decode cX2_copyFrom 20 = .ok (.iconst 0, 1) := by decide +kernel
theorem dX2_copyFrom_21 : decode cX2_copyFrom 21 = .ok (.aload_n 0, 1) := by decide +kernel
theorem dX2_copyFrom_22 : decode cX2_copyFrom 22 = .ok (.getfield 9, 3) := by decide +kernel
theorem dX2_copyFrom_25 : decode cX2_copyFrom 25 = .ok (.iconst 0, 1) := by decide +kernel
theorem dX2_copyFrom_26 : decode cX2_copyFrom 26 = .ok (.aload_n 0, 1) := by decide +kernel
theorem dX2_copyFrom_27 : decode cX2_copyFrom 27 = .ok (.getfield 37, 3) := by decide +kernel
theorem dX2_copyFrom_30 : decode cX2_copyFrom 30 = .ok (.invokestatic 48, 3) := by decide +kernel
theorem dX2_copyFrom_33 : decode cX2_copyFrom 33 = .ok (.aload_n 1, 1) := by decide +kernel
theorem dX2_copyFrom_34 : decode cX2_copyFrom 34 = .ok (.getfield 15, 3) := by decide +kernel
theorem dX2_copyFrom_37 : decode cX2_copyFrom 37 = .ok (.iconst 0, 1) := by decide +kernel
theorem dX2_copyFrom_38 : decode cX2_copyFrom 38 = .ok (.aload_n 0, 1) := by decide +kernel
theorem dX2_copyFrom_39 : decode cX2_copyFrom 39 = .ok (.getfield 15, 3) := by decide +kernel
theorem dX2_copyFrom_42 : decode cX2_copyFrom 42 = .ok (.iconst 0, 1) := by decide +kernel
theorem dX2_copyFrom_43 : decode cX2_copyFrom 43 = .ok (.aload_n 0, 1) := by decide +kernel
theorem dX2_copyFrom_44 : decode cX2_copyFrom 44 = .ok (.getfield 37, 3) := by decide +kernel
theorem dX2_copyFrom_47 : decode cX2_copyFrom 47 = .ok (.invokestatic 48, 3) := by decide +kernel
theorem dX2_copyFrom_50 : decode cX2_copyFrom 50 = .ok (.aload_n 1, 1) := by decide +kernel
theorem dX2_copyFrom_51 : decode cX2_copyFrom 51 = .ok (.getfield 18, 3) := by decide +kernel
theorem dX2_copyFrom_54 : decode cX2_copyFrom 54 = .ok (.iconst 0, 1) := by decide +kernel
theorem dX2_copyFrom_55 : decode cX2_copyFrom 55 = .ok (.aload_n 0, 1) := by decide +kernel
theorem dX2_copyFrom_56 : decode cX2_copyFrom 56 = .ok (.getfield 18, 3) := by decide +kernel
theorem dX2_copyFrom_59 : decode cX2_copyFrom 59 = .ok (.iconst 0, 1) := by decide +kernel
theorem dX2_copyFrom_60 : decode cX2_copyFrom 60 = .ok (.aload_n 0, 1) := by decide +kernel
theorem dX2_copyFrom_61 : decode cX2_copyFrom 61 = .ok (.getfield 37, 3) := by decide +kernel
theorem dX2_copyFrom_64 : decode cX2_copyFrom 64 = .ok (.invokestatic 48, 3) := by decide +kernel
theorem dX2_copyFrom_67 : decode cX2_copyFrom 67 = .ok (.aload_n 1, 1) := by decide +kernel
theorem dX2_copyFrom_68 : decode cX2_copyFrom 68 = .ok (.getfield 21, 3) := by decide +kernel
theorem dX2_copyFrom_71 : decode cX2_copyFrom 71 = .ok (.iconst 0, 1) := by decide +kernel
theorem dX2_copyFrom_72 : decode cX2_copyFrom 72 = .ok (.aload_n 0, 1) := by decide +kernel
theorem dX2_copyFrom_73 : decode cX2_copyFrom 73 = .ok (.getfield 21, 3) := by decide +kernel
theorem dX2_copyFrom_76 : decode cX2_copyFrom 76 = .ok (.iconst 0, 1) := by decide +kernel
theorem dX2_copyFrom_77 : decode cX2_copyFrom 77 = .ok (.aload_n 0, 1) := by decide +kernel
theorem dX2_copyFrom_78 : decode cX2_copyFrom 78 = .ok (.getfield 37, 3) := by decide +kernel
theorem dX2_copyFrom_81 : decode cX2_copyFrom 81 = .ok (.invokestatic 48, 3) := by decide +kernel
theorem dX2_copyFrom_84 : decode cX2_copyFrom 84 = .ok (.aload_n 1, 1) := by decide +kernel
theorem dX2_copyFrom_85 : decode cX2_copyFrom 85 = .ok (.getfield 24, 3) := by decide +kernel
theorem dX2_copyFrom_88 : decode cX2_copyFrom 88 = .ok (.iconst 0, 1) := by decide +kernel
theorem dX2_copyFrom_89 : decode cX2_copyFrom 89 = .ok (.aload_n 0, 1) := by decide +kernel
theorem dX2_copyFrom_90 : decode cX2_copyFrom 90 = .ok (.getfield 24, 3) := by decide +kernel
theorem dX2_copyFrom_93 : decode cX2_copyFrom 93 = .ok (.iconst 0, 1) := by decide +kernel
theorem dX2_copyFrom_94 : decode cX2_copyFrom 94 = .ok (.aload_n 0, 1) := by decide +kernel
theorem dX2_copyFrom_95 : decode cX2_copyFrom 95 = .ok (.getfield 37, 3) := by decide +kernel
theorem dX2_copyFrom_98 : decode cX2_copyFrom 98 = .ok (.invokestatic 48, 3) := by decide +kernel
theorem dX2_copyFrom_101 : decode cX2_copyFrom 101 = .ok (.aload_n 1, 1) := by decide +kernel
theorem dX2_copyFrom_102 : decode cX2_copyFrom 102 = .ok (.getfield 27, 3) := by decide +kernel
theorem dX2_copyFrom_105 : decode cX2_copyFrom 105 = .ok (.iconst 0, 1) := by decide +kernel
theorem dX2_copyFrom_106 : decode cX2_copyFrom 106 = .ok (.aload_n 0, 1) := by decide +kernel
theorem dX2_copyFrom_107 : decode cX2_copyFrom 107 = .ok (.getfield 27, 3) := by decide +kernel
theorem dX2_copyFrom_110 : decode cX2_copyFrom 110 = .ok (.iconst 0, 1) := by decide +kernel
theorem dX2_copyFrom_111 : decode cX2_copyFrom 111 = .ok (.aload_n 0, 1) := by decide +kernel
theorem dX2_copyFrom_112 : decode cX2_copyFrom 112 = .ok (.getfield 37, 3) := by decide +kernel
theorem dX2_copyFrom_115 : decode cX2_copyFrom 115 = .ok (.invokestatic 48, 3) := by decide +kernel
theorem dX2_copyFrom_118 : decode cX2_copyFrom 118 = .ok (.aload_n 1, 1) := by decide +kernel
theorem dX2_copyFrom_119 : decode cX2_copyFrom 119 = .ok (.getfield 30, 3) := by decide +kernel
theorem dX2_copyFrom_122 : decode cX2_copyFrom 122 = .ok (.iconst 0, 1) := by decide +kernel
theorem dX2_copyFrom_123 : decode cX2_copyFrom 123 = .ok (.aload_n 0, 1) := by decide +kernel
theorem dX2_copyFrom_124 : decode cX2_copyFrom 124 = .ok (.getfield 30, 3) := by decide +kernel
theorem dX2_copyFrom_127 : decode cX2_copyFrom 127 = .ok (.iconst 0, 1) := by decide +kernel
theorem dX2_copyFrom_128 : decode cX2_copyFrom 128 = .ok (.aload_n 0, 1) := by decide +kernel
theorem dX2_copyFrom_129 : decode cX2_copyFrom 129 = .ok (.getfield 37, 3) := by decide +kernel
theorem dX2_copyFrom_132 : decode cX2_copyFrom 132 = .ok (.invokestatic 48, 3) := by decide +kernel
theorem dX2_copyFrom_135 : decode cX2_copyFrom 135 = .ok (.return_, 1) := by decide +kernel
theorem dX3_init_0 : decode cX3_init 0 = .ok (.aload_n 0, 1) := by decide +kernel
theorem dX3_init_1 : decode cX3_init 1 = .ok (.invokespecial 3, 3) := by decide +kernel
theorem dX3_init_4 : decode cX3_init 4 = .ok (.aload_n 0, 1) := by decide +kernel
theorem dX3_init_5 : decode cX3_init 5 = .ok (.bipush 11, 2) := by decide +kernel
theorem dX3_init_7 : decode cX3_init 7 = .ok (.newarray .int, 2) := by decide +kernel
theorem dX3_init_9 : decode cX3_init 9 = .ok (.putfield 9, 3) := by decide +kernel
theorem dX3_init_12 : decode cX3_init 12 = .ok (.aload_n 0, 1) := by decide +kernel
theorem dX3_init_13 : decode cX3_init 13 = .ok (.iconst 0, 1) := by decide +kernel
theorem dX3_init_14 : decode cX3_init 14 = .ok (.putfield 15, 3) := by decide +kernel
theorem dX3_init_17 : decode cX3_init 17 = .ok (.aload_n 0, 1) := by decide +kernel
theorem dX3_init_18 : decode cX3_init 18 = .ok (.bipush 12, 2) := by decide +kernel
theorem dX3_init_20 : decode cX3_init 20 = .ok (.newarray .int, 2) := by decide +kernel
theorem dX3_init_22 : decode cX3_init 22 = .ok (.putfield 19, 3) := by decide +kernel
theorem dX3_init_25 : decode cX3_init 25 = .ok (.return_, 1) := by decide +kernel
theorem dX3_find_0 : decode cX3_find 0 = .ok (.aload_n 0, 1) := by decide +kernel
theorem dX3_find_1 : decode cX3_find 1 = .ok (.iconst 0, 1) := by decide +kernel
theorem dX3_find_2 : decode cX3_find 2 = .ok (.putfield 15, 3) := by decide +kernel
theorem dX3_find_5 : decode cX3_find 5 = .ok (.aload_n 0, 1) := by decide +kernel
theorem dX3_find_6 : decode cX3_find 6 = .ok (.aload_n 1, 1) := by decide +kernel
theorem dX3_find_7 : decode cX3_find 7 = .ok (.iload_n 3, 1) := by decide +kernel
theorem dX3_find_8 : decode cX3_find 8 = .ok (.iload 4, 2) := by decide +kernel
theorem dX3_find_10 : decode cX3_find 10 = .ok (.invokevirtual 22, 3) := by decide +kernel
theorem dX3_find_13 : decode cX3_find 13 = .ok (.aload_n 0, 1) := by decide +kernel
theorem dX3_find_14 : decode cX3_find 14 = .ok (.getfield 19, 3) := by decide +kernel
theorem dX3_find_17 : decode cX3_find 17 = .ok (.iload_n 2, 1) := by decide +kernel
theorem dX3_find_18 : decode cX3_find 18 = .ok (.iaload, 1) := by decide +kernel
theorem dX3_find_19 : decode cX3_find 19 = .ok (.ldc 26, 2) := by decide +kernel
theorem dX3_find_21 : decode cX3_find 21 = .ok (.if_icmp .ne 5, 3) := by decide +kernel
theorem dX3_find_24 : decode cX3_find 24 = .ok (.iconst 0, 1) := by decide +kernel
theorem dX3_find_25 : decode cX3_find 25 = .ok (.ireturn, 1) := by decide +kernel
theorem dX3_find_26 : decode cX3_find 26 = .ok (.iload_n 2, 1) := by decide +kernel
theorem dX3_find_27 : decode cX3_find 27 = .ok (.istore 5, 2) := by decide +kernel
theorem dX3_find_29 : decode cX3_find 29 = .ok (.iconst 0, 1) := by decide +kernel
theorem dX3_find_30 : decode cX3_find 30 = .ok (.istore 6, 2) := by decide +kernel
theorem dX3_find_32 : decode cX3_find 32 = .ok (.iload 6, 2) := by decide +kernel
theorem dX3_find_34 : decode cX3_find 34 = .ok (.bipush 11, 2) := by decide +kernel
theorem dX3_find_36 : decode cX3_find 36 = .ok (.if_icmp .ge 60, 3) := by decide +kernel
theorem dX3_find_39 : decode cX3_find 39 = .ok (.iload 5, 2) := by decide +kernel
theorem dX3_find_41 : decode cX3_find 41 = .ok (.iload_n 3, 1) := by decide +kernel
theorem dX3_find_42 : decode cX3_find 42 = .ok (.if_icmp .eq 54, 3) := by decide +kernel
theorem dX3_find_45 : decode cX3_find 45 = .ok (.aload_n 0, 1) := by decide +kernel
theorem dX3_find_46 : decode cX3_find 46 = .ok (.aload_n 1, 1) := by decide +kernel
theorem dX3_find_47 : decode cX3_find 47 = .ok (.iload 5, 2) := by decide +kernel
theorem dX3_find_49 : decode cX3_find 49 = .ok (.iload 4, 2) := by decide +kernel
theorem dX3_find_51 : decode cX3_find 51 = .ok (.invokevirtual 27, 3) := by decide +kernel
theorem dX3_find_54 : decode cX3_find 54 = .ok (.istore 7, 2) := by decide +kernel
theorem dX3_find_56 : decode cX3_find 56 = .ok (.iload 7, 2) := by decide +kernel
theorem dX3_find_58 : decode cX3_find 58 = .ok (.iconst (-1), 1) := by decide +kernel
theorem dX3_find_59 : decode cX3_find 59 = .ok (.if_icmp .ne 5, 3) := by decide +kernel
theorem dX3_find_62 : decode cX3_find 62 = .ok (.iconst 0, 1) := by decide +kernel
theorem dX3_find_63 : decode cX3_find 63 = .ok (.ireturn, 1) := by decide +kernel
theorem dX3_find_64 : decode cX3_find 64 = .ok (.aload_n 0, 1) := by decide +kernel
theorem dX3_find_65 : decode cX3_find 65 = .ok (.getfield 9, 3) := by decide +kernel
theorem dX3_find_68 : decode cX3_find 68 = .ok (.iload 6, 2) := by decide +kernel
theorem dX3_find_70 : decode cX3_find 70 = .ok (.iload 7, 2) := by decide +kernel
theorem dX3_find_72 : decode cX3_find 72 = .ok (.iastore, 1) := by decide +kernel
theorem dX3_find_73 : decode cX3_find 73 = .ok (.aload_n 0, 1) := by decide +kernel
theorem dX3_find_74 : decode cX3_find 74 = .ok (.iload 6, 2) := by decide +kernel
theorem dX3_find_76 : decode cX3_find 76 = .ok (.iconst 1, 1) := by decide +kernel
theorem dX3_find_77 : decode cX3_find 77 = .ok (.iadd, 1) := by decide +kernel
theorem dX3_find_78 : decode cX3_find 78 = .ok (.putfield 15, 3) := by decide +kernel
theorem dX3_find_81 : decode cX3_find 81 = .ok (.aload_n 1, 1) := by decide +kernel
theorem dX3_find_82 : decode cX3_find 82 = .ok (.getfield 31, 3) := by decide +kernel
theorem dX3_find_85 : decode cX3_find 85 = .ok (.iload 7, 2) := by decide +kernel
theorem dX3_find_87 : decode cX3_find 87 = .ok (.iaload, 1) := by decide +kernel
theorem dX3_find_88 : decode cX3_find 88 = .ok (.istore 5, 2) := by decide +kernel
theorem dX3_find_90 : decode cX3_find 90 = .ok (.iinc 6 1, 3) := by decide +kernel
theorem dX3_find_93 : decode cX3_find 93 = .ok (.goto (-61), 3) := by decide +kernel
theorem dX3_find_96 : decode cX3_find 96 = .ok (.aload_n 0, 1) := by decide +kernel
theorem dX3_find_97 : decode cX3_find 97 = .ok (.getfield 15, 3) := by decide +kernel
theorem dX3_find_100 : decode cX3_find 100 = .ok (.ireturn, 1) := by decide +kernel
theorem dX3_measure_0 : decode cX3_measure 0 = .ok (.iconst 0, 1) := by decide +kernel
theorem dX3_measure_1 : decode cX3_measure 1 = .ok (.istore 4, 2) := by decide +kernel
theorem dX3_measure_3 : decode cX3_measure 3 = .ok (.iload 4, 2) := by decide +kernel
theorem dX3_measure_5 : decode cX3_measure 5 = .ok (.bipush 12, 2) := by decide +kernel
theorem dX3_measure_7 : decode cX3_measure 7 = .ok (.if_icmp .ge 28, 3) := by decide +kernel
theorem dX3_measure_10 : decode cX3_measure 10 = .ok (.aload_n 0, 1) := by decide +kernel
theorem dX3_measure_11 : decode cX3_measure 11 = .ok (.getfield 19, 3) := by decide +kernel
theorem dX3_measure_14 : decode cX3_measure 14 = .ok (.iload 4, 2) := by decide +kernel
theorem dX3_measure_16 : decode cX3_measure 16 = .ok (.iload 4, 2) := by decide +kernel
theorem dX3_measure_18 : decode cX3_measure 18 = .ok (.iload_n 2, 1) := by decide +kernel
theorem dX3_measure_19 : decode cX3_measure 19 = .ok (.if_icmp .ne 7, 3) := by decide +kernel
theorem dX3_measure_22 : decode cX3_measure 22 = .ok (.iconst 0, 1) := by decide +kernel
theorem dX3_measure_23 : decode cX3_measure 23 = .ok (.goto 5, 3) := by decide +kernel
theorem dX3_measure_26 : decode cX3_measure 26 = .ok (.ldc 26, 2) := by decide +kernel
theorem dX3_measure_28 : decode cX3_measure 28 = .ok (.iastore, 1) := by decide +kernel
theorem dX3_measure_29 : decode cX3_measure 29 = .ok (.iinc 4 1, 3) := by decide +kernel
theorem dX3_measure_32 : decode cX3_measure 32 = .ok (.goto (-29), 3) := by decide +kernel
theorem dX3_measure_35 : decode cX3_measure 35 = .ok (.iconst 1, 1) := by decide +kernel
theorem dX3_measure_36 : decode cX3_measure 36 = .ok (.istore 4, 2) := by decide +kernel
theorem dX3_measure_38 : decode cX3_measure 38 = .ok (.iconst 0, 1) := by decide +kernel
theorem dX3_measure_39 : decode cX3_measure 39 = .ok (.istore 5, 2) := by decide +kernel
theorem dX3_measure_41 : decode cX3_measure 41 = .ok (.iload 5, 2) := by decide +kernel
theorem dX3_measure_43 : decode cX3_measure 43 = .ok (.bipush 12, 2) := by decide +kernel
theorem dX3_measure_45 : decode cX3_measure 45 = .ok (.if_icmp .ge 105, 3) := by decide +kernel
theorem dX3_measure_48 : decode cX3_measure 48 = .ok (.iload 4, 2) := by decide +kernel
theorem dX3_measure_50 : decode cX3_measure 50 = .ok (.ifCond .eq 100, 3) := by decide +kernel
theorem dX3_measure_53 : decode cX3_measure 53 = .ok (.iconst 0, 1) := by decide +kernel
theorem dX3_measure_54 : decode cX3_measure 54 = .ok (.istore 4, 2) := by decide +kernel
theorem dX3_measure_56 : decode cX3_measure 56 = .ok (.iconst 0, 1) := by decide +kernel
theorem dX3_measure_57 : decode cX3_measure 57 = .ok (.istore 6, 2) := by decide +kernel
theorem dX3_measure_59 : decode cX3_measure 59 = .ok (.iload 6, 2) := by decide +kernel
theorem dX3_measure_61 : decode cX3_measure 61 = .ok (.aload_n 1, 1) := by decide +kernel
theorem dX3_measure_62 : decode cX3_measure 62 = .ok (.getfield 36, 3) := by decide +kernel
theorem dX3_measure_65 : decode cX3_measure 65 = .ok (.if_icmp .ge 79, 3) := by decide +kernel
theorem dX3_measure_68 : decode cX3_measure 68 = .ok (.aload_n 0, 1) := by decide +kernel
theorem dX3_measure_69 : decode cX3_measure 69 = .ok (.getfield 19, 3) := by decide +kernel
theorem dX3_measure_72 : decode cX3_measure 72 = .ok (.aload_n 1, 1) := by decide +kernel
theorem dX3_measure_73 : decode cX3_measure 73 = .ok (.getfield 31, 3) := by decide +kernel
theorem dX3_measure_76 : decode cX3_measure 76 = .ok (.iload 6, 2) := by decide +kernel
theorem dX3_measure_78 : decode cX3_measure 78 = .ok (.iaload, 1) := by decide +kernel
theorem dX3_measure_79 : decode cX3_measure 79 = .ok (.iaload, 1) := by decide +kernel
theorem dX3_measure_80 : decode cX3_measure 80 = .ok (.aload_n 1, 1) := by decide +kernel
theorem dX3_measure_81 : decode cX3_measure 81 = .ok (.getfield 39, 3) := by decide +kernel
theorem dX3_measure_84 : decode cX3_measure 84 = .ok (.iload 6, 2) := by decide +kernel
theorem dX3_measure_86 : decode cX3_measure 86 = .ok (.iaload, 1) := by decide +kernel
theorem dX3_measure_87 : decode cX3_measure 87 = .ok (.bipush 16, 2) := by decide +kernel
theorem dX3_measure_89 : decode cX3_measure 89 = .ok (.imul, 1) := by decide +kernel
theorem dX3_measure_90 : decode cX3_measure 90 = .ok (.iadd, 1) := by decide +kernel
theorem dX3_measure_91 : decode cX3_measure 91 = .ok (.iconst 1, 1) := by decide +kernel
theorem dX3_measure_92 : decode cX3_measure 92 = .ok (.iadd, 1) := by decide +kernel
theorem dX3_measure_93 : decode cX3_measure 93 = .ok (.istore 7, 2) := by decide +kernel
theorem dX3_measure_95 : decode cX3_measure 95 = .ok (.iload_n 3, 1) := by decide +kernel
theorem dX3_measure_96 : decode cX3_measure 96 = .ok (.iload 6, 2) := by decide +kernel
theorem dX3_measure_98 : decode cX3_measure 98 = .ok (.ishr, 1) := by decide +kernel
theorem dX3_measure_99 : decode cX3_measure 99 = .ok (.iconst 1, 1) := by decide +kernel
theorem dX3_measure_100 : decode cX3_measure 100 = .ok (.iand, 1) := by decide +kernel
theorem dX3_measure_101 : decode cX3_measure 101 = .ok (.ifCond .eq 37, 3) := by decide +kernel
theorem dX3_measure_104 : decode cX3_measure 104 = .ok (.iload 7, 2) := by decide +kernel
theorem dX3_measure_106 : decode cX3_measure 106 = .ok (.aload_n 0, 1) := by decide +kernel
theorem dX3_measure_107 : decode cX3_measure 107 = .ok (.getfield 19, 3) := by decide +kernel
theorem dX3_measure_110 : decode cX3_measure 110 = .ok (.aload_n 1, 1) := by decide +kernel
theorem dX3_measure_111 : decode cX3_measure 111 = .ok (.getfield 42, 3) := by decide +kernel
theorem dX3_measure_114 : decode cX3_measure 114 = .ok (.iload 6, 2) := by decide +kernel
theorem dX3_measure_116 : decode cX3_measure 116 = .ok (.iaload, 1) := by decide +kernel
theorem dX3_measure_117 : decode cX3_measure 117 = .ok (.iaload, 1) := by decide +kernel
theorem dX3_measure_118 : decode cX3_measure 118 = .ok (.if_icmp .ge 20, 3) := by decide +kernel
theorem dX3_measure_121 : decode cX3_measure 121 = .ok (.aload_n 0, 1) := by decide +kernel
theorem dX3_measure_122 : decode cX3_measure 122 = .ok (.getfield 19, 3) := by decide +kernel
theorem dX3_measure_125 : decode cX3_measure 125 = .ok (.aload_n 1, 1) := by decide +kernel
theorem dX3_measure_126 : decode cX3_measure 126 = .ok (.getfield 42, 3) := by decide +kernel
theorem dX3_measure_129 : decode cX3_measure 129 = .ok (.iload 6, 2) := by decide +kernel
theorem dX3_measure_131 : decode cX3_measure 131 = .ok (.iaload, 1) := by decide +kernel
theorem dX3_measure_132 : decode cX3_measure 132 = .ok (.iload 7, 2) := by decide +kernel
theorem dX3_measure_134 : decode cX3_measure 134 = .ok (.iastore, 1) := by decide +kernel
theorem dX3_measure_135 : decode cX3_measure 135 = .ok (.iconst 1, 1) := by decide +kernel
theorem dX3_measure_136 : decode cX3_measure 136 = .ok (.istore 4, 2) := by decide +kernel
theorem dX3_measure_138 : decode cX3_measure 138 = .ok (.iinc 6 1, 3) := by decide +kernel
theorem dX3_measure_141 : decode cX3_measure 141 = .ok (.goto (-82), 3) := by decide +kernel
theorem dX3_measure_144 : decode cX3_measure 144 = .ok (.iinc 5 1, 3) := by decide +kernel
theorem dX3_measure_147 : decode cX3_measure 147 = .ok (.goto (-106), 3) := by decide +kernel
theorem dX3_measure_150 : decode cX3_measure 150 = .ok (.return_, 1) := by decide +kernel
theorem dX3_firstStep_0 : decode cX3_firstStep 0 = .ok (.iconst 0, 1) := by decide +kernel
theorem dX3_firstStep_1 : decode cX3_firstStep 1 = .ok (.istore 4, 2) := by decide +kernel
theorem dX3_firstStep_3 : decode cX3_firstStep 3 = .ok (.iload 4, 2) := by decide +kernel
theorem dX3_firstStep_5 : decode cX3_firstStep 5 = .ok (.aload_n 1, 1) := by decide +kernel
theorem dX3_firstStep_6 : decode cX3_firstStep 6 = .ok (.getfield 36, 3) := by decide +kernel
theorem dX3_firstStep_9 : decode cX3_firstStep 9 = .ok (.if_icmp .ge 70, 3) := by decide +kernel
theorem dX3_firstStep_12 : decode cX3_firstStep 12 = .ok (.iload_n 3, 1) := by decide +kernel
theorem dX3_firstStep_13 : decode cX3_firstStep 13 = .ok (.iload 4, 2) := by decide +kernel
theorem dX3_firstStep_15 : decode cX3_firstStep 15 = .ok (.ishr, 1) := by decide +kernel
theorem dX3_firstStep_16 : decode cX3_firstStep 16 = .ok (.iconst 1, 1) := by decide +kernel
theorem dX3_firstStep_17 : decode cX3_firstStep 17 = .ok (.iand, 1) := by decide +kernel
theorem dX3_firstStep_18 : decode cX3_firstStep 18 = .ok (.ifCond .eq 55, 3) := by decide +kernel
theorem dX3_firstStep_21 : decode cX3_firstStep 21 = .ok (.aload_n 1, 1) := by decide +kernel
theorem dX3_firstStep_22 : decode cX3_firstStep 22 = .ok (.getfield 42, 3) := by decide +kernel
theorem dX3_firstStep_25 : decode cX3_firstStep 25 = .ok (.iload 4, 2) := by decide +kernel
theorem dX3_firstStep_27 : decode cX3_firstStep 27 = .ok (.iaload, 1) := by decide +kernel
theorem dX3_firstStep_28 : decode cX3_firstStep 28 = .ok (.iload_n 2, 1) := by decide +kernel
theorem dX3_firstStep_29 : decode cX3_firstStep 29 = .ok (.if_icmp .ne 44, 3) := by decide +kernel
theorem dX3_firstStep_32 : decode cX3_firstStep 32 = .ok (.aload_n 0, 1) := by decide +kernel
theorem dX3_firstStep_33 : decode cX3_firstStep 33 = .ok (.getfield 19, 3) := by decide +kernel
theorem dX3_firstStep_36 : decode cX3_firstStep 36 = .ok (.aload_n 1, 1) := by decide +kernel
theorem dX3_firstStep_37 : decode cX3_firstStep 37 = .ok (.getfield 31, 3) := by decide +kernel
theorem dX3_firstStep_40 : decode cX3_firstStep 40 = .ok (.iload 4, 2) := by decide +kernel
theorem dX3_firstStep_42 : decode cX3_firstStep 42 = .ok (.iaload, 1) := by decide +kernel
theorem dX3_firstStep_43 : decode cX3_firstStep 43 = .ok (.iaload, 1) := by decide +kernel
theorem dX3_firstStep_44 : decode cX3_firstStep 44 = .ok (.aload_n 1, 1) := by decide +kernel
theorem dX3_firstStep_45 : decode cX3_firstStep 45 = .ok (.getfield 39, 3) := by decide +kernel
theorem dX3_firstStep_48 : decode cX3_firstStep 48 = .ok (.iload 4, 2) := by decide +kernel
theorem dX3_firstStep_50 : decode cX3_firstStep 50 = .ok (.iaload, 1) := by decide +kernel
theorem dX3_firstStep_51 : decode cX3_firstStep 51 = .ok (.bipush 16, 2) := by decide +kernel
theorem dX3_firstStep_53 : decode cX3_firstStep 53 = .ok (.imul, 1) := by decide +kernel
theorem dX3_firstStep_54 : decode cX3_firstStep 54 = .ok (.iadd, 1) := by decide +kernel
theorem dX3_firstStep_55 : decode cX3_firstStep 55 = .ok (.iconst 1, 1) := by decide +kernel
theorem dX3_firstStep_56 : decode cX3_firstStep 56 = .ok (.iadd, 1) := by decide +kernel
theorem dX3_firstStep_57 : decode cX3_firstStep 57 = .ok (.istore 5, 2) := by decide +kernel
theorem dX3_firstStep_59 : decode cX3_firstStep 59 = .ok (.iload 5, 2) := by decide +kernel
theorem dX3_firstStep_61 : decode cX3_firstStep 61 = .ok (.aload_n 0, 1) := by decide +kernel
theorem dX3_firstStep_62 : decode cX3_firstStep 62 = .ok (.getfield 19, 3) := by decide +kernel
theorem dX3_firstStep_65 : decode cX3_firstStep 65 = .ok (.iload_n 2, 1) := by decide +kernel
theorem dX3_firstStep_66 : decode cX3_firstStep 66 = .ok (.iaload, 1) := by decide +kernel
theorem dX3_firstStep_67 : decode cX3_firstStep 67 = .ok (.if_icmp .ne 6, 3) := by decide +kernel
theorem dX3_firstStep_70 : decode cX3_firstStep 70 = .ok (.iload 4, 2) := by decide +kernel
theorem dX3_firstStep_72 : decode cX3_firstStep 72 = .ok (.ireturn, 1) := by decide +kernel
theorem dX3_firstStep_73 : decode cX3_firstStep 73 = .ok (.iinc 4 1, 3) := by decide +kernel
theorem dX3_firstStep_76 : decode cX3_firstStep 76 = .ok (.goto (-73), 3) := by decide +kernel
theorem dX3_firstStep_79 : decode cX3_firstStep 79 = .ok (.iconst (-1), 1) := by decide +kernel
theorem dX3_firstStep_80 : decode cX3_firstStep 80 = .ok (.ireturn, 1) := by decide +kernel
theorem dX3_sumAlong_0 : decode cX3_sumAlong 0 = .ok (.iconst 0, 1) := by decide +kernel
theorem dX3_sumAlong_1 : decode cX3_sumAlong 1 = .ok (.istore_n 3, 1) := by decide +kernel
theorem dX3_sumAlong_2 : decode cX3_sumAlong 2 = .ok (.iload_n 2, 1) := by decide +kernel
theorem dX3_sumAlong_3 : decode cX3_sumAlong 3 = .ok (.istore 4, 2) := by decide +kernel
theorem dX3_sumAlong_5 : decode cX3_sumAlong 5 = .ok (.iload 4, 2) := by decide +kernel
theorem dX3_sumAlong_7 : decode cX3_sumAlong 7 = .ok (.aload_n 0, 1) := by decide +kernel
theorem dX3_sumAlong_8 : decode cX3_sumAlong 8 = .ok (.getfield 15, 3) := by decide +kernel
theorem dX3_sumAlong_11 : decode cX3_sumAlong 11 = .ok (.if_icmp .ge 21, 3) := by decide +kernel
theorem dX3_sumAlong_14 : decode cX3_sumAlong 14 = .ok (.iload_n 3, 1) := by decide +kernel
theorem dX3_sumAlong_15 : decode cX3_sumAlong 15 = .ok (.aload_n 1, 1) := by decide +kernel
theorem dX3_sumAlong_16 : decode cX3_sumAlong 16 = .ok (.aload_n 0, 1) := by decide +kernel
theorem dX3_sumAlong_17 : decode cX3_sumAlong 17 = .ok (.getfield 9, 3) := by decide +kernel
theorem dX3_sumAlong_20 : decode cX3_sumAlong 20 = .ok (.iload 4, 2) := by decide +kernel
theorem dX3_sumAlong_22 : decode cX3_sumAlong 22 = .ok (.iaload, 1) := by decide +kernel
theorem dX3_sumAlong_23 : decode cX3_sumAlong 23 = .ok (.iaload, 1) := by decide +kernel
theorem dX3_sumAlong_24 : decode cX3_sumAlong 24 = .ok (.iadd, 1) := by decide +kernel
theorem dX3_sumAlong_25 : decode cX3_sumAlong 25 = .ok (.istore_n 3, 1) := by decide +kernel
theorem dX3_sumAlong_26 : decode cX3_sumAlong 26 = .ok (.iinc 4 1, 3) := by decide +kernel
theorem dX3_sumAlong_29 : decode cX3_sumAlong 29 = .ok (.goto (-24), 3) := by decide +kernel
theorem dX3_sumAlong_32 : decode cX3_sumAlong 32 = .ok (.iload_n 3, 1) := by decide +kernel
theorem dX3_sumAlong_33 : decode cX3_sumAlong 33 = .ok (.ireturn, 1) := by decide +kernel
theorem dX3_reachedFrom_0 : decode cX3_reachedFrom 0 = .ok (.iconst 1, 1) := by decide +kernel
theorem dX3_reachedFrom_1 : decode cX3_reachedFrom 1 = .ok (.iload_n 2, 1) := by decide +kernel
theorem dX3_reachedFrom_2 : decode cX3_reachedFrom 2 = .ok (.ishl, 1) := by decide +kernel
theorem dX3_reachedFrom_3 : decode cX3_reachedFrom 3 = .ok (.istore 4, 2) := by decide +kernel
theorem dX3_reachedFrom_5 : decode cX3_reachedFrom 5 = .ok (.iconst 0, 1) := by decide +kernel
theorem dX3_reachedFrom_6 : decode cX3_reachedFrom 6 = .ok (.istore 5, 2) := by decide +kernel
theorem dX3_reachedFrom_8 : decode cX3_reachedFrom 8 = .ok (.iconst 0, 1) := by decide +kernel
theorem dX3_reachedFrom_9 : decode cX3_reachedFrom 9 = .ok (.istore 6, 2) := by decide +kernel
theorem dX3_reachedFrom_11 : decode cX3_reachedFrom 11 = .ok (.iload 6, 2) := by decide +kernel
theorem dX3_reachedFrom_13 : decode cX3_reachedFrom 13 = .ok (.bipush 12, 2) := by decide +kernel
theorem dX3_reachedFrom_15 : decode cX3_reachedFrom 15 = .ok (.if_icmp .ge 92, 3) := by decide +kernel
theorem dX3_reachedFrom_18 : decode cX3_reachedFrom 18 = .ok (.iload 4, 2) := by decide +kernel
theorem dX3_reachedFrom_20 : decode cX3_reachedFrom 20 = .ok (.iload 5, 2) := by decide +kernel
theorem dX3_reachedFrom_22 : decode cX3_reachedFrom 22 = .ok (.if_icmp .eq 85, 3) := by decide +kernel
theorem dX3_reachedFrom_25 : decode cX3_reachedFrom 25 = .ok (.iload 4, 2) := by decide +kernel
theorem dX3_reachedFrom_27 : decode cX3_reachedFrom 27 = .ok (.istore 5, 2) := by decide +kernel
theorem dX3_reachedFrom_29 : decode cX3_reachedFrom 29 = .ok (.iconst 0, 1) := by decide +kernel
theorem dX3_reachedFrom_30 : decode cX3_reachedFrom 30 = .ok (.istore 7, 2) := by decide +kernel
theorem dX3_reachedFrom_32 : decode cX3_reachedFrom 32 = .ok (.iload 7, 2) := by decide +kernel
theorem dX3_reachedFrom_34 : decode cX3_reachedFrom 34 = .ok (.aload_n 1, 1) := by decide +kernel
theorem dX3_reachedFrom_35 : decode cX3_reachedFrom 35 = .ok (.getfield 36, 3) := by decide +kernel
theorem dX3_reachedFrom_38 : decode cX3_reachedFrom 38 = .ok (.if_icmp .ge 63, 3) := by decide +kernel
theorem dX3_reachedFrom_41 : decode cX3_reachedFrom 41 = .ok (.iload_n 3, 1) := by decide +kernel
theorem dX3_reachedFrom_42 : decode cX3_reachedFrom 42 = .ok (.iload 7, 2) := by decide +kernel
theorem dX3_reachedFrom_44 : decode cX3_reachedFrom 44 = .ok (.ishr, 1) := by decide +kernel
theorem dX3_reachedFrom_45 : decode cX3_reachedFrom 45 = .ok (.iconst 1, 1) := by decide +kernel
theorem dX3_reachedFrom_46 : decode cX3_reachedFrom 46 = .ok (.iand, 1) := by decide +kernel
theorem dX3_reachedFrom_47 : decode cX3_reachedFrom 47 = .ok (.ifCond .eq 22, 3) := by decide +kernel
theorem dX3_reachedFrom_50 : decode cX3_reachedFrom 50 = .ok (.iload 4, 2) := by decide +kernel
theorem dX3_reachedFrom_52 : decode cX3_reachedFrom 52 = .ok (.aload_n 1, 1) := by decide +kernel
theorem dX3_reachedFrom_53 : decode cX3_reachedFrom 53 = .ok (.getfield 42, 3) := by decide +kernel
theorem dX3_reachedFrom_56 : decode cX3_reachedFrom 56 = .ok (.iload 7, 2) := by decide +kernel
theorem dX3_reachedFrom_58 : decode cX3_reachedFrom 58 = .ok (.iaload, 1) := by decide +kernel
theorem dX3_reachedFrom_59 : decode cX3_reachedFrom 59 = .ok (.ishr, 1) := by decide +kernel
theorem dX3_reachedFrom_60 : decode cX3_reachedFrom 60 = .ok (.iconst 1, 1) := by decide +kernel
theorem dX3_reachedFrom_61 : decode cX3_reachedFrom 61 = .ok (.iand, 1) := by decide +kernel
theorem dX3_reachedFrom_62 : decode cX3_reachedFrom 62 = .ok (.ifCond .eq 7, 3) := by decide +kernel
theorem dX3_reachedFrom_65 : decode cX3_reachedFrom 65 = .ok (.iconst 1, 1) := by decide +kernel
theorem dX3_reachedFrom_66 : decode cX3_reachedFrom 66 = .ok (.goto 4, 3) := by decide +kernel
theorem dX3_reachedFrom_69 : decode cX3_reachedFrom 69 = .ok (.iconst 0, 1) := by decide +kernel
theorem dX3_reachedFrom_70 : decode cX3_reachedFrom 70 = .ok (.istore 8, 2) := by decide +kernel
theorem dX3_reachedFrom_72 : decode cX3_reachedFrom 72 = .ok (.iload 4, 2) := by decide +kernel
theorem dX3_reachedFrom_74 : decode cX3_reachedFrom 74 = .ok (.iload 8, 2) := by decide +kernel
theorem dX3_reachedFrom_76 : decode cX3_reachedFrom 76 = .ok (.ifCond .eq 15, 3) := by decide +kernel
theorem dX3_reachedFrom_79 : decode cX3_reachedFrom 79 = .ok (.iconst 1, 1) := by decide +kernel
theorem dX3_reachedFrom_80 : decode cX3_reachedFrom 80 = .ok (.aload_n 1, 1) := by decide +kernel
theorem dX3_reachedFrom_81 : decode cX3_reachedFrom 81 = .ok (.getfield 31, 3) := by decide +kernel
theorem dX3_reachedFrom_84 : decode cX3_reachedFrom 84 = .ok (.iload 7, 2) := by decide +kernel
theorem dX3_reachedFrom_86 : decode cX3_reachedFrom 86 = .ok (.iaload, 1) := by decide +kernel
theorem dX3_reachedFrom_87 : decode cX3_reachedFrom 87 = .ok (.ishl, 1) := by decide +kernel
theorem dX3_reachedFrom_88 : decode cX3_reachedFrom 88 = .ok (.goto 4, 3) := by decide +kernel
theorem dX3_reachedFrom_91 : decode cX3_reachedFrom 91 = .ok (.iconst 0, 1) := by decide +kernel
theorem dX3_reachedFrom_92 : decode cX3_reachedFrom 92 = .ok (.ior, 1) := by decide +kernel
theorem dX3_reachedFrom_93 : decode cX3_reachedFrom 93 = .ok (.istore 4, 2) := by decide +kernel
theorem dX3_reachedFrom_95 : decode cX3_reachedFrom 95 = .ok (.iinc 7 1, 3) := by decide +kernel
theorem dX3_reachedFrom_98 : decode cX3_reachedFrom 98 = .ok (.goto (-66), 3) := by decide +kernel
theorem dX3_reachedFrom_101 : decode cX3_reachedFrom 101 = .ok (.iinc 6 1, 3) := by decide +kernel
theorem dX3_reachedFrom_104 : decode cX3_reachedFrom 104 = .ok (.goto (-93), 3) := by decide +kernel
theorem dX3_reachedFrom_107 : decode cX3_reachedFrom 107 = .ok (.iload 4, 2) := by decide +kernel
theorem dX3_reachedFrom_109 : decode cX3_reachedFrom 109 = .ok (.ireturn, 1) := by decide +kernel
theorem dX3_width_0 : decode cX3_width 0 = .ok (.iconst 0, 1) := by decide +kernel
theorem dX3_width_1 : decode cX3_width 1 = .ok (.istore 4, 2) := by decide +kernel
theorem dX3_width_3 : decode cX3_width 3 = .ok (.iconst 0, 1) := by decide +kernel
theorem dX3_width_4 : decode cX3_width 4 = .ok (.istore 5, 2) := by decide +kernel
theorem dX3_width_6 : decode cX3_width 6 = .ok (.iload 5, 2) := by decide +kernel
theorem dX3_width_8 : decode cX3_width 8 = .ok (.aload_n 1, 1) := by decide +kernel
theorem dX3_width_9 : decode cX3_width 9 = .ok (.getfield 36, 3) := by decide +kernel
theorem dX3_width_12 : decode cX3_width 12 = .ok (.if_icmp .ge 65, 3) := by decide +kernel
theorem dX3_width_15 : decode cX3_width 15 = .ok (.aload_n 1, 1) := by decide +kernel
theorem dX3_width_16 : decode cX3_width 16 = .ok (.iload 5, 2) := by decide +kernel
theorem dX3_width_18 : decode cX3_width 18 = .ok (.invokevirtual 45, 3) := by decide +kernel
theorem dX3_width_21 : decode cX3_width 21 = .ok (.istore 6, 2) := by decide +kernel
theorem dX3_width_23 : decode cX3_width 23 = .ok (.aload_n 1, 1) := by decide +kernel
theorem dX3_width_24 : decode cX3_width 24 = .ok (.iload 5, 2) := by decide +kernel
theorem dX3_width_26 : decode cX3_width 26 = .ok (.invokevirtual 49, 3) := by decide +kernel
theorem dX3_width_29 : decode cX3_width 29 = .ok (.ifCond .eq 42, 3) := by decide +kernel
theorem dX3_width_32 : decode cX3_width 32 = .ok (.iload 6, 2) := by decide +kernel
theorem dX3_width_34 : decode cX3_width 34 = .ok (.iload 4, 2) := by decide +kernel
theorem dX3_width_36 : decode cX3_width 36 = .ok (.if_icmp .le 35, 3) := by decide +kernel
theorem dX3_width_39 : decode cX3_width 39 = .ok (.aload_n 0, 1) := by decide +kernel
theorem dX3_width_40 : decode cX3_width 40 = .ok (.aload_n 1, 1) := by decide +kernel
theorem dX3_width_41 : decode cX3_width 41 = .ok (.iload_n 2, 1) := by decide +kernel
theorem dX3_width_42 : decode cX3_width 42 = .ok (.aload_n 1, 1) := by decide +kernel
theorem dX3_width_43 : decode cX3_width 43 = .ok (.iload 6, 2) := by decide +kernel
theorem dX3_width_45 : decode cX3_width 45 = .ok (.invokevirtual 53, 3) := by decide +kernel
theorem dX3_width_48 : decode cX3_width 48 = .ok (.invokevirtual 56, 3) := by decide +kernel
theorem dX3_width_51 : decode cX3_width 51 = .ok (.istore 7, 2) := by decide +kernel
theorem dX3_width_53 : decode cX3_width 53 = .ok (.iload 7, 2) := by decide +kernel
theorem dX3_width_55 : decode cX3_width 55 = .ok (.iload_n 3, 1) := by decide +kernel
theorem dX3_width_56 : decode cX3_width 56 = .ok (.ishr, 1) := by decide +kernel
theorem dX3_width_57 : decode cX3_width 57 = .ok (.iconst 1, 1) := by decide +kernel
theorem dX3_width_58 : decode cX3_width 58 = .ok (.iand, 1) := by decide +kernel
theorem dX3_width_59 : decode cX3_width 59 = .ok (.ifCond .eq 8, 3) := by decide +kernel
theorem dX3_width_62 : decode cX3_width 62 = .ok (.iload 6, 2) := by decide +kernel
theorem dX3_width_64 : decode cX3_width 64 = .ok (.goto 5, 3) := by decide +kernel
theorem dX3_width_67 : decode cX3_width 67 = .ok (.iload 4, 2) := by decide +kernel
theorem dX3_width_69 : decode cX3_width 69 = .ok (.istore 4, 2) := by decide +kernel
theorem dX3_width_71 : decode cX3_width 71 = .ok (.iinc 5 1, 3) := by decide +kernel
theorem dX3_width_74 : decode cX3_width 74 = .ok (.goto (-68), 3) := by decide +kernel
theorem dX3_width_77 : decode cX3_width 77 = .ok (.iload 4, 2) := by decide +kernel
theorem dX3_width_79 : decode cX3_width 79 = .ok (.ireturn, 1) := by decide +kernel
theorem dX4_init_0 : decode cX4_init 0 = .ok (.aload_n 0, 1) := by decide +kernel
theorem dX4_init_1 : decode cX4_init 1 = .ok (.invokespecial 3, 3) := by decide +kernel
theorem dX4_init_4 : decode cX4_init 4 = .ok (.aload_n 0, 1) := by decide +kernel
theorem dX4_init_5 : decode cX4_init 5 = .ok (.bipush 40, 2) := by decide +kernel
theorem dX4_init_7 : decode cX4_init 7 = .ok (.newarray .int, 2) := by decide +kernel
theorem dX4_init_9 : decode cX4_init 9 = .ok (.putfield 9, 3) := by decide +kernel
theorem dX4_init_12 : decode cX4_init 12 = .ok (.aload_n 0, 1) := by decide +kernel
theorem dX4_init_13 : decode cX4_init 13 = .ok (.bipush 40, 2) := by decide +kernel
theorem dX4_init_15 : decode cX4_init 15 = .ok (.newarray .int, 2) := by decide +kernel
theorem dX4_init_17 : decode cX4_init 17 = .ok (.putfield 15, 3) := by decide +kernel
theorem dX4_init_20 : decode cX4_init 20 = .ok (.aload_n 0, 1) := by decide +kernel
theorem dX4_init_21 : decode cX4_init 21 = .ok (.bipush 40, 2) := by decide +kernel
theorem dX4_init_23 : decode cX4_init 23 = .ok (.newarray .int, 2) := by decide +kernel
theorem dX4_init_25 : decode cX4_init 25 = .ok (.putfield 18, 3) := by decide +kernel
theorem dX4_init_28 : decode cX4_init 28 = .ok (.aload_n 0, 1) := by decide +kernel
theorem dX4_init_29 : decode cX4_init 29 = .ok (.bipush 40, 2) := by decide +kernel
theorem dX4_init_31 : decode cX4_init 31 = .ok (.newarray .int, 2) := by decide +kernel
theorem dX4_init_33 : decode cX4_init 33 = .ok (.putfield 21, 3) := by decide +kernel
theorem dX4_init_36 : decode cX4_init 36 = .ok (.aload_n 0, 1) := by decide +kernel
theorem dX4_init_37 : decode cX4_init 37 = .ok (.bipush 40, 2) := by decide +kernel
theorem dX4_init_39 : decode cX4_init 39 = .ok (.newarray .int, 2) := by decide +kernel
theorem dX4_init_41 : decode cX4_init 41 = .ok (.putfield 24, 3) := by decide +kernel
theorem dX4_init_44 : decode cX4_init 44 = .ok (.aload_n 0, 1) := by decide +kernel
theorem dX4_init_45 : decode cX4_init 45 = .ok (.bipush 40, 2) := by decide +kernel
theorem dX4_init_47 : decode cX4_init 47 = .ok (.newarray .int, 2) := by decide +kernel
theorem dX4_init_49 : decode cX4_init 49 = .ok (.putfield 27, 3) := by decide +kernel
theorem dX4_init_52 : decode cX4_init 52 = .ok (.aload_n 0, 1) := by decide +kernel
theorem dX4_init_53 : decode cX4_init 53 = .ok (.bipush 40, 2) := by decide +kernel
theorem dX4_init_55 : decode cX4_init 55 = .ok (.newarray .int, 2) := by decide +kernel
theorem dX4_init_57 : decode cX4_init 57 = .ok (.putfield 30, 3) := by decide +kernel
theorem dX4_init_60 : decode cX4_init 60 = .ok (.aload_n 0, 1) := by decide +kernel
theorem dX4_init_61 : decode cX4_init 61 = .ok (.bipush 40, 2) := by decide +kernel
theorem dX4_init_63 : decode cX4_init 63 = .ok (.newarray .int, 2) := by decide +kernel
theorem dX4_init_65 : decode cX4_init 65 = .ok (.putfield 33, 3) := by decide +kernel
theorem dX4_init_68 : decode cX4_init 68 = .ok (.aload_n 0, 1) := by decide +kernel
theorem dX4_init_69 : decode cX4_init 69 = .ok (.bipush 40, 2) := by decide +kernel
theorem dX4_init_71 : decode cX4_init 71 = .ok (.newarray .int, 2) := by decide +kernel
theorem dX4_init_73 : decode cX4_init 73 = .ok (.putfield 36, 3) := by decide +kernel
theorem dX4_init_76 : decode cX4_init 76 = .ok (.aload_n 0, 1) := by decide +kernel
theorem dX4_init_77 : decode cX4_init 77 = .ok (.bipush 40, 2) := by decide +kernel
theorem dX4_init_79 : decode cX4_init 79 = .ok (.newarray .int, 2) := by decide +kernel
theorem dX4_init_81 : decode cX4_init 81 = .ok (.putfield 39, 3) := by decide +kernel
theorem dX4_init_84 : decode cX4_init 84 = .ok (.aload_n 0, 1) := by decide +kernel
theorem dX4_init_85 : decode cX4_init 85 = .ok (.bipush 40, 2) := by decide +kernel
theorem dX4_init_87 : decode cX4_init 87 = .ok (.newarray .int, 2) := by decide +kernel
theorem dX4_init_89 : decode cX4_init 89 = .ok (.putfield 42, 3) := by decide +kernel
theorem dX4_init_92 : decode cX4_init 92 = .ok (.aload_n 0, 1) := by decide +kernel
theorem dX4_init_93 : decode cX4_init 93 = .ok (.bipush 40, 2) := by decide +kernel
theorem dX4_init_95 : decode cX4_init 95 = .ok (.newarray .int, 2) := by decide +kernel
theorem dX4_init_97 : decode cX4_init 97 = .ok (.putfield 45, 3) := by decide +kernel
theorem dX4_init_100 : decode cX4_init 100 = .ok (.aload_n 0, 1) := by decide +kernel
theorem dX4_init_101 : decode cX4_init 101 = .ok (.bipush 40, 2) := by decide +kernel
theorem dX4_init_103 : decode cX4_init 103 = .ok (.newarray .int, 2) := by decide +kernel
theorem dX4_init_105 : decode cX4_init 105 = .ok (.putfield 48, 3) := by decide +kernel
theorem dX4_init_108 : decode cX4_init 108 = .ok (.aload_n 0, 1) := by decide +kernel
theorem dX4_init_109 : decode cX4_init 109 = .ok (.bipush 40, 2) := by decide +kernel
theorem dX4_init_111 : decode cX4_init 111 = .ok (.newarray .int, 2) := by decide +kernel
theorem dX4_init_113 : decode cX4_init 113 = .ok (.putfield 51, 3) := by decide +kernel
theorem dX4_init_116 : decode cX4_init 116 = .ok (.aload_n 0, 1) := by decide +kernel
theorem dX4_init_117 : decode cX4_init 117 = .ok (.bipush 40, 2) := by decide +kernel
theorem dX4_init_119 : decode cX4_init 119 = .ok (.newarray .int, 2) := by decide +kernel
theorem dX4_init_121 : decode cX4_init 121 = .ok (.putfield 54, 3) := by decide +kernel
theorem dX4_init_124 : decode cX4_init 124 = .ok (.aload_n 0, 1) := by decide +kernel
theorem dX4_init_125 : decode cX4_init 125 = .ok (.bipush 40, 2) := by decide +kernel
theorem dX4_init_127 : decode cX4_init 127 = .ok (.bipush 11, 2) := by decide +kernel
theorem dX4_init_129 : decode cX4_init 129 = .ok (.multianewarray 57 2, 4) := by decide +kernel
theorem dX4_init_133 : decode cX4_init 133 = .ok (.putfield 59, 3) := by decide +kernel
theorem dX4_init_136 : decode cX4_init 136 = .ok (.aload_n 0, 1) := by decide +kernel
theorem dX4_init_137 : decode cX4_init 137 = .ok (.bipush 40, 2) := by decide +kernel
theorem dX4_init_139 : decode cX4_init 139 = .ok (.bipush 11, 2) := by decide +kernel
theorem dX4_init_141 : decode cX4_init 141 = .ok (.multianewarray 57 2, 4) := by decide +kernel
theorem dX4_init_145 : decode cX4_init 145 = .ok (.putfield 62, 3) := by decide +kernel
theorem dX4_init_148 : decode cX4_init 148 = .ok (.aload_n 0, 1) := by decide +kernel
theorem dX4_init_149 : decode cX4_init 149 = .ok (.iconst 0, 1) := by decide +kernel
theorem dX4_init_150 : decode cX4_init 150 = .ok (.putfield 65, 3) := by decide +kernel
theorem dX4_init_153 : decode cX4_init 153 = .ok (.return_, 1) := by decide +kernel
theorem dX4_add_0 : decode cX4_add 0 = .ok (.aload_n 0, 1) := by decide +kernel
theorem dX4_add_1 : decode cX4_add 1 = .ok (.getfield 9, 3) := by decide +kernel
theorem dX4_add_4 : decode cX4_add 4 = .ok (.aload_n 0, 1) := by decide +kernel
theorem dX4_add_5 : decode cX4_add 5 = .ok (.getfield 65, 3) := by decide +kernel
theorem dX4_add_8 : decode cX4_add 8 = .ok (.iload_n 1, 1) := by decide +kernel
theorem dX4_add_9 : decode cX4_add 9 = .ok (.iastore, 1) := by decide +kernel
theorem dX4_add_10 : decode cX4_add 10 = .ok (.aload_n 0, 1) := by decide +kernel
theorem dX4_add_11 : decode cX4_add 11 = .ok (.getfield 15, 3) := by decide +kernel
theorem dX4_add_14 : decode cX4_add 14 = .ok (.aload_n 0, 1) := by decide +kernel
theorem dX4_add_15 : decode cX4_add 15 = .ok (.getfield 65, 3) := by decide +kernel
theorem dX4_add_18 : decode cX4_add 18 = .ok (.iload_n 2, 1) := by decide +kernel
theorem dX4_add_19 : decode cX4_add 19 = .ok (.iastore, 1) := by decide +kernel
theorem dX4_add_20 : decode cX4_add 20 = .ok (.aload_n 0, 1) := by decide +kernel
theorem dX4_add_21 : decode cX4_add 21 = .ok (.getfield 18, 3) := by decide +kernel
theorem dX4_add_24 : decode cX4_add 24 = .ok (.aload_n 0, 1) := by decide +kernel
theorem dX4_add_25 : decode cX4_add 25 = .ok (.getfield 65, 3) := by decide +kernel
theorem dX4_add_28 : decode cX4_add 28 = .ok (.iload_n 3, 1) := by decide +kernel
theorem dX4_add_29 : decode cX4_add 29 = .ok (.iastore, 1) := by decide +kernel
theorem dX4_add_30 : decode cX4_add 30 = .ok (.aload_n 0, 1) := by decide +kernel
theorem dX4_add_31 : decode cX4_add 31 = .ok (.getfield 21, 3) := by decide +kernel
theorem dX4_add_34 : decode cX4_add 34 = .ok (.aload_n 0, 1) := by decide +kernel
theorem dX4_add_35 : decode cX4_add 35 = .ok (.getfield 65, 3) := by decide +kernel
theorem dX4_add_38 : decode cX4_add 38 = .ok (.iload 4, 2) := by decide +kernel
theorem dX4_add_40 : decode cX4_add 40 = .ok (.iastore, 1) := by decide +kernel
theorem dX4_add_41 : decode cX4_add 41 = .ok (.aload_n 0, 1) := by decide +kernel
theorem dX4_add_42 : decode cX4_add 42 = .ok (.getfield 24, 3) := by decide +kernel
theorem dX4_add_45 : decode cX4_add 45 = .ok (.aload_n 0, 1) := by decide +kernel
theorem dX4_add_46 : decode cX4_add 46 = .ok (.getfield 65, 3) := by decide +kernel
theorem dX4_add_49 : decode cX4_add 49 = .ok (.bipush 7, 2) := by decide +kernel
theorem dX4_add_51 : decode cX4_add 51 = .ok (.iastore, 1) := by decide +kernel
theorem dX4_add_52 : decode cX4_add 52 = .ok (.aload_n 0, 1) := by decide +kernel
theorem dX4_add_53 : decode cX4_add 53 = .ok (.getfield 27, 3) := by decide +kernel
theorem dX4_add_56 : decode cX4_add 56 = .ok (.aload_n 0, 1) := by decide +kernel
theorem dX4_add_57 : decode cX4_add 57 = .ok (.getfield 65, 3) := by decide +kernel
theorem dX4_add_60 : decode cX4_add 60 = .ok (.iconst 0, 1) := by decide +kernel
theorem dX4_add_61 : decode cX4_add 61 = .ok (.iastore, 1) := by decide +kernel
theorem dX4_add_62 : decode cX4_add 62 = .ok (.aload_n 0, 1) := by decide +kernel
theorem dX4_add_63 : decode cX4_add 63 = .ok (.getfield 30, 3) := by decide +kernel
theorem dX4_add_66 : decode cX4_add 66 = .ok (.aload_n 0, 1) := by decide +kernel
theorem dX4_add_67 : decode cX4_add 67 = .ok (.getfield 65, 3) := by decide +kernel
theorem dX4_add_70 : decode cX4_add 70 = .ok (.iload 5, 2) := by decide +kernel
theorem dX4_add_72 : decode cX4_add 72 = .ok (.iastore, 1) := by decide +kernel
theorem dX4_add_73 : decode cX4_add 73 = .ok (.aload_n 0, 1) := by decide +kernel
theorem dX4_add_74 : decode cX4_add 74 = .ok (.getfield 33, 3) := by decide +kernel
theorem dX4_add_77 : decode cX4_add 77 = .ok (.aload_n 0, 1) := by decide +kernel
theorem dX4_add_78 : decode cX4_add 78 = .ok (.getfield 65, 3) := by decide +kernel
theorem dX4_add_81 : decode cX4_add 81 = .ok (.iconst 0, 1) := by decide +kernel
theorem dX4_add_82 : decode cX4_add 82 = .ok (.iastore, 1) := by decide +kernel
theorem dX4_add_83 : decode cX4_add 83 = .ok (.aload_n 0, 1) := by decide +kernel
theorem dX4_add_84 : decode cX4_add 84 = .ok (.getfield 36, 3) := by decide +kernel
theorem dX4_add_87 : decode cX4_add 87 = .ok (.aload_n 0, 1) := by decide +kernel
theorem dX4_add_88 : decode cX4_add 88 = .ok (.getfield 65, 3) := by decide +kernel
theorem dX4_add_91 : decode cX4_add 91 = .ok (.iconst 0, 1) := by decide +kernel
theorem dX4_add_92 : decode cX4_add 92 = .ok (.iastore, 1) := by decide +kernel
theorem dX4_add_93 : decode cX4_add 93 = .ok (.aload_n 0, 1) := by decide +kernel
theorem dX4_add_94 : decode cX4_add 94 = .ok (.getfield 39, 3) := by decide +kernel
theorem dX4_add_97 : decode cX4_add 97 = .ok (.aload_n 0, 1) := by decide +kernel
theorem dX4_add_98 : decode cX4_add 98 = .ok (.getfield 65, 3) := by decide +kernel
theorem dX4_add_101 : decode cX4_add 101 = .ok (.iconst 0, 1) := by decide +kernel
theorem dX4_add_102 : decode cX4_add 102 = .ok (.iastore, 1) := by decide +kernel
theorem dX4_add_103 : decode cX4_add 103 = .ok (.aload_n 0, 1) := by decide +kernel
theorem dX4_add_104 : decode cX4_add 104 = .ok (.getfield 42, 3) := by decide +kernel
theorem dX4_add_107 : decode cX4_add 107 = .ok (.aload_n 0, 1) := by decide +kernel
theorem dX4_add_108 : decode cX4_add 108 = .ok (.getfield 65, 3) := by decide +kernel
theorem dX4_add_111 : decode cX4_add 111 = .ok (.iconst (-1), 1) := by decide +kernel
theorem dX4_add_112 : decode cX4_add 112 = .ok (.iastore, 1) := by decide +kernel
theorem dX4_add_113 : decode cX4_add 113 = .ok (.aload_n 0, 1) := by decide +kernel
theorem dX4_add_114 : decode cX4_add 114 = .ok (.getfield 45, 3) := by decide +kernel
theorem dX4_add_117 : decode cX4_add 117 = .ok (.aload_n 0, 1) := by decide +kernel
theorem dX4_add_118 : decode cX4_add 118 = .ok (.getfield 65, 3) := by decide +kernel
theorem dX4_add_121 : decode cX4_add 121 = .ok (.iconst (-1), 1) := by decide +kernel
theorem dX4_add_122 : decode cX4_add 122 = .ok (.iastore, 1) := by decide +kernel
theorem dX4_add_123 : decode cX4_add 123 = .ok (.aload_n 0, 1) := by decide +kernel
theorem dX4_add_124 : decode cX4_add 124 = .ok (.getfield 48, 3) := by decide +kernel
theorem dX4_add_127 : decode cX4_add 127 = .ok (.aload_n 0, 1) := by decide +kernel
theorem dX4_add_128 : decode cX4_add 128 = .ok (.getfield 65, 3) := by decide +kernel
theorem dX4_add_131 : decode cX4_add 131 = .ok (.iconst (-1), 1) := by decide +kernel
theorem dX4_add_132 : decode cX4_add 132 = .ok (.iastore, 1) := by decide +kernel
theorem dX4_add_133 : decode cX4_add 133 = .ok (.aload_n 0, 1) := by decide +kernel
theorem dX4_add_134 : decode cX4_add 134 = .ok (.getfield 51, 3) := by decide +kernel
theorem dX4_add_137 : decode cX4_add 137 = .ok (.aload_n 0, 1) := by decide +kernel
theorem dX4_add_138 : decode cX4_add 138 = .ok (.getfield 65, 3) := by decide +kernel
theorem dX4_add_141 : decode cX4_add 141 = .ok (.iconst 0, 1) := by decide +kernel
theorem dX4_add_142 : decode cX4_add 142 = .ok (.iastore, 1) := by decide +kernel
theorem dX4_add_143 : decode cX4_add 143 = .ok (.aload_n 0, 1) := by decide +kernel
theorem dX4_add_144 : decode cX4_add 144 = .ok (.getfield 54, 3) := by decide +kernel
theorem dX4_add_147 : decode cX4_add 147 = .ok (.aload_n 0, 1) := by decide +kernel
theorem dX4_add_148 : decode cX4_add 148 = .ok (.getfield 65, 3) := by decide +kernel
theorem dX4_add_151 : decode cX4_add 151 = .ok (.iconst 0, 1) := by decide +kernel
theorem dX4_add_152 : decode cX4_add 152 = .ok (.iastore, 1) := by decide +kernel
theorem dX4_add_153 : decode cX4_add 153 = .ok (.aload_n 0, 1) := by decide +kernel
theorem dX4_add_154 : decode cX4_add 154 = .ok (.dup, 1) := by decide +kernel
theorem dX4_add_155 : decode cX4_add 155 = .ok (.getfield 65, 3) := by decide +kernel
theorem dX4_add_158 : decode cX4_add 158 = .ok (.iconst 1, 1) := by decide +kernel
theorem dX4_add_159 : decode cX4_add 159 = .ok (.iadd, 1) := by decide +kernel
theorem dX4_add_160 : decode cX4_add 160 = .ok (.putfield 65, 3) := by decide +kernel
theorem dX4_add_163 : decode cX4_add 163 = .ok (.return_, 1) := by decide +kernel
theorem dX4_isOnItsWay_0 : decode cX4_isOnItsWay 0 = .ok (.aload_n 0, 1) := by decide +kernel
theorem dX4_isOnItsWay_1 : decode cX4_isOnItsWay 1 = .ok (.getfield 24, 3) := by decide +kernel
theorem dX4_isOnItsWay_4 : decode cX4_isOnItsWay 4 = .ok (.iload_n 1, 1) := by decide +kernel
theorem dX4_isOnItsWay_5 : decode cX4_isOnItsWay 5 = .ok (.iaload, 1) := by decide +kernel
theorem dX4_isOnItsWay_6 : decode cX4_isOnItsWay 6 = .ok (.ifCond .eq 24, 3) := by decide +kernel
theorem dX4_isOnItsWay_9 : decode cX4_isOnItsWay 9 = .ok (.aload_n 0, 1) := by decide +kernel
theorem dX4_isOnItsWay_10 : decode cX4_isOnItsWay 10 = .ok (.getfield 24, 3) := by decide +kernel
theorem dX4_isOnItsWay_13 : decode cX4_isOnItsWay 13 = .ok (.iload_n 1, 1) := by decide +kernel
theorem dX4_isOnItsWay_14 : decode cX4_isOnItsWay 14 = .ok (.iaload, 1) := by decide +kernel
theorem dX4_isOnItsWay_15 : decode cX4_isOnItsWay 15 = .ok (.iconst 1, 1) := by decide +kernel
theorem dX4_isOnItsWay_16 : decode cX4_isOnItsWay 16 = .ok (.if_icmp .eq 14, 3) := by decide +kernel
theorem dX4_isOnItsWay_19 : decode cX4_isOnItsWay 19 = .ok (.aload_n 0, 1) := by decide +kernel
theorem dX4_isOnItsWay_20 : decode cX4_isOnItsWay 20 = .ok (.getfield 24, 3) := by decide +kernel
theorem dX4_isOnItsWay_23 : decode cX4_isOnItsWay 23 = .ok (.iload_n 1, 1) := by decide +kernel
theorem dX4_isOnItsWay_24 : decode cX4_isOnItsWay 24 = .ok (.iaload, 1) := by decide +kernel
theorem dX4_isOnItsWay_25 : decode cX4_isOnItsWay 25 = .ok (.bipush 7, 2) := by decide +kernel
theorem dX4_isOnItsWay_27 : decode cX4_isOnItsWay 27 = .ok (.if_icmp .ne 7, 3) := by decide +kernel
theorem dX4_isOnItsWay_30 : decode cX4_isOnItsWay 30 = .ok (.iconst 1, 1) := by decide +kernel
theorem dX4_isOnItsWay_31 : decode cX4_isOnItsWay 31 = .ok (.goto 4, 3) := by decide +kernel
theorem dX4_isOnItsWay_34 : decode cX4_isOnItsWay 34 = .ok (.iconst 0, 1) := by decide +kernel
theorem dX4_isOnItsWay_35 : decode cX4_isOnItsWay 35 = .ok (.ireturn, 1) := by decide +kernel
theorem dX4_countWith_0 : decode cX4_countWith 0 = .ok (.iconst 0, 1) := by decide +kernel
theorem dX4_countWith_1 : decode cX4_countWith 1 = .ok (.istore_n 2, 1) := by decide +kernel
theorem dX4_countWith_2 : decode cX4_countWith 2 = .ok (.iconst 0, 1) := by decide +kernel
theorem dX4_countWith_3 : decode cX4_countWith 3 = .ok (.istore_n 3, 1) := by decide +kernel
theorem dX4_countWith_4 : decode cX4_countWith 4 = .ok (.iload_n 3, 1) := by decide +kernel
theorem dX4_countWith_5 : decode cX4_countWith 5 = .ok (.aload_n 0, 1) := by decide +kernel
theorem dX4_countWith_6 : decode cX4_countWith 6 = .ok (.getfield 65, 3) := by decide +kernel
theorem dX4_countWith_9 : decode cX4_countWith 9 = .ok (.if_icmp .ge 27, 3) := by decide +kernel
theorem dX4_countWith_12 : decode cX4_countWith 12 = .ok (.iload_n 2, 1) := by decide +kernel
theorem dX4_countWith_13 : decode cX4_countWith 13 = .ok (.aload_n 0, 1) := by decide +kernel
theorem dX4_countWith_14 : decode cX4_countWith 14 = .ok (.getfield 24, 3) := by decide +kernel
theorem dX4_countWith_17 : decode cX4_countWith 17 = .ok (.iload_n 3, 1) := by decide +kernel
theorem dX4_countWith_18 : decode cX4_countWith 18 = .ok (.iaload, 1) := by decide +kernel
theorem dX4_countWith_19 : decode cX4_countWith 19 = .ok (.iload_n 1, 1) := by decide +kernel
theorem dX4_countWith_20 : decode cX4_countWith 20 = .ok (.if_icmp .ne 7, 3) := by decide +kernel
theorem dX4_countWith_23 : decode cX4_countWith 23 = .ok (.iconst 1, 1) := by decide +kernel
theorem dX4_countWith_24 : decode cX4_countWith 24 = .ok (.goto 4, 3) := by decide +kernel
theorem dX4_countWith_27 : decode cX4_countWith 27 = .ok (.iconst 0, 1) := by decide +kernel
theorem dX4_countWith_28 : decode cX4_countWith 28 = .ok (.iadd, 1) := by decide +kernel
theorem dX4_countWith_29 : decode cX4_countWith 29 = .ok (.istore_n 2, 1) := by decide +kernel
theorem dX4_countWith_30 : decode cX4_countWith 30 = .ok (.iinc 3 1, 3) := by decide +kernel
theorem dX4_countWith_33 : decode cX4_countWith 33 = .ok (.goto (-29), 3) := by decide +kernel
theorem dX4_countWith_36 : decode cX4_countWith 36 = .ok (.iload_n 2, 1) := by decide +kernel
theorem dX4_countWith_37 : decode cX4_countWith 37 = .ok (.ireturn, 1) := by decide +kernel
theorem dX4_total_0 : decode cX4_total 0 = .ok (.lconst 0, 1) := by decide +kernel
theorem dX4_total_1 : decode cX4_total 1 = .ok (.lstore_n 2, 1) := by decide +kernel
theorem dX4_total_2 : decode cX4_total 2 = .ok (.iconst 0, 1) := by decide +kernel
theorem dX4_total_3 : decode cX4_total 3 = .ok (.istore 4, 2) := by decide +kernel
theorem dX4_total_5 : decode cX4_total 5 = .ok (.iload 4, 2) := by decide +kernel
theorem dX4_total_7 : decode cX4_total 7 = .ok (.aload_n 0, 1) := by decide +kernel
theorem dX4_total_8 : decode cX4_total 8 = .ok (.getfield 65, 3) := by decide +kernel
theorem dX4_total_11 : decode cX4_total 11 = .ok (.if_icmp .ge 17, 3) := by decide +kernel
theorem dX4_total_14 : decode cX4_total 14 = .ok (.lload_n 2, 1) := by decide +kernel
theorem dX4_total_15 : decode cX4_total 15 = .ok (.aload_n 1, 1) := by decide +kernel
theorem dX4_total_16 : decode cX4_total 16 = .ok (.iload 4, 2) := by decide +kernel
theorem dX4_total_18 : decode cX4_total 18 = .ok (.iaload, 1) := by decide +kernel
theorem dX4_total_19 : decode cX4_total 19 = .ok (.i2l, 1) := by decide +kernel
theorem dX4_total_20 : decode cX4_total 20 = .ok (.ladd, 1) := by decide +kernel
theorem dX4_total_21 : decode cX4_total 21 = .ok (.lstore_n 2, 1) := by decide +kernel
theorem dX4_total_22 : decode cX4_total 22 = .ok (.iinc 4 1, 3) := by decide +kernel
theorem dX4_total_25 : decode cX4_total 25 = .ok (.goto (-20), 3) := by decide +kernel
theorem dX4_total_28 : decode cX4_total 28 = .ok (.lload_n 2, 1) := by decide +kernel
theorem dX4_total_29 : decode cX4_total 29 = .ok (.lreturn, 1) := by decide +kernel
theorem dX4_value_0 : decode cX4_value 0 = .ok (.iload_n 2, 1) := by decide +kernel
theorem dX4_value_1 : decode cX4_value 1 = .ok (.tableswitch 147 0 11 #[63, 70, 77, 84, 91, 98, 105, 112, 119, 126, 133, 140], 63) := by decide +kernel
theorem dX4_value_64 : decode cX4_value 64 = .ok (.aload_n 0, 1) := by decide +kernel
theorem dX4_value_65 : decode cX4_value 65 = .ok (.getfield 9, 3) := by decide +kernel
theorem dX4_value_68 : decode cX4_value 68 = .ok (.iload_n 1, 1) := by decide +kernel
theorem dX4_value_69 : decode cX4_value 69 = .ok (.iaload, 1) := by decide +kernel
theorem dX4_value_70 : decode cX4_value 70 = .ok (.ireturn, 1) := by decide +kernel
theorem dX4_value_71 : decode cX4_value 71 = .ok (.aload_n 0, 1) := by decide +kernel
theorem dX4_value_72 : decode cX4_value 72 = .ok (.getfield 15, 3) := by decide +kernel
theorem dX4_value_75 : decode cX4_value 75 = .ok (.iload_n 1, 1) := by decide +kernel
theorem dX4_value_76 : decode cX4_value 76 = .ok (.iaload, 1) := by decide +kernel
theorem dX4_value_77 : decode cX4_value 77 = .ok (.ireturn, 1) := by decide +kernel
theorem dX4_value_78 : decode cX4_value 78 = .ok (.aload_n 0, 1) := by decide +kernel
theorem dX4_value_79 : decode cX4_value 79 = .ok (.getfield 18, 3) := by decide +kernel
theorem dX4_value_82 : decode cX4_value 82 = .ok (.iload_n 1, 1) := by decide +kernel
theorem dX4_value_83 : decode cX4_value 83 = .ok (.iaload, 1) := by decide +kernel
theorem dX4_value_84 : decode cX4_value 84 = .ok (.ireturn, 1) := by decide +kernel
theorem dX4_value_85 : decode cX4_value 85 = .ok (.aload_n 0, 1) := by decide +kernel
theorem dX4_value_86 : decode cX4_value 86 = .ok (.getfield 21, 3) := by decide +kernel
theorem dX4_value_89 : decode cX4_value 89 = .ok (.iload_n 1, 1) := by decide +kernel
theorem dX4_value_90 : decode cX4_value 90 = .ok (.iaload, 1) := by decide +kernel
theorem dX4_value_91 : decode cX4_value 91 = .ok (.ireturn, 1) := by decide +kernel
theorem dX4_value_92 : decode cX4_value 92 = .ok (.aload_n 0, 1) := by decide +kernel
theorem dX4_value_93 : decode cX4_value 93 = .ok (.getfield 24, 3) := by decide +kernel
theorem dX4_value_96 : decode cX4_value 96 = .ok (.iload_n 1, 1) := by decide +kernel
theorem dX4_value_97 : decode cX4_value 97 = .ok (.iaload, 1) := by decide +kernel
theorem dX4_value_98 : decode cX4_value 98 = .ok (.ireturn, 1) := by decide +kernel
theorem dX4_value_99 : decode cX4_value 99 = .ok (.aload_n 0, 1) := by decide +kernel
theorem dX4_value_100 : decode cX4_value 100 = .ok (.getfield 27, 3) := by decide +kernel
theorem dX4_value_103 : decode cX4_value 103 = .ok (.iload_n 1, 1) := by decide +kernel
theorem dX4_value_104 : decode cX4_value 104 = .ok (.iaload, 1) := by decide +kernel
theorem dX4_value_105 : decode cX4_value 105 = .ok (.ireturn, 1) := by decide +kernel
theorem dX4_value_106 : decode cX4_value 106 = .ok (.aload_n 0, 1) := by decide +kernel
theorem dX4_value_107 : decode cX4_value 107 = .ok (.getfield 30, 3) := by decide +kernel
theorem dX4_value_110 : decode cX4_value 110 = .ok (.iload_n 1, 1) := by decide +kernel
theorem dX4_value_111 : decode cX4_value 111 = .ok (.iaload, 1) := by decide +kernel
theorem dX4_value_112 : decode cX4_value 112 = .ok (.ireturn, 1) := by decide +kernel
theorem dX4_value_113 : decode cX4_value 113 = .ok (.aload_n 0, 1) := by decide +kernel
theorem dX4_value_114 : decode cX4_value 114 = .ok (.getfield 33, 3) := by decide +kernel
theorem dX4_value_117 : decode cX4_value 117 = .ok (.iload_n 1, 1) := by decide +kernel
theorem dX4_value_118 : decode cX4_value 118 = .ok (.iaload, 1) := by decide +kernel
theorem dX4_value_119 : decode cX4_value 119 = .ok (.ireturn, 1) := by decide +kernel
theorem dX4_value_120 : decode cX4_value 120 = .ok (.aload_n 0, 1) := by decide +kernel
theorem dX4_value_121 : decode cX4_value 121 = .ok (.getfield 36, 3) := by decide +kernel
theorem dX4_value_124 : decode cX4_value 124 = .ok (.iload_n 1, 1) := by decide +kernel
theorem dX4_value_125 : decode cX4_value 125 = .ok (.iaload, 1) := by decide +kernel
theorem dX4_value_126 : decode cX4_value 126 = .ok (.ireturn, 1) := by decide +kernel
theorem dX4_value_127 : decode cX4_value 127 = .ok (.aload_n 0, 1) := by decide +kernel
theorem dX4_value_128 : decode cX4_value 128 = .ok (.getfield 39, 3) := by decide +kernel
theorem dX4_value_131 : decode cX4_value 131 = .ok (.iload_n 1, 1) := by decide +kernel
theorem dX4_value_132 : decode cX4_value 132 = .ok (.iaload, 1) := by decide +kernel
theorem dX4_value_133 : decode cX4_value 133 = .ok (.ireturn, 1) := by decide +kernel
theorem dX4_value_134 : decode cX4_value 134 = .ok (.aload_n 0, 1) := by decide +kernel
theorem dX4_value_135 : decode cX4_value 135 = .ok (.getfield 42, 3) := by decide +kernel
theorem dX4_value_138 : decode cX4_value 138 = .ok (.iload_n 1, 1) := by decide +kernel
theorem dX4_value_139 : decode cX4_value 139 = .ok (.iaload, 1) := by decide +kernel
theorem dX4_value_140 : decode cX4_value 140 = .ok (.ireturn, 1) := by decide +kernel
theorem dX4_value_141 : decode cX4_value 141 = .ok (.aload_n 0, 1) := by decide +kernel
theorem dX4_value_142 : decode cX4_value 142 = .ok (.getfield 45, 3) := by decide +kernel
theorem dX4_value_145 : decode cX4_value 145 = .ok (.iload_n 1, 1) := by decide +kernel
theorem dX4_value_146 : decode cX4_value 146 = .ok (.iaload, 1) := by decide +kernel
theorem dX4_value_147 : decode cX4_value 147 = .ok (.ireturn, 1) := by decide +kernel
theorem dX4_value_148 : decode cX4_value 148 = .ok (.aload_n 0, 1) := by decide +kernel
theorem dX4_value_149 : decode cX4_value 149 = .ok (.getfield 48, 3) := by decide +kernel
theorem dX4_value_152 : decode cX4_value 152 = .ok (.iload_n 1, 1) := by decide +kernel
theorem dX4_value_153 : decode cX4_value 153 = .ok (.iaload, 1) := by decide +kernel
theorem dX4_value_154 : decode cX4_value 154 = .ok (.ireturn, 1) := by decide +kernel
theorem dX4_copyFrom_0 : decode cX4_copyFrom 0 = .ok (.aload_n 0, 1) := by decide +kernel
theorem dX4_copyFrom_1 : decode cX4_copyFrom 1 = .ok (.aload_n 1, 1) := by decide +kernel
theorem dX4_copyFrom_2 : decode cX4_copyFrom 2 = .ok (.getfield 65, 3) := by decide +kernel
theorem dX4_copyFrom_5 : decode cX4_copyFrom 5 = .ok (.putfield 65, 3) := by decide +kernel
theorem dX4_copyFrom_8 : decode cX4_copyFrom 8 = .ok (.aload_n 1, 1) := by decide +kernel
theorem dX4_copyFrom_9 : decode cX4_copyFrom 9 = .ok (.getfield 9, 3) := by decide +kernel
theorem dX4_copyFrom_12 : decode cX4_copyFrom 12 = .ok (.iconst 0, 1) := by decide +kernel
theorem dX4_copyFrom_13 : decode cX4_copyFrom 13 = .ok (.aload_n 0, 1) := by decide +kernel
theorem dX4_copyFrom_14 : decode cX4_copyFrom 14 = .ok (.getfield 9, 3) := by decide +kernel
theorem dX4_copyFrom_17 : decode cX4_copyFrom 17 = .ok (.iconst 0, 1) := by decide +kernel
theorem dX4_copyFrom_18 : decode cX4_copyFrom 18 = .ok (.aload_n 0, 1) := by decide +kernel
theorem dX4_copyFrom_19 : decode cX4_copyFrom 19 = .ok (.getfield 65, 3) := by decide +kernel
theorem dX4_copyFrom_22 : decode cX4_copyFrom 22 = .ok (.invokestatic 69, 3) := by decide +kernel
theorem dX4_copyFrom_25 : decode cX4_copyFrom 25 = .ok (.aload_n 1, 1) := by decide +kernel
theorem dX4_copyFrom_26 : decode cX4_copyFrom 26 = .ok (.getfield 15, 3) := by decide +kernel
theorem dX4_copyFrom_29 : decode cX4_copyFrom 29 = .ok (.iconst 0, 1) := by decide +kernel
theorem dX4_copyFrom_30 : decode cX4_copyFrom 30 = .ok (.aload_n 0, 1) := by decide +kernel
theorem dX4_copyFrom_31 : decode cX4_copyFrom 31 = .ok (.getfield 15, 3) := by decide +kernel
theorem dX4_copyFrom_34 : decode cX4_copyFrom 34 = .ok (.iconst 0, 1) := by decide +kernel
theorem dX4_copyFrom_35 : decode cX4_copyFrom 35 = .ok (.aload_n 0, 1) := by decide +kernel
theorem dX4_copyFrom_36 : decode cX4_copyFrom 36 = .ok (.getfield 65, 3) := by decide +kernel
theorem dX4_copyFrom_39 : decode cX4_copyFrom 39 = .ok (.invokestatic 69, 3) := by decide +kernel
theorem dX4_copyFrom_42 : decode cX4_copyFrom 42 = .ok (.aload_n 1, 1) := by decide +kernel
theorem dX4_copyFrom_43 : decode cX4_copyFrom 43 = .ok (.getfield 18, 3) := by decide +kernel
theorem dX4_copyFrom_46 : decode cX4_copyFrom 46 = .ok (.iconst 0, 1) := by decide +kernel
theorem dX4_copyFrom_47 : decode cX4_copyFrom 47 = .ok (.aload_n 0, 1) := by decide +kernel
theorem dX4_copyFrom_48 : decode cX4_copyFrom 48 = .ok (.getfield 18, 3) := by decide +kernel
theorem dX4_copyFrom_51 : decode cX4_copyFrom 51 = .ok (.iconst 0, 1) := by decide +kernel
theorem dX4_copyFrom_52 : decode cX4_copyFrom 52 = .ok (.aload_n 0, 1) := by decide +kernel
theorem dX4_copyFrom_53 : decode cX4_copyFrom 53 = .ok (.getfield 65, 3) := by decide +kernel
theorem dX4_copyFrom_56 : decode cX4_copyFrom 56 = .ok (.invokestatic 69, 3) := by decide +kernel
theorem dX4_copyFrom_59 : decode cX4_copyFrom 59 = .ok (.aload_n 1, 1) := by decide +kernel
theorem dX4_copyFrom_60 : decode cX4_copyFrom 60 = .ok (.getfield 21, 3) := by decide +kernel
theorem dX4_copyFrom_63 : decode cX4_copyFrom 63 = .ok (.iconst 0, 1) := by decide +kernel
theorem dX4_copyFrom_64 : decode cX4_copyFrom 64 = .ok (.aload_n 0, 1) := by decide +kernel
theorem dX4_copyFrom_65 : decode cX4_copyFrom 65 = .ok (.getfield 21, 3) := by decide +kernel
theorem dX4_copyFrom_68 : decode cX4_copyFrom 68 = .ok (.iconst 0, 1) := by decide +kernel
theorem dX4_copyFrom_69 : decode cX4_copyFrom 69 = .ok (.aload_n 0, 1) := by decide +kernel
theorem dX4_copyFrom_70 : decode cX4_copyFrom 70 = .ok (.getfield 65, 3) := by decide +kernel
theorem dX4_copyFrom_73 : decode cX4_copyFrom 73 = .ok (.invokestatic 69, 3) := by decide +kernel
theorem dX4_copyFrom_76 : decode cX4_copyFrom 76 = .ok (.aload_n 1, 1) := by decide +kernel
theorem dX4_copyFrom_77 : decode cX4_copyFrom 77 = .ok (.getfield 24, 3) := by decide +kernel
theorem dX4_copyFrom_80 : decode cX4_copyFrom 80 = .ok (.iconst 0, 1) := by decide +kernel
theorem dX4_copyFrom_81 : decode cX4_copyFrom 81 = .ok (.aload_n 0, 1) := by decide +kernel
theorem dX4_copyFrom_82 : decode cX4_copyFrom 82 = .ok (.getfield 24, 3) := by decide +kernel
theorem dX4_copyFrom_85 : decode cX4_copyFrom 85 = .ok (.iconst 0, 1) := by decide +kernel
theorem dX4_copyFrom_86 : decode cX4_copyFrom 86 = .ok (.aload_n 0, 1) := by decide +kernel
theorem dX4_copyFrom_87 : decode cX4_copyFrom 87 = .ok (.getfield 65, 3) := by decide +kernel
theorem dX4_copyFrom_90 : decode cX4_copyFrom 90 = .ok (.invokestatic 69, 3) := by decide +kernel
theorem dX4_copyFrom_93 : decode cX4_copyFrom 93 = .ok (.aload_n 1, 1) := by decide +kernel
theorem dX4_copyFrom_94 : decode cX4_copyFrom 94 = .ok (.getfield 27, 3) := by decide +kernel
theorem dX4_copyFrom_97 : decode cX4_copyFrom 97 = .ok (.iconst 0, 1) := by decide +kernel
theorem dX4_copyFrom_98 : decode cX4_copyFrom 98 = .ok (.aload_n 0, 1) := by decide +kernel
theorem dX4_copyFrom_99 : decode cX4_copyFrom 99 = .ok (.getfield 27, 3) := by decide +kernel
theorem dX4_copyFrom_102 : decode cX4_copyFrom 102 = .ok (.iconst 0, 1) := by decide +kernel
theorem dX4_copyFrom_103 : decode cX4_copyFrom 103 = .ok (.aload_n 0, 1) := by decide +kernel
theorem dX4_copyFrom_104 : decode cX4_copyFrom 104 = .ok (.getfield 65, 3) := by decide +kernel
theorem dX4_copyFrom_107 : decode cX4_copyFrom 107 = .ok (.invokestatic 69, 3) := by decide +kernel
theorem dX4_copyFrom_110 : decode cX4_copyFrom 110 = .ok (.aload_n 1, 1) := by decide +kernel
theorem dX4_copyFrom_111 : decode cX4_copyFrom 111 = .ok (.getfield 30, 3) := by decide +kernel
theorem dX4_copyFrom_114 : decode cX4_copyFrom 114 = .ok (.iconst 0, 1) := by decide +kernel
theorem dX4_copyFrom_115 : decode cX4_copyFrom 115 = .ok (.aload_n 0, 1) := by decide +kernel
theorem dX4_copyFrom_116 : decode cX4_copyFrom 116 = .ok (.getfield 30, 3) := by decide +kernel
theorem dX4_copyFrom_119 : decode cX4_copyFrom 119 = .ok (.iconst 0, 1) := by decide +kernel
theorem dX4_copyFrom_120 : decode cX4_copyFrom 120 = .ok (.aload_n 0, 1) := by decide +kernel
theorem dX4_copyFrom_121 : decode cX4_copyFrom 121 = .ok (.getfield 65, 3) := by decide +kernel
theorem dX4_copyFrom_124 : decode cX4_copyFrom 124 = .ok (.invokestatic 69, 3) := by decide +kernel
theorem dX4_copyFrom_127 : decode cX4_copyFrom 127 = .ok (.aload_n 1, 1) := by decide +kernel
theorem dX4_copyFrom_128 : decode cX4_copyFrom 128 = .ok (.getfield 33, 3) := by decide +kernel
theorem dX4_copyFrom_131 : decode cX4_copyFrom 131 = .ok (.iconst 0, 1) := by decide +kernel
theorem dX4_copyFrom_132 : decode cX4_copyFrom 132 = .ok (.aload_n 0, 1) := by decide +kernel
theorem dX4_copyFrom_133 : decode cX4_copyFrom 133 = .ok (.getfield 33, 3) := by decide +kernel
theorem dX4_copyFrom_136 : decode cX4_copyFrom 136 = .ok (.iconst 0, 1) := by decide +kernel
theorem dX4_copyFrom_137 : decode cX4_copyFrom 137 = .ok (.aload_n 0, 1) := by decide +kernel
theorem dX4_copyFrom_138 : decode cX4_copyFrom 138 = .ok (.getfield 65, 3) := by decide +kernel
theorem dX4_copyFrom_141 : decode cX4_copyFrom 141 = .ok (.invokestatic 69, 3) := by decide +kernel
theorem dX4_copyFrom_144 : decode cX4_copyFrom 144 = .ok (.aload_n 1, 1) := by decide +kernel
theorem dX4_copyFrom_145 : decode cX4_copyFrom 145 = .ok (.getfield 36, 3) := by decide +kernel
theorem dX4_copyFrom_148 : decode cX4_copyFrom 148 = .ok (.iconst 0, 1) := by decide +kernel
theorem dX4_copyFrom_149 : decode cX4_copyFrom 149 = .ok (.aload_n 0, 1) := by decide +kernel
theorem dX4_copyFrom_150 : decode cX4_copyFrom 150 = .ok (.getfield 36, 3) := by decide +kernel
theorem dX4_copyFrom_153 : decode cX4_copyFrom 153 = .ok (.iconst 0, 1) := by decide +kernel
theorem dX4_copyFrom_154 : decode cX4_copyFrom 154 = .ok (.aload_n 0, 1) := by decide +kernel
theorem dX4_copyFrom_155 : decode cX4_copyFrom 155 = .ok (.getfield 65, 3) := by decide +kernel
theorem dX4_copyFrom_158 : decode cX4_copyFrom 158 = .ok (.invokestatic 69, 3) := by decide +kernel
theorem dX4_copyFrom_161 : decode cX4_copyFrom 161 = .ok (.aload_n 1, 1) := by decide +kernel
theorem dX4_copyFrom_162 : decode cX4_copyFrom 162 = .ok (.getfield 39, 3) := by decide +kernel
theorem dX4_copyFrom_165 : decode cX4_copyFrom 165 = .ok (.iconst 0, 1) := by decide +kernel
theorem dX4_copyFrom_166 : decode cX4_copyFrom 166 = .ok (.aload_n 0, 1) := by decide +kernel
theorem dX4_copyFrom_167 : decode cX4_copyFrom 167 = .ok (.getfield 39, 3) := by decide +kernel
theorem dX4_copyFrom_170 : decode cX4_copyFrom 170 = .ok (.iconst 0, 1) := by decide +kernel
theorem dX4_copyFrom_171 : decode cX4_copyFrom 171 = .ok (.aload_n 0, 1) := by decide +kernel
theorem dX4_copyFrom_172 : decode cX4_copyFrom 172 = .ok (.getfield 65, 3) := by decide +kernel
theorem dX4_copyFrom_175 : decode cX4_copyFrom 175 = .ok (.invokestatic 69, 3) := by decide +kernel
theorem dX4_copyFrom_178 : decode cX4_copyFrom 178 = .ok (.aload_n 1, 1) := by decide +kernel
theorem dX4_copyFrom_179 : decode cX4_copyFrom 179 = .ok (.getfield 42, 3) := by decide +kernel
theorem dX4_copyFrom_182 : decode cX4_copyFrom 182 = .ok (.iconst 0, 1) := by decide +kernel
theorem dX4_copyFrom_183 : decode cX4_copyFrom 183 = .ok (.aload_n 0, 1) := by decide +kernel
theorem dX4_copyFrom_184 : decode cX4_copyFrom 184 = .ok (.getfield 42, 3) := by decide +kernel
theorem dX4_copyFrom_187 : decode cX4_copyFrom 187 = .ok (.iconst 0, 1) := by decide +kernel
theorem dX4_copyFrom_188 : decode cX4_copyFrom 188 = .ok (.aload_n 0, 1) := by decide +kernel
theorem dX4_copyFrom_189 : decode cX4_copyFrom 189 = .ok (.getfield 65, 3) := by decide +kernel
theorem dX4_copyFrom_192 : decode cX4_copyFrom 192 = .ok (.invokestatic 69, 3) := by decide +kernel
theorem dX4_copyFrom_195 : decode cX4_copyFrom 195 = .ok (.aload_n 1, 1) := by decide +kernel
theorem dX4_copyFrom_196 : decode cX4_copyFrom 196 = .ok (.getfield 45, 3) := by decide +kernel
theorem dX4_copyFrom_199 : decode cX4_copyFrom 199 = .ok (.iconst 0, 1) := by decide +kernel
theorem dX4_copyFrom_200 : decode cX4_copyFrom 200 = .ok (.aload_n 0, 1) := by decide +kernel
theorem dX4_copyFrom_201 : decode cX4_copyFrom 201 = .ok (.getfield 45, 3) := by decide +kernel
theorem dX4_copyFrom_204 : decode cX4_copyFrom 204 = .ok (.iconst 0, 1) := by decide +kernel
theorem dX4_copyFrom_205 : decode cX4_copyFrom 205 = .ok (.aload_n 0, 1) := by decide +kernel
theorem dX4_copyFrom_206 : decode cX4_copyFrom 206 = .ok (.getfield 65, 3) := by decide +kernel
theorem dX4_copyFrom_209 : decode cX4_copyFrom 209 = .ok (.invokestatic 69, 3) := by decide +kernel
theorem dX4_copyFrom_212 : decode cX4_copyFrom 212 = .ok (.aload_n 1, 1) := by decide +kernel
theorem dX4_copyFrom_213 : decode cX4_copyFrom 213 = .ok (.getfield 48, 3) := by decide +kernel
theorem dX4_copyFrom_216 : decode cX4_copyFrom 216 = .ok (.iconst 0, 1) := by decide +kernel
theorem dX4_copyFrom_217 : decode cX4_copyFrom 217 = .ok (.aload_n 0, 1) := by decide +kernel
theorem dX4_copyFrom_218 : decode cX4_copyFrom 218 = .ok (.getfield 48, 3) := by decide +kernel
theorem dX4_copyFrom_221 : decode cX4_copyFrom 221 = .ok (.iconst 0, 1) := by decide +kernel
theorem dX4_copyFrom_222 : decode cX4_copyFrom 222 = .ok (.aload_n 0, 1) := by decide +kernel
theorem dX4_copyFrom_223 : decode cX4_copyFrom 223 = .ok (.getfield 65, 3) := by decide +kernel
theorem dX4_copyFrom_226 : decode cX4_copyFrom 226 = .ok (.invokestatic 69, 3) := by decide +kernel
theorem dX4_copyFrom_229 : decode cX4_copyFrom 229 = .ok (.aload_n 1, 1) := by decide +kernel
theorem dX4_copyFrom_230 : decode cX4_copyFrom 230 = .ok (.getfield 51, 3) := by decide +kernel
theorem dX4_copyFrom_233 : decode cX4_copyFrom 233 = .ok (.iconst 0, 1) := by decide +kernel
theorem dX4_copyFrom_234 : decode cX4_copyFrom 234 = .ok (.aload_n 0, 1) := by decide +kernel
theorem dX4_copyFrom_235 : decode cX4_copyFrom 235 = .ok (.getfield 51, 3) := by decide +kernel
theorem dX4_copyFrom_238 : decode cX4_copyFrom 238 = .ok (.iconst 0, 1) := by decide +kernel
theorem dX4_copyFrom_239 : decode cX4_copyFrom 239 = .ok (.aload_n 0, 1) := by decide +kernel
theorem dX4_copyFrom_240 : decode cX4_copyFrom 240 = .ok (.getfield 65, 3) := by decide +kernel
theorem dX4_copyFrom_243 : decode cX4_copyFrom 243 = .ok (.invokestatic 69, 3) := by decide +kernel
theorem dX4_copyFrom_246 : decode cX4_copyFrom 246 = .ok (.aload_n 1, 1) := by decide +kernel
theorem dX4_copyFrom_247 : decode cX4_copyFrom 247 = .ok (.getfield 54, 3) := by decide +kernel
theorem dX4_copyFrom_250 : decode cX4_copyFrom 250 = .ok (.iconst 0, 1) := by decide +kernel
theorem dX4_copyFrom_251 : decode cX4_copyFrom 251 = .ok (.aload_n 0, 1) := by decide +kernel
theorem dX4_copyFrom_252 : decode cX4_copyFrom 252 = .ok (.getfield 54, 3) := by decide +kernel
theorem dX4_copyFrom_255 : decode cX4_copyFrom 255 = .ok (.iconst 0, 1) := by decide +kernel
theorem dX4_copyFrom_256 : decode cX4_copyFrom 256 = .ok (.aload_n 0, 1) := by decide +kernel
theorem dX4_copyFrom_257 : decode cX4_copyFrom 257 = .ok (.getfield 65, 3) := by decide +kernel
theorem dX4_copyFrom_260 : decode cX4_copyFrom 260 = .ok (.invokestatic 69, 3) := by decide +kernel
theorem dX4_copyFrom_263 : decode cX4_copyFrom 263 = .ok (.iconst 0, 1) := by decide +kernel
theorem dX4_copyFrom_264 : decode cX4_copyFrom 264 = .ok (.istore_n 2, 1) := by decide +kernel
theorem dX4_copyFrom_265 : decode cX4_copyFrom 265 = .ok (.iload_n 2, 1) := by decide +kernel
theorem dX4_copyFrom_266 : decode cX4_copyFrom 266 = .ok (.aload_n 0, 1) := by decide +kernel
theorem dX4_copyFrom_267 : decode cX4_copyFrom 267 = .ok (.getfield 65, 3) := by decide +kernel
theorem dX4_copyFrom_270 : decode cX4_copyFrom 270 = .ok (.if_icmp .ge 47, 3) := by decide +kernel
theorem dX4_copyFrom_273 : decode cX4_copyFrom 273 = .ok (.aload_n 1, 1) := by decide +kernel
theorem dX4_copyFrom_274 : decode cX4_copyFrom 274 = .ok (.getfield 59, 3) := by decide +kernel
theorem dX4_copyFrom_277 : decode cX4_copyFrom 277 = .ok (.iload_n 2, 1) := by decide +kernel
theorem dX4_copyFrom_278 : decode cX4_copyFrom 278 = .ok (.aaload, 1) := by decide +kernel
theorem dX4_copyFrom_279 : decode cX4_copyFrom 279 = .ok (.iconst 0, 1) := by decide +kernel
theorem dX4_copyFrom_280 : decode cX4_copyFrom 280 = .ok (.aload_n 0, 1) := by decide +kernel
theorem dX4_copyFrom_281 : decode cX4_copyFrom 281 = .ok (.getfield 59, 3) := by decide +kernel
theorem dX4_copyFrom_284 : decode cX4_copyFrom 284 = .ok (.iload_n 2, 1) := by decide +kernel
theorem dX4_copyFrom_285 : decode cX4_copyFrom 285 = .ok (.aaload, 1) := by decide +kernel
theorem dX4_copyFrom_286 : decode cX4_copyFrom 286 = .ok (.iconst 0, 1) := by decide +kernel
theorem dX4_copyFrom_287 : decode cX4_copyFrom 287 = .ok (.bipush 11, 2) := by decide +kernel
theorem dX4_copyFrom_289 : decode cX4_copyFrom 289 = .ok (.invokestatic 69, 3) := by decide +kernel
theorem dX4_copyFrom_292 : decode cX4_copyFrom 292 = .ok (.aload_n 1, 1) := by decide +kernel
theorem dX4_copyFrom_293 : decode cX4_copyFrom 293 = .ok (.getfield 62, 3) := by decide +kernel
theorem dX4_copyFrom_296 : decode cX4_copyFrom 296 = .ok (.iload_n 2, 1) := by decide +kernel
theorem dX4_copyFrom_297 : decode cX4_copyFrom 297 = .ok (.aaload, 1) := by decide +kernel
theorem dX4_copyFrom_298 : decode cX4_copyFrom 298 = .ok (.iconst 0, 1) := by decide +kernel
theorem dX4_copyFrom_299 : decode cX4_copyFrom 299 = .ok (.aload_n 0, 1) := by decide +kernel
theorem dX4_copyFrom_300 : decode cX4_copyFrom 300 = .ok (.getfield 62, 3) := by decide +kernel
theorem dX4_copyFrom_303 : decode cX4_copyFrom 303 = .ok (.iload_n 2, 1) := by decide +kernel
theorem dX4_copyFrom_304 : decode cX4_copyFrom 304 = .ok (.aaload, 1) := by decide +kernel
theorem dX4_copyFrom_305 : decode cX4_copyFrom 305 = .ok (.iconst 0, 1) := by decide +kernel
theorem dX4_copyFrom_306 : decode cX4_copyFrom 306 = .ok (.bipush 11, 2) := by decide +kernel
theorem dX4_copyFrom_308 : decode cX4_copyFrom 308 = .ok (.invokestatic 69, 3) := by decide +kernel
theorem dX4_copyFrom_311 : decode cX4_copyFrom 311 = .ok (.iinc 2 1, 3) := by decide +kernel
theorem dX4_copyFrom_314 : decode cX4_copyFrom 314 = .ok (.goto (-49), 3) := by decide +kernel
theorem dX4_copyFrom_317 : decode cX4_copyFrom 317 = .ok (.return_, 1) := by decide +kernel
theorem dX5_init_0 : decode cX5_init 0 = .ok (.aload_n 0, 1) := by decide +kernel
theorem dX5_init_1 : decode cX5_init 1 = .ok (.invokespecial 3, 3) := by decide +kernel
theorem dX5_init_4 : decode cX5_init 4 = .ok (.aload_n 0, 1) := by decide +kernel
theorem dX5_init_5 : decode cX5_init 5 = .ok (.sipush 500, 3) := by decide +kernel
theorem dX5_init_8 : decode cX5_init 8 = .ok (.newarray .int, 2) := by decide +kernel
theorem dX5_init_10 : decode cX5_init 10 = .ok (.putfield 9, 3) := by decide +kernel
theorem dX5_init_13 : decode cX5_init 13 = .ok (.aload_n 0, 1) := by decide +kernel
theorem dX5_init_14 : decode cX5_init 14 = .ok (.sipush 500, 3) := by decide +kernel
theorem dX5_init_17 : decode cX5_init 17 = .ok (.newarray .int, 2) := by decide +kernel
theorem dX5_init_19 : decode cX5_init 19 = .ok (.putfield 15, 3) := by decide +kernel
theorem dX5_init_22 : decode cX5_init 22 = .ok (.aload_n 0, 1) := by decide +kernel
theorem dX5_init_23 : decode cX5_init 23 = .ok (.sipush 500, 3) := by decide +kernel
theorem dX5_init_26 : decode cX5_init 26 = .ok (.newarray .int, 2) := by decide +kernel
theorem dX5_init_28 : decode cX5_init 28 = .ok (.putfield 18, 3) := by decide +kernel
theorem dX5_init_31 : decode cX5_init 31 = .ok (.aload_n 0, 1) := by decide +kernel
theorem dX5_init_32 : decode cX5_init 32 = .ok (.sipush 500, 3) := by decide +kernel
theorem dX5_init_35 : decode cX5_init 35 = .ok (.newarray .int, 2) := by decide +kernel
theorem dX5_init_37 : decode cX5_init 37 = .ok (.putfield 21, 3) := by decide +kernel
theorem dX5_init_40 : decode cX5_init 40 = .ok (.aload_n 0, 1) := by decide +kernel
theorem dX5_init_41 : decode cX5_init 41 = .ok (.sipush 500, 3) := by decide +kernel
theorem dX5_init_44 : decode cX5_init 44 = .ok (.newarray .int, 2) := by decide +kernel
theorem dX5_init_46 : decode cX5_init 46 = .ok (.putfield 24, 3) := by decide +kernel
theorem dX5_init_49 : decode cX5_init 49 = .ok (.aload_n 0, 1) := by decide +kernel
theorem dX5_init_50 : decode cX5_init 50 = .ok (.sipush 500, 3) := by decide +kernel
theorem dX5_init_53 : decode cX5_init 53 = .ok (.newarray .int, 2) := by decide +kernel
theorem dX5_init_55 : decode cX5_init 55 = .ok (.putfield 27, 3) := by decide +kernel
theorem dX5_init_58 : decode cX5_init 58 = .ok (.aload_n 0, 1) := by decide +kernel
theorem dX5_init_59 : decode cX5_init 59 = .ok (.sipush 500, 3) := by decide +kernel
theorem dX5_init_62 : decode cX5_init 62 = .ok (.newarray .int, 2) := by decide +kernel
theorem dX5_init_64 : decode cX5_init 64 = .ok (.putfield 30, 3) := by decide +kernel
theorem dX5_init_67 : decode cX5_init 67 = .ok (.aload_n 0, 1) := by decide +kernel
theorem dX5_init_68 : decode cX5_init 68 = .ok (.sipush 500, 3) := by decide +kernel
theorem dX5_init_71 : decode cX5_init 71 = .ok (.newarray .int, 2) := by decide +kernel
theorem dX5_init_73 : decode cX5_init 73 = .ok (.putfield 33, 3) := by decide +kernel
theorem dX5_init_76 : decode cX5_init 76 = .ok (.aload_n 0, 1) := by decide +kernel
theorem dX5_init_77 : decode cX5_init 77 = .ok (.iconst 0, 1) := by decide +kernel
theorem dX5_init_78 : decode cX5_init 78 = .ok (.putfield 36, 3) := by decide +kernel
theorem dX5_init_81 : decode cX5_init 81 = .ok (.return_, 1) := by decide +kernel
theorem dX5_isFull_0 : decode cX5_isFull 0 = .ok (.aload_n 0, 1) := by decide +kernel
theorem dX5_isFull_1 : decode cX5_isFull 1 = .ok (.getfield 36, 3) := by decide +kernel
theorem dX5_isFull_4 : decode cX5_isFull 4 = .ok (.sipush 500, 3) := by decide +kernel
theorem dX5_isFull_7 : decode cX5_isFull 7 = .ok (.if_icmp .lt 7, 3) := by decide +kernel
theorem dX5_isFull_10 : decode cX5_isFull 10 = .ok (.iconst 1, 1) := by decide +kernel
theorem dX5_isFull_11 : decode cX5_isFull 11 = .ok (.goto 4, 3) := by decide +kernel
theorem dX5_isFull_14 : decode cX5_isFull 14 = .ok (.iconst 0, 1) := by decide +kernel
theorem dX5_isFull_15 : decode cX5_isFull 15 = .ok (.ireturn, 1) := by decide +kernel
theorem dX5_isPromised_0 : decode cX5_isPromised 0 = .ok (.aload_n 0, 1) := by decide +kernel
theorem dX5_isPromised_1 : decode cX5_isPromised 1 = .ok (.getfield 27, 3) := by decide +kernel
theorem dX5_isPromised_4 : decode cX5_isPromised 4 = .ok (.iload_n 1, 1) := by decide +kernel
theorem dX5_isPromised_5 : decode cX5_isPromised 5 = .ok (.iaload, 1) := by decide +kernel
theorem dX5_isPromised_6 : decode cX5_isPromised 6 = .ok (.ifCond .eq 13, 3) := by decide +kernel
theorem dX5_isPromised_9 : decode cX5_isPromised 9 = .ok (.aload_n 0, 1) := by decide +kernel
theorem dX5_isPromised_10 : decode cX5_isPromised 10 = .ok (.getfield 27, 3) := by decide +kernel
theorem dX5_isPromised_13 : decode cX5_isPromised 13 = .ok (.iload_n 1, 1) := by decide +kernel
theorem dX5_isPromised_14 : decode cX5_isPromised 14 = .ok (.iaload, 1) := by decide +kernel
theorem dX5_isPromised_15 : decode cX5_isPromised 15 = .ok (.iconst 1, 1) := by decide +kernel
theorem dX5_isPromised_16 : decode cX5_isPromised 16 = .ok (.if_icmp .ne 7, 3) := by decide +kernel
theorem dX5_isPromised_19 : decode cX5_isPromised 19 = .ok (.iconst 1, 1) := by decide +kernel
theorem dX5_isPromised_20 : decode cX5_isPromised 20 = .ok (.goto 4, 3) := by decide +kernel
theorem dX5_isPromised_23 : decode cX5_isPromised 23 = .ok (.iconst 0, 1) := by decide +kernel
theorem dX5_isPromised_24 : decode cX5_isPromised 24 = .ok (.ireturn, 1) := by decide +kernel
theorem dX5_hasPromiseOn_0 : decode cX5_hasPromiseOn 0 = .ok (.iconst 0, 1) := by decide +kernel
theorem dX5_hasPromiseOn_1 : decode cX5_hasPromiseOn 1 = .ok (.istore_n 3, 1) := by decide +kernel
theorem dX5_hasPromiseOn_2 : decode cX5_hasPromiseOn 2 = .ok (.iload_n 3, 1) := by decide +kernel
theorem dX5_hasPromiseOn_3 : decode cX5_hasPromiseOn 3 = .ok (.aload_n 0, 1) := by decide +kernel
theorem dX5_hasPromiseOn_4 : decode cX5_hasPromiseOn 4 = .ok (.getfield 36, 3) := by decide +kernel
theorem dX5_hasPromiseOn_7 : decode cX5_hasPromiseOn 7 = .ok (.if_icmp .ge 39, 3) := by decide +kernel
theorem dX5_hasPromiseOn_10 : decode cX5_hasPromiseOn 10 = .ok (.aload_n 0, 1) := by decide +kernel
theorem dX5_hasPromiseOn_11 : decode cX5_hasPromiseOn 11 = .ok (.getfield 9, 3) := by decide +kernel
theorem dX5_hasPromiseOn_14 : decode cX5_hasPromiseOn 14 = .ok (.iload_n 3, 1) := by decide +kernel
theorem dX5_hasPromiseOn_15 : decode cX5_hasPromiseOn 15 = .ok (.iaload, 1) := by decide +kernel
theorem dX5_hasPromiseOn_16 : decode cX5_hasPromiseOn 16 = .ok (.iload_n 1, 1) := by decide +kernel
theorem dX5_hasPromiseOn_17 : decode cX5_hasPromiseOn 17 = .ok (.if_icmp .ne 23, 3) := by decide +kernel
theorem dX5_hasPromiseOn_20 : decode cX5_hasPromiseOn 20 = .ok (.aload_n 0, 1) := by decide +kernel
theorem dX5_hasPromiseOn_21 : decode cX5_hasPromiseOn 21 = .ok (.getfield 15, 3) := by decide +kernel
theorem dX5_hasPromiseOn_24 : decode cX5_hasPromiseOn 24 = .ok (.iload_n 3, 1) := by decide +kernel
theorem dX5_hasPromiseOn_25 : decode cX5_hasPromiseOn 25 = .ok (.iaload, 1) := by decide +kernel
theorem dX5_hasPromiseOn_26 : decode cX5_hasPromiseOn 26 = .ok (.iload_n 2, 1) := by decide +kernel
theorem dX5_hasPromiseOn_27 : decode cX5_hasPromiseOn 27 = .ok (.if_icmp .ne 13, 3) := by decide +kernel
theorem dX5_hasPromiseOn_30 : decode cX5_hasPromiseOn 30 = .ok (.aload_n 0, 1) := by decide +kernel
theorem dX5_hasPromiseOn_31 : decode cX5_hasPromiseOn 31 = .ok (.iload_n 3, 1) := by decide +kernel
theorem dX5_hasPromiseOn_32 : decode cX5_hasPromiseOn 32 = .ok (.invokevirtual 40, 3) := by decide +kernel
theorem dX5_hasPromiseOn_35 : decode cX5_hasPromiseOn 35 = .ok (.ifCond .eq 5, 3) := by decide +kernel
theorem dX5_hasPromiseOn_38 : decode cX5_hasPromiseOn 38 = .ok (.iconst 1, 1) := by decide +kernel
theorem dX5_hasPromiseOn_39 : decode cX5_hasPromiseOn 39 = .ok (.ireturn, 1) := by decide +kernel
theorem dX5_hasPromiseOn_40 : decode cX5_hasPromiseOn 40 = .ok (.iinc 3 1, 3) := by decide +kernel
theorem dX5_hasPromiseOn_43 : decode cX5_hasPromiseOn 43 = .ok (.goto (-41), 3) := by decide +kernel
theorem dX5_hasPromiseOn_46 : decode cX5_hasPromiseOn 46 = .ok (.iconst 0, 1) := by decide +kernel
theorem dX5_hasPromiseOn_47 : decode cX5_hasPromiseOn 47 = .ok (.ireturn, 1) := by decide +kernel
theorem dX5_promisedOn_0 : decode cX5_promisedOn 0 = .ok (.iconst 0, 1) := by decide +kernel
theorem dX5_promisedOn_1 : decode cX5_promisedOn 1 = .ok (.istore_n 3, 1) := by decide +kernel
theorem dX5_promisedOn_2 : decode cX5_promisedOn 2 = .ok (.iconst 0, 1) := by decide +kernel
theorem dX5_promisedOn_3 : decode cX5_promisedOn 3 = .ok (.istore 4, 2) := by decide +kernel
theorem dX5_promisedOn_5 : decode cX5_promisedOn 5 = .ok (.iload 4, 2) := by decide +kernel
theorem dX5_promisedOn_7 : decode cX5_promisedOn 7 = .ok (.aload_n 0, 1) := by decide +kernel
theorem dX5_promisedOn_8 : decode cX5_promisedOn 8 = .ok (.getfield 36, 3) := by decide +kernel
theorem dX5_promisedOn_11 : decode cX5_promisedOn 11 = .ok (.if_icmp .ge 40, 3) := by decide +kernel
theorem dX5_promisedOn_14 : decode cX5_promisedOn 14 = .ok (.aload_n 0, 1) := by decide +kernel
theorem dX5_promisedOn_15 : decode cX5_promisedOn 15 = .ok (.getfield 15, 3) := by decide +kernel
theorem dX5_promisedOn_18 : decode cX5_promisedOn 18 = .ok (.iload 4, 2) := by decide +kernel
theorem dX5_promisedOn_20 : decode cX5_promisedOn 20 = .ok (.iaload, 1) := by decide +kernel
theorem dX5_promisedOn_21 : decode cX5_promisedOn 21 = .ok (.iload_n 1, 1) := by decide +kernel
theorem dX5_promisedOn_22 : decode cX5_promisedOn 22 = .ok (.if_icmp .ne 23, 3) := by decide +kernel
theorem dX5_promisedOn_25 : decode cX5_promisedOn 25 = .ok (.aload_n 0, 1) := by decide +kernel
theorem dX5_promisedOn_26 : decode cX5_promisedOn 26 = .ok (.iload 4, 2) := by decide +kernel
theorem dX5_promisedOn_28 : decode cX5_promisedOn 28 = .ok (.invokevirtual 40, 3) := by decide +kernel
theorem dX5_promisedOn_31 : decode cX5_promisedOn 31 = .ok (.ifCond .eq 14, 3) := by decide +kernel
theorem dX5_promisedOn_34 : decode cX5_promisedOn 34 = .ok (.iload_n 3, 1) := by decide +kernel
theorem dX5_promisedOn_35 : decode cX5_promisedOn 35 = .ok (.iload_n 2, 1) := by decide +kernel
theorem dX5_promisedOn_36 : decode cX5_promisedOn 36 = .ok (.if_icmp .ne 6, 3) := by decide +kernel
theorem dX5_promisedOn_39 : decode cX5_promisedOn 39 = .ok (.iload 4, 2) := by decide +kernel
theorem dX5_promisedOn_41 : decode cX5_promisedOn 41 = .ok (.ireturn, 1) := by decide +kernel
theorem dX5_promisedOn_42 : decode cX5_promisedOn 42 = .ok (.iinc 3 1, 3) := by decide +kernel
theorem dX5_promisedOn_45 : decode cX5_promisedOn 45 = .ok (.iinc 4 1, 3) := by decide +kernel
theorem dX5_promisedOn_48 : decode cX5_promisedOn 48 = .ok (.goto (-43), 3) := by decide +kernel
theorem dX5_promisedOn_51 : decode cX5_promisedOn 51 = .ok (.iconst (-1), 1) := by decide +kernel
theorem dX5_promisedOn_52 : decode cX5_promisedOn 52 = .ok (.ireturn, 1) := by decide +kernel
theorem dX5_firstExpiry_0 : decode cX5_firstExpiry 0 = .ok (.iconst (-1), 1) := by decide +kernel
theorem dX5_firstExpiry_1 : decode cX5_firstExpiry 1 = .ok (.istore_n 1, 1) := by decide +kernel
theorem dX5_firstExpiry_2 : decode cX5_firstExpiry 2 = .ok (.iconst 0, 1) := by decide +kernel
theorem dX5_firstExpiry_3 : decode cX5_firstExpiry 3 = .ok (.istore_n 2, 1) := by decide +kernel
theorem dX5_firstExpiry_4 : decode cX5_firstExpiry 4 = .ok (.iload_n 2, 1) := by decide +kernel
theorem dX5_firstExpiry_5 : decode cX5_firstExpiry 5 = .ok (.aload_n 0, 1) := by decide +kernel
theorem dX5_firstExpiry_6 : decode cX5_firstExpiry 6 = .ok (.getfield 36, 3) := by decide +kernel
theorem dX5_firstExpiry_9 : decode cX5_firstExpiry 9 = .ok (.if_icmp .ge 40, 3) := by decide +kernel
theorem dX5_firstExpiry_12 : decode cX5_firstExpiry 12 = .ok (.aload_n 0, 1) := by decide +kernel
theorem dX5_firstExpiry_13 : decode cX5_firstExpiry 13 = .ok (.getfield 27, 3) := by decide +kernel
theorem dX5_firstExpiry_16 : decode cX5_firstExpiry 16 = .ok (.iload_n 2, 1) := by decide +kernel
theorem dX5_firstExpiry_17 : decode cX5_firstExpiry 17 = .ok (.iaload, 1) := by decide +kernel
theorem dX5_firstExpiry_18 : decode cX5_firstExpiry 18 = .ok (.ifCond .ne 25, 3) := by decide +kernel
theorem dX5_firstExpiry_21 : decode cX5_firstExpiry 21 = .ok (.iload_n 1, 1) := by decide +kernel
theorem dX5_firstExpiry_22 : decode cX5_firstExpiry 22 = .ok (.iconst (-1), 1) := by decide +kernel
theorem dX5_firstExpiry_23 : decode cX5_firstExpiry 23 = .ok (.if_icmp .eq 13, 3) := by decide +kernel
theorem dX5_firstExpiry_26 : decode cX5_firstExpiry 26 = .ok (.aload_n 0, 1) := by decide +kernel
theorem dX5_firstExpiry_27 : decode cX5_firstExpiry 27 = .ok (.getfield 24, 3) := by decide +kernel
theorem dX5_firstExpiry_30 : decode cX5_firstExpiry 30 = .ok (.iload_n 2, 1) := by decide +kernel
theorem dX5_firstExpiry_31 : decode cX5_firstExpiry 31 = .ok (.iaload, 1) := by decide +kernel
theorem dX5_firstExpiry_32 : decode cX5_firstExpiry 32 = .ok (.iload_n 1, 1) := by decide +kernel
theorem dX5_firstExpiry_33 : decode cX5_firstExpiry 33 = .ok (.if_icmp .ge 10, 3) := by decide +kernel
theorem dX5_firstExpiry_36 : decode cX5_firstExpiry 36 = .ok (.aload_n 0, 1) := by decide +kernel
theorem dX5_firstExpiry_37 : decode cX5_firstExpiry 37 = .ok (.getfield 24, 3) := by decide +kernel
theorem dX5_firstExpiry_40 : decode cX5_firstExpiry 40 = .ok (.iload_n 2, 1) := by decide +kernel
theorem dX5_firstExpiry_41 : decode cX5_firstExpiry 41 = .ok (.iaload, 1) := by decide +kernel
theorem dX5_firstExpiry_42 : decode cX5_firstExpiry 42 = .ok (.istore_n 1, 1) := by decide +kernel
theorem dX5_firstExpiry_43 : decode cX5_firstExpiry 43 = .ok (.iinc 2 1, 3) := by decide +kernel
theorem dX5_firstExpiry_46 : decode cX5_firstExpiry 46 = .ok (.goto (-42), 3) := by decide +kernel
theorem dX5_firstExpiry_49 : decode cX5_firstExpiry 49 = .ok (.iload_n 1, 1) := by decide +kernel
theorem dX5_firstExpiry_50 : decode cX5_firstExpiry 50 = .ok (.ireturn, 1) := by decide +kernel
theorem dX5_postpone_0 : decode cX5_postpone 0 = .ok (.iconst 0, 1) := by decide +kernel
theorem dX5_postpone_1 : decode cX5_postpone 1 = .ok (.istore_n 3, 1) := by decide +kernel
theorem dX5_postpone_2 : decode cX5_postpone 2 = .ok (.iconst 0, 1) := by decide +kernel
theorem dX5_postpone_3 : decode cX5_postpone 3 = .ok (.istore 4, 2) := by decide +kernel
theorem dX5_postpone_5 : decode cX5_postpone 5 = .ok (.iload 4, 2) := by decide +kernel
theorem dX5_postpone_7 : decode cX5_postpone 7 = .ok (.aload_n 0, 1) := by decide +kernel
theorem dX5_postpone_8 : decode cX5_postpone 8 = .ok (.getfield 36, 3) := by decide +kernel
theorem dX5_postpone_11 : decode cX5_postpone 11 = .ok (.if_icmp .ge 51, 3) := by decide +kernel
theorem dX5_postpone_14 : decode cX5_postpone 14 = .ok (.aload_n 0, 1) := by decide +kernel
theorem dX5_postpone_15 : decode cX5_postpone 15 = .ok (.getfield 9, 3) := by decide +kernel
theorem dX5_postpone_18 : decode cX5_postpone 18 = .ok (.iload 4, 2) := by decide +kernel
theorem dX5_postpone_20 : decode cX5_postpone 20 = .ok (.iaload, 1) := by decide +kernel
theorem dX5_postpone_21 : decode cX5_postpone 21 = .ok (.iload_n 1, 1) := by decide +kernel
theorem dX5_postpone_22 : decode cX5_postpone 22 = .ok (.if_icmp .ne 34, 3) := by decide +kernel
theorem dX5_postpone_25 : decode cX5_postpone 25 = .ok (.aload_n 0, 1) := by decide +kernel
theorem dX5_postpone_26 : decode cX5_postpone 26 = .ok (.getfield 27, 3) := by decide +kernel
theorem dX5_postpone_29 : decode cX5_postpone 29 = .ok (.iload 4, 2) := by decide +kernel
theorem dX5_postpone_31 : decode cX5_postpone 31 = .ok (.iaload, 1) := by decide +kernel
theorem dX5_postpone_32 : decode cX5_postpone 32 = .ok (.ifCond .ne 24, 3) := by decide +kernel
theorem dX5_postpone_35 : decode cX5_postpone 35 = .ok (.iinc 3 1, 3) := by decide +kernel
theorem dX5_postpone_38 : decode cX5_postpone 38 = .ok (.aload_n 0, 1) := by decide +kernel
theorem dX5_postpone_39 : decode cX5_postpone 39 = .ok (.getfield 24, 3) := by decide +kernel
theorem dX5_postpone_42 : decode cX5_postpone 42 = .ok (.iload 4, 2) := by decide +kernel
theorem dX5_postpone_44 : decode cX5_postpone 44 = .ok (.aload_n 0, 1) := by decide +kernel
theorem dX5_postpone_45 : decode cX5_postpone 45 = .ok (.getfield 24, 3) := by decide +kernel
theorem dX5_postpone_48 : decode cX5_postpone 48 = .ok (.iload 4, 2) := by decide +kernel
theorem dX5_postpone_50 : decode cX5_postpone 50 = .ok (.iaload, 1) := by decide +kernel
theorem dX5_postpone_51 : decode cX5_postpone 51 = .ok (.iload_n 2, 1) := by decide +kernel
theorem dX5_postpone_52 : decode cX5_postpone 52 = .ok (.invokestatic 44, 3) := by decide +kernel
theorem dX5_postpone_55 : decode cX5_postpone 55 = .ok (.iastore, 1) := by decide +kernel
theorem dX5_postpone_56 : decode cX5_postpone 56 = .ok (.iinc 4 1, 3) := by decide +kernel
theorem dX5_postpone_59 : decode cX5_postpone 59 = .ok (.goto (-54), 3) := by decide +kernel
theorem dX5_postpone_62 : decode cX5_postpone 62 = .ok (.iload_n 3, 1) := by decide +kernel
theorem dX5_postpone_63 : decode cX5_postpone 63 = .ok (.ireturn, 1) := by decide +kernel
theorem dX5_value_0 : decode cX5_value 0 = .ok (.iload_n 2, 1) := by decide +kernel
theorem dX5_value_1 : decode cX5_value 1 = .ok (.tableswitch 92 0 6 #[43, 50, 57, 64, 71, 78, 85], 43) := by decide +kernel
theorem dX5_value_44 : decode cX5_value 44 = .ok (.aload_n 0, 1) := by decide +kernel
theorem dX5_value_45 : decode cX5_value 45 = .ok (.getfield 9, 3) := by decide +kernel
theorem dX5_value_48 : decode cX5_value 48 = .ok (.iload_n 1, 1) := by decide +kernel
theorem dX5_value_49 : decode cX5_value 49 = .ok (.iaload, 1) := by decide +kernel
theorem dX5_value_50 : decode cX5_value 50 = .ok (.ireturn, 1) := by decide +kernel
theorem dX5_value_51 : decode cX5_value 51 = .ok (.aload_n 0, 1) := by decide +kernel
theorem dX5_value_52 : decode cX5_value 52 = .ok (.getfield 15, 3) := by decide +kernel
theorem dX5_value_55 : decode cX5_value 55 = .ok (.iload_n 1, 1) := by decide +kernel
theorem dX5_value_56 : decode cX5_value 56 = .ok (.iaload, 1) := by decide +kernel
theorem dX5_value_57 : decode cX5_value 57 = .ok (.ireturn, 1) := by decide +kernel
theorem dX5_value_58 : decode cX5_value 58 = .ok (.aload_n 0, 1) := by decide +kernel
theorem dX5_value_59 : decode cX5_value 59 = .ok (.getfield 18, 3) := by decide +kernel
theorem dX5_value_62 : decode cX5_value 62 = .ok (.iload_n 1, 1) := by decide +kernel
theorem dX5_value_63 : decode cX5_value 63 = .ok (.iaload, 1) := by decide +kernel
theorem dX5_value_64 : decode cX5_value 64 = .ok (.ireturn, 1) := by decide +kernel
theorem dX5_value_65 : decode cX5_value 65 = .ok (.aload_n 0, 1) := by decide +kernel
theorem dX5_value_66 : decode cX5_value 66 = .ok (.getfield 21, 3) := by decide +kernel
theorem dX5_value_69 : decode cX5_value 69 = .ok (.iload_n 1, 1) := by decide +kernel
theorem dX5_value_70 : decode cX5_value 70 = .ok (.iaload, 1) := by decide +kernel
theorem dX5_value_71 : decode cX5_value 71 = .ok (.ireturn, 1) := by decide +kernel
theorem dX5_value_72 : decode cX5_value 72 = .ok (.aload_n 0, 1) := by decide +kernel
theorem dX5_value_73 : decode cX5_value 73 = .ok (.getfield 24, 3) := by decide +kernel
theorem dX5_value_76 : decode cX5_value 76 = .ok (.iload_n 1, 1) := by decide +kernel
theorem dX5_value_77 : decode cX5_value 77 = .ok (.iaload, 1) := by decide +kernel
theorem dX5_value_78 : decode cX5_value 78 = .ok (.ireturn, 1) := by decide +kernel
theorem dX5_value_79 : decode cX5_value 79 = .ok (.aload_n 0, 1) := by decide +kernel
theorem dX5_value_80 : decode cX5_value 80 = .ok (.getfield 27, 3) := by decide +kernel
theorem dX5_value_83 : decode cX5_value 83 = .ok (.iload_n 1, 1) := by decide +kernel
theorem dX5_value_84 : decode cX5_value 84 = .ok (.iaload, 1) := by decide +kernel
theorem dX5_value_85 : decode cX5_value 85 = .ok (.ireturn, 1) := by decide +kernel
theorem dX5_value_86 : decode cX5_value 86 = .ok (.aload_n 0, 1) := by decide +kernel
theorem dX5_value_87 : decode cX5_value 87 = .ok (.getfield 30, 3) := by decide +kernel
theorem dX5_value_90 : decode cX5_value 90 = .ok (.iload_n 1, 1) := by decide +kernel
theorem dX5_value_91 : decode cX5_value 91 = .ok (.iaload, 1) := by decide +kernel
theorem dX5_value_92 : decode cX5_value 92 = .ok (.ireturn, 1) := by decide +kernel
theorem dX5_value_93 : decode cX5_value 93 = .ok (.aload_n 0, 1) := by decide +kernel
theorem dX5_value_94 : decode cX5_value 94 = .ok (.getfield 33, 3) := by decide +kernel
theorem dX5_value_97 : decode cX5_value 97 = .ok (.iload_n 1, 1) := by decide +kernel
theorem dX5_value_98 : decode cX5_value 98 = .ok (.iaload, 1) := by decide +kernel
theorem dX5_value_99 : decode cX5_value 99 = .ok (.ireturn, 1) := by decide +kernel
theorem dX5_copyFrom_0 : decode cX5_copyFrom 0 = .ok (.aload_n 0, 1) := by decide +kernel
theorem dX5_copyFrom_1 : decode cX5_copyFrom 1 = .ok (.aload_n 1, 1) := by decide +kernel
theorem dX5_copyFrom_2 : decode cX5_copyFrom 2 = .ok (.getfield 36, 3) := by decide +kernel
theorem dX5_copyFrom_5 : decode cX5_copyFrom 5 = .ok (.putfield 36, 3) := by decide +kernel
theorem dX5_copyFrom_8 : decode cX5_copyFrom 8 = .ok (.aload_n 1, 1) := by decide +kernel
theorem dX5_copyFrom_9 : decode cX5_copyFrom 9 = .ok (.getfield 9, 3) := by decide +kernel
theorem dX5_copyFrom_12 : decode cX5_copyFrom 12 = .ok (.iconst 0, 1) := by decide +kernel
theorem dX5_copyFrom_13 : decode cX5_copyFrom 13 = .ok (.aload_n 0, 1) := by decide +kernel
theorem dX5_copyFrom_14 : decode cX5_copyFrom 14 = .ok (.getfield 9, 3) := by decide +kernel
theorem dX5_copyFrom_17 : decode cX5_copyFrom 17 = .ok (.iconst 0, 1) := by decide +kernel
theorem dX5_copyFrom_18 : decode cX5_copyFrom 18 = .ok (.aload_n 0, 1) := by decide +kernel
theorem dX5_copyFrom_19 : decode cX5_copyFrom 19 = .ok (.getfield 36, 3) := by decide +kernel
theorem dX5_copyFrom_22 : decode cX5_copyFrom 22 = .ok (.invokestatic 50, 3) := by decide +kernel
theorem dX5_copyFrom_25 : decode cX5_copyFrom 25 = .ok (.aload_n 1, 1) := by decide +kernel
theorem dX5_copyFrom_26 : decode cX5_copyFrom 26 = .ok (.getfield 15, 3) := by decide +kernel
theorem dX5_copyFrom_29 : decode cX5_copyFrom 29 = .ok (.iconst 0, 1) := by decide +kernel
theorem dX5_copyFrom_30 : decode cX5_copyFrom 30 = .ok (.aload_n 0, 1) := by decide +kernel
theorem dX5_copyFrom_31 : decode cX5_copyFrom 31 = .ok (.getfield 15, 3) := by decide +kernel
theorem dX5_copyFrom_34 : decode cX5_copyFrom 34 = .ok (.iconst 0, 1) := by decide +kernel
theorem dX5_copyFrom_35 : decode cX5_copyFrom 35 = .ok (.aload_n 0, 1) := by decide +kernel
theorem dX5_copyFrom_36 : decode cX5_copyFrom 36 = .ok (.getfield 36, 3) := by decide +kernel
theorem dX5_copyFrom_39 : decode cX5_copyFrom 39 = .ok (.invokestatic 50, 3) := by decide +kernel
theorem dX5_copyFrom_42 : decode cX5_copyFrom 42 = .ok (.aload_n 1, 1) := by decide +kernel
theorem dX5_copyFrom_43 : decode cX5_copyFrom 43 = .ok (.getfield 18, 3) := by decide +kernel
theorem dX5_copyFrom_46 : decode cX5_copyFrom 46 = .ok (.iconst 0, 1) := by decide +kernel
theorem dX5_copyFrom_47 : decode cX5_copyFrom 47 = .ok (.aload_n 0, 1) := by decide +kernel
theorem dX5_copyFrom_48 : decode cX5_copyFrom 48 = .ok (.getfield 18, 3) := by decide +kernel
theorem dX5_copyFrom_51 : decode cX5_copyFrom 51 = .ok (.iconst 0, 1) := by decide +kernel
theorem dX5_copyFrom_52 : decode cX5_copyFrom 52 = .ok (.aload_n 0, 1) := by decide +kernel
theorem dX5_copyFrom_53 : decode cX5_copyFrom 53 = .ok (.getfield 36, 3) := by decide +kernel
theorem dX5_copyFrom_56 : decode cX5_copyFrom 56 = .ok (.invokestatic 50, 3) := by decide +kernel
theorem dX5_copyFrom_59 : decode cX5_copyFrom 59 = .ok (.aload_n 1, 1) := by decide +kernel
theorem dX5_copyFrom_60 : decode cX5_copyFrom 60 = .ok (.getfield 21, 3) := by decide +kernel
theorem dX5_copyFrom_63 : decode cX5_copyFrom 63 = .ok (.iconst 0, 1) := by decide +kernel
theorem dX5_copyFrom_64 : decode cX5_copyFrom 64 = .ok (.aload_n 0, 1) := by decide +kernel
theorem dX5_copyFrom_65 : decode cX5_copyFrom 65 = .ok (.getfield 21, 3) := by decide +kernel
theorem dX5_copyFrom_68 : decode cX5_copyFrom 68 = .ok (.iconst 0, 1) := by decide +kernel
theorem dX5_copyFrom_69 : decode cX5_copyFrom 69 = .ok (.aload_n 0, 1) := by decide +kernel
theorem dX5_copyFrom_70 : decode cX5_copyFrom 70 = .ok (.getfield 36, 3) := by decide +kernel
theorem dX5_copyFrom_73 : decode cX5_copyFrom 73 = .ok (.invokestatic 50, 3) := by decide +kernel
theorem dX5_copyFrom_76 : decode cX5_copyFrom 76 = .ok (.aload_n 1, 1) := by decide +kernel
theorem dX5_copyFrom_77 : decode cX5_copyFrom 77 = .ok (.getfield 24, 3) := by decide +kernel
theorem dX5_copyFrom_80 : decode cX5_copyFrom 80 = .ok (.iconst 0, 1) := by decide +kernel
theorem dX5_copyFrom_81 : decode cX5_copyFrom 81 = .ok (.aload_n 0, 1) := by decide +kernel
theorem dX5_copyFrom_82 : decode cX5_copyFrom 82 = .ok (.getfield 24, 3) := by decide +kernel
theorem dX5_copyFrom_85 : decode cX5_copyFrom 85 = .ok (.iconst 0, 1) := by decide +kernel
theorem dX5_copyFrom_86 : decode cX5_copyFrom 86 = .ok (.aload_n 0, 1) := by decide +kernel
theorem dX5_copyFrom_87 : decode cX5_copyFrom 87 = .ok (.getfield 36, 3) := by decide +kernel
theorem dX5_copyFrom_90 : decode cX5_copyFrom 90 = .ok (.invokestatic 50, 3) := by decide +kernel
theorem dX5_copyFrom_93 : decode cX5_copyFrom 93 = .ok (.aload_n 1, 1) := by decide +kernel
theorem dX5_copyFrom_94 : decode cX5_copyFrom 94 = .ok (.getfield 27, 3) := by decide +kernel
theorem dX5_copyFrom_97 : decode cX5_copyFrom 97 = .ok (.iconst 0, 1) := by decide +kernel
theorem dX5_copyFrom_98 : decode cX5_copyFrom 98 = .ok (.aload_n 0, 1) := by decide +kernel
theorem dX5_copyFrom_99 : decode cX5_copyFrom 99 = .ok (.getfield 27, 3) := by decide +kernel
theorem dX5_copyFrom_102 : decode cX5_copyFrom 102 = .ok (.iconst 0, 1) := by decide +kernel
theorem dX5_copyFrom_103 : decode cX5_copyFrom 103 = .ok (.aload_n 0, 1) := by decide +kernel
theorem dX5_copyFrom_104 : decode cX5_copyFrom 104 = .ok (.getfield 36, 3) := by decide +kernel
theorem dX5_copyFrom_107 : decode cX5_copyFrom 107 = .ok (.invokestatic 50, 3) := by decide +kernel
theorem dX5_copyFrom_110 : decode cX5_copyFrom 110 = .ok (.aload_n 1, 1) := by decide +kernel
theorem dX5_copyFrom_111 : decode cX5_copyFrom 111 = .ok (.getfield 30, 3) := by decide +kernel
theorem dX5_copyFrom_114 : decode cX5_copyFrom 114 = .ok (.iconst 0, 1) := by decide +kernel
theorem dX5_copyFrom_115 : decode cX5_copyFrom 115 = .ok (.aload_n 0, 1) := by decide +kernel
theorem dX5_copyFrom_116 : decode cX5_copyFrom 116 = .ok (.getfield 30, 3) := by decide +kernel
theorem dX5_copyFrom_119 : decode cX5_copyFrom 119 = .ok (.iconst 0, 1) := by decide +kernel
theorem dX5_copyFrom_120 : decode cX5_copyFrom 120 = .ok (.aload_n 0, 1) := by decide +kernel
theorem dX5_copyFrom_121 : decode cX5_copyFrom 121 = .ok (.getfield 36, 3) := by decide +kernel
theorem dX5_copyFrom_124 : decode cX5_copyFrom 124 = .ok (.invokestatic 50, 3) := by decide +kernel
theorem dX5_copyFrom_127 : decode cX5_copyFrom 127 = .ok (.aload_n 1, 1) := by decide +kernel
theorem dX5_copyFrom_128 : decode cX5_copyFrom 128 = .ok (.getfield 33, 3) := by decide +kernel
theorem dX5_copyFrom_131 : decode cX5_copyFrom 131 = .ok (.iconst 0, 1) := by decide +kernel
theorem dX5_copyFrom_132 : decode cX5_copyFrom 132 = .ok (.aload_n 0, 1) := by decide +kernel
theorem dX5_copyFrom_133 : decode cX5_copyFrom 133 = .ok (.getfield 33, 3) := by decide +kernel
theorem dX5_copyFrom_136 : decode cX5_copyFrom 136 = .ok (.iconst 0, 1) := by decide +kernel
theorem dX5_copyFrom_137 : decode cX5_copyFrom 137 = .ok (.aload_n 0, 1) := by decide +kernel
theorem dX5_copyFrom_138 : decode cX5_copyFrom 138 = .ok (.getfield 36, 3) := by decide +kernel
theorem dX5_copyFrom_141 : decode cX5_copyFrom 141 = .ok (.invokestatic 50, 3) := by decide +kernel
theorem dX5_copyFrom_144 : decode cX5_copyFrom 144 = .ok (.return_, 1) := by decide +kernel
theorem dX6_init_0 : decode cX6_init 0 = .ok (.aload_n 0, 1) := by decide +kernel
theorem dX6_init_1 : decode cX6_init 1 = .ok (.invokespecial 3, 3) := by decide +kernel
theorem dX6_init_4 : decode cX6_init 4 = .ok (.aload_n 0, 1) := by decide +kernel
theorem dX6_init_5 : decode cX6_init 5 = .ok (.new 9, 3) := by decide +kernel
theorem dX6_init_8 : decode cX6_init 8 = .ok (.dup, 1) := by decide +kernel
theorem dX6_init_9 : decode cX6_init 9 = .ok (.invokespecial 11, 3) := by decide +kernel
theorem dX6_init_12 : decode cX6_init 12 = .ok (.putfield 12, 3) := by decide +kernel
theorem dX6_init_15 : decode cX6_init 15 = .ok (.aload_n 0, 1) := by decide +kernel
theorem dX6_init_16 : decode cX6_init 16 = .ok (.new 18, 3) := by decide +kernel
theorem dX6_init_19 : decode cX6_init 19 = .ok (.dup, 1) := by decide +kernel
theorem dX6_init_20 : decode cX6_init 20 = .ok (.invokespecial 20, 3) := by decide +kernel
theorem dX6_init_23 : decode cX6_init 23 = .ok (.putfield 21, 3) := by decide +kernel
theorem dX6_init_26 : decode cX6_init 26 = .ok (.aload_n 0, 1) := by decide +kernel
theorem dX6_init_27 : decode cX6_init 27 = .ok (.new 25, 3) := by decide +kernel
theorem dX6_init_30 : decode cX6_init 30 = .ok (.dup, 1) := by decide +kernel
theorem dX6_init_31 : decode cX6_init 31 = .ok (.invokespecial 27, 3) := by decide +kernel
theorem dX6_init_34 : decode cX6_init 34 = .ok (.putfield 28, 3) := by decide +kernel
theorem dX6_init_37 : decode cX6_init 37 = .ok (.aload_n 0, 1) := by decide +kernel
theorem dX6_init_38 : decode cX6_init 38 = .ok (.new 32, 3) := by decide +kernel
theorem dX6_init_41 : decode cX6_init 41 = .ok (.dup, 1) := by decide +kernel
theorem dX6_init_42 : decode cX6_init 42 = .ok (.invokespecial 34, 3) := by decide +kernel
theorem dX6_init_45 : decode cX6_init 45 = .ok (.putfield 35, 3) := by decide +kernel
theorem dX6_init_48 : decode cX6_init 48 = .ok (.aload_n 0, 1) := by decide +kernel
theorem dX6_init_49 : decode cX6_init 49 = .ok (.iconst 5, 1) := by decide +kernel
theorem dX6_init_50 : decode cX6_init 50 = .ok (.newarray .int, 2) := by decide +kernel
theorem dX6_init_52 : decode cX6_init 52 = .ok (.putfield 39, 3) := by decide +kernel
theorem dX6_init_55 : decode cX6_init 55 = .ok (.aload_n 0, 1) := by decide +kernel
theorem dX6_init_56 : decode cX6_init 56 = .ok (.bipush 12, 2) := by decide +kernel
theorem dX6_init_58 : decode cX6_init 58 = .ok (.newarray .long, 2) := by decide +kernel
theorem dX6_init_60 : decode cX6_init 60 = .ok (.putfield 43, 3) := by decide +kernel
theorem dX6_init_63 : decode cX6_init 63 = .ok (.aload_n 0, 1) := by decide +kernel
theorem dX6_init_64 : decode cX6_init 64 = .ok (.iconst 0, 1) := by decide +kernel
theorem dX6_init_65 : decode cX6_init 65 = .ok (.putfield 47, 3) := by decide +kernel
theorem dX6_init_68 : decode cX6_init 68 = .ok (.aload_n 0, 1) := by decide +kernel
theorem dX6_init_69 : decode cX6_init 69 = .ok (.iconst 0, 1) := by decide +kernel
theorem dX6_init_70 : decode cX6_init 70 = .ok (.putfield 51, 3) := by decide +kernel
theorem dX6_init_73 : decode cX6_init 73 = .ok (.getstatic 54, 3) := by decide +kernel
theorem dX6_init_76 : decode cX6_init 76 = .ok (.iconst 0, 1) := by decide +kernel
theorem dX6_init_77 : decode cX6_init 77 = .ok (.aload_n 0, 1) := by decide +kernel
theorem dX6_init_78 : decode cX6_init 78 = .ok (.getfield 39, 3) := by decide +kernel
theorem dX6_init_81 : decode cX6_init 81 = .ok (.iconst 0, 1) := by decide +kernel
theorem dX6_init_82 : decode cX6_init 82 = .ok (.iconst 5, 1) := by decide +kernel
theorem dX6_init_83 : decode cX6_init 83 = .ok (.invokestatic 57, 3) := by decide +kernel
theorem dX6_init_86 : decode cX6_init 86 = .ok (.return_, 1) := by decide +kernel
theorem dX6_clear_0 : decode cX6_clear 0 = .ok (.aload_n 0, 1) := by decide +kernel
theorem dX6_clear_1 : decode cX6_clear 1 = .ok (.getfield 12, 3) := by decide +kernel
theorem dX6_clear_4 : decode cX6_clear 4 = .ok (.iconst 0, 1) := by decide +kernel
theorem dX6_clear_5 : decode cX6_clear 5 = .ok (.putfield 63, 3) := by decide +kernel
theorem dX6_clear_8 : decode cX6_clear 8 = .ok (.aload_n 0, 1) := by decide +kernel
theorem dX6_clear_9 : decode cX6_clear 9 = .ok (.getfield 12, 3) := by decide +kernel
theorem dX6_clear_12 : decode cX6_clear 12 = .ok (.iconst 0, 1) := by decide +kernel
theorem dX6_clear_13 : decode cX6_clear 13 = .ok (.putfield 66, 3) := by decide +kernel
theorem dX6_clear_16 : decode cX6_clear 16 = .ok (.aload_n 0, 1) := by decide +kernel
theorem dX6_clear_17 : decode cX6_clear 17 = .ok (.getfield 21, 3) := by decide +kernel
theorem dX6_clear_20 : decode cX6_clear 20 = .ok (.iconst 0, 1) := by decide +kernel
theorem dX6_clear_21 : decode cX6_clear 21 = .ok (.putfield 69, 3) := by decide +kernel
theorem dX6_clear_24 : decode cX6_clear 24 = .ok (.aload_n 0, 1) := by decide +kernel
theorem dX6_clear_25 : decode cX6_clear 25 = .ok (.getfield 28, 3) := by decide +kernel
theorem dX6_clear_28 : decode cX6_clear 28 = .ok (.iconst 0, 1) := by decide +kernel
theorem dX6_clear_29 : decode cX6_clear 29 = .ok (.putfield 70, 3) := by decide +kernel
theorem dX6_clear_32 : decode cX6_clear 32 = .ok (.aload_n 0, 1) := by decide +kernel
theorem dX6_clear_33 : decode cX6_clear 33 = .ok (.iconst 0, 1) := by decide +kernel
theorem dX6_clear_34 : decode cX6_clear 34 = .ok (.putfield 47, 3) := by decide +kernel
theorem dX6_clear_37 : decode cX6_clear 37 = .ok (.aload_n 0, 1) := by decide +kernel
theorem dX6_clear_38 : decode cX6_clear 38 = .ok (.iconst 0, 1) := by decide +kernel
theorem dX6_clear_39 : decode cX6_clear 39 = .ok (.putfield 51, 3) := by decide +kernel
theorem dX6_clear_42 : decode cX6_clear 42 = .ok (.getstatic 54, 3) := by decide +kernel
theorem dX6_clear_45 : decode cX6_clear 45 = .ok (.iconst 0, 1) := by decide +kernel
theorem dX6_clear_46 : decode cX6_clear 46 = .ok (.aload_n 0, 1) := by decide +kernel
theorem dX6_clear_47 : decode cX6_clear 47 = .ok (.getfield 39, 3) := by decide +kernel
theorem dX6_clear_50 : decode cX6_clear 50 = .ok (.iconst 0, 1) := by decide +kernel
theorem dX6_clear_51 : decode cX6_clear 51 = .ok (.iconst 5, 1) := by decide +kernel
theorem dX6_clear_52 : decode cX6_clear 52 = .ok (.invokestatic 57, 3) := by decide +kernel
theorem dX6_clear_55 : decode cX6_clear 55 = .ok (.return_, 1) := by decide +kernel
theorem dX6_copyFrom_0 : decode cX6_copyFrom 0 = .ok (.aload_n 0, 1) := by decide +kernel
theorem dX6_copyFrom_1 : decode cX6_copyFrom 1 = .ok (.getfield 12, 3) := by decide +kernel
theorem dX6_copyFrom_4 : decode cX6_copyFrom 4 = .ok (.aload_n 1, 1) := by decide +kernel
theorem dX6_copyFrom_5 : decode cX6_copyFrom 5 = .ok (.getfield 12, 3) := by decide +kernel
theorem dX6_copyFrom_8 : decode cX6_copyFrom 8 = .ok (.invokevirtual 71, 3) := by decide +kernel
theorem dX6_copyFrom_11 : decode cX6_copyFrom 11 = .ok (.aload_n 0, 1) := by decide +kernel
theorem dX6_copyFrom_12 : decode cX6_copyFrom 12 = .ok (.getfield 21, 3) := by decide +kernel
theorem dX6_copyFrom_15 : decode cX6_copyFrom 15 = .ok (.aload_n 1, 1) := by decide +kernel
theorem dX6_copyFrom_16 : decode cX6_copyFrom 16 = .ok (.getfield 21, 3) := by decide +kernel
theorem dX6_copyFrom_19 : decode cX6_copyFrom 19 = .ok (.invokevirtual 75, 3) := by decide +kernel
theorem dX6_copyFrom_22 : decode cX6_copyFrom 22 = .ok (.aload_n 0, 1) := by decide +kernel
theorem dX6_copyFrom_23 : decode cX6_copyFrom 23 = .ok (.getfield 28, 3) := by decide +kernel
theorem dX6_copyFrom_26 : decode cX6_copyFrom 26 = .ok (.aload_n 1, 1) := by decide +kernel
theorem dX6_copyFrom_27 : decode cX6_copyFrom 27 = .ok (.getfield 28, 3) := by decide +kernel
theorem dX6_copyFrom_30 : decode cX6_copyFrom 30 = .ok (.invokevirtual 78, 3) := by decide +kernel
theorem dX6_copyFrom_33 : decode cX6_copyFrom 33 = .ok (.aload_n 1, 1) := by decide +kernel
theorem dX6_copyFrom_34 : decode cX6_copyFrom 34 = .ok (.getfield 39, 3) := by decide +kernel
theorem dX6_copyFrom_37 : decode cX6_copyFrom 37 = .ok (.iconst 0, 1) := by decide +kernel
theorem dX6_copyFrom_38 : decode cX6_copyFrom 38 = .ok (.aload_n 0, 1) := by decide +kernel
theorem dX6_copyFrom_39 : decode cX6_copyFrom 39 = .ok (.getfield 39, 3) := by decide +kernel
theorem dX6_copyFrom_42 : decode cX6_copyFrom 42 = .ok (.iconst 0, 1) := by decide +kernel
theorem dX6_copyFrom_43 : decode cX6_copyFrom 43 = .ok (.iconst 5, 1) := by decide +kernel
theorem dX6_copyFrom_44 : decode cX6_copyFrom 44 = .ok (.invokestatic 57, 3) := by decide +kernel
theorem dX6_copyFrom_47 : decode cX6_copyFrom 47 = .ok (.aload_n 1, 1) := by decide +kernel
theorem dX6_copyFrom_48 : decode cX6_copyFrom 48 = .ok (.getfield 43, 3) := by decide +kernel
theorem dX6_copyFrom_51 : decode cX6_copyFrom 51 = .ok (.iconst 0, 1) := by decide +kernel
theorem dX6_copyFrom_52 : decode cX6_copyFrom 52 = .ok (.aload_n 0, 1) := by decide +kernel
theorem dX6_copyFrom_53 : decode cX6_copyFrom 53 = .ok (.getfield 43, 3) := by decide +kernel
theorem dX6_copyFrom_56 : decode cX6_copyFrom 56 = .ok (.iconst 0, 1) := by decide +kernel
theorem dX6_copyFrom_57 : decode cX6_copyFrom 57 = .ok (.bipush 12, 2) := by decide +kernel
theorem dX6_copyFrom_59 : decode cX6_copyFrom 59 = .ok (.invokestatic 57, 3) := by decide +kernel
theorem dX6_copyFrom_62 : decode cX6_copyFrom 62 = .ok (.aload_n 0, 1) := by decide +kernel
theorem dX6_copyFrom_63 : decode cX6_copyFrom 63 = .ok (.aload_n 1, 1) := by decide +kernel
theorem dX6_copyFrom_64 : decode cX6_copyFrom 64 = .ok (.getfield 47, 3) := by decide +kernel
theorem dX6_copyFrom_67 : decode cX6_copyFrom 67 = .ok (.putfield 47, 3) := by decide +kernel
theorem dX6_copyFrom_70 : decode cX6_copyFrom 70 = .ok (.aload_n 0, 1) := by decide +kernel
theorem dX6_copyFrom_71 : decode cX6_copyFrom 71 = .ok (.aload_n 1, 1) := by decide +kernel
theorem dX6_copyFrom_72 : decode cX6_copyFrom 72 = .ok (.getfield 51, 3) := by decide +kernel
theorem dX6_copyFrom_75 : decode cX6_copyFrom 75 = .ok (.putfield 51, 3) := by decide +kernel
theorem dX6_copyFrom_78 : decode cX6_copyFrom 78 = .ok (.return_, 1) := by decide +kernel
theorem dX6_addNode_0 : decode cX6_addNode 0 = .ok (.aload_n 0, 1) := by decide +kernel
theorem dX6_addNode_1 : decode cX6_addNode 1 = .ok (.getfield 47, 3) := by decide +kernel
theorem dX6_addNode_4 : decode cX6_addNode 4 = .ok (.bipush 12, 2) := by decide +kernel
theorem dX6_addNode_6 : decode cX6_addNode 6 = .ok (.if_icmp .ge 23, 3) := by decide +kernel
theorem dX6_addNode_9 : decode cX6_addNode 9 = .ok (.aload_n 0, 1) := by decide +kernel
theorem dX6_addNode_10 : decode cX6_addNode 10 = .ok (.getfield 43, 3) := by decide +kernel
theorem dX6_addNode_13 : decode cX6_addNode 13 = .ok (.aload_n 0, 1) := by decide +kernel
theorem dX6_addNode_14 : decode cX6_addNode 14 = .ok (.getfield 47, 3) := by decide +kernel
theorem dX6_addNode_17 : decode cX6_addNode 17 = .ok (.lload_n 1, 1) := by decide +kernel
theorem dX6_addNode_18 : decode cX6_addNode 18 = .ok (.lastore, 1) := by decide +kernel
theorem dX6_addNode_19 : decode cX6_addNode 19 = .ok (.aload_n 0, 1) := by decide +kernel
theorem dX6_addNode_20 : decode cX6_addNode 20 = .ok (.dup, 1) := by decide +kernel
theorem dX6_addNode_21 : decode cX6_addNode 21 = .ok (.getfield 47, 3) := by decide +kernel
theorem dX6_addNode_24 : decode cX6_addNode 24 = .ok (.iconst 1, 1) := by decide +kernel
theorem dX6_addNode_25 : decode cX6_addNode 25 = .ok (.iadd, 1) := by decide +kernel
theorem dX6_addNode_26 : decode cX6_addNode 26 = .ok (.putfield 47, 3) := by decide +kernel
theorem dX6_addNode_29 : decode cX6_addNode 29 = .ok (.return_, 1) := by decide +kernel
theorem dX6_nodeWithName_0 : decode cX6_nodeWithName 0 = .ok (.iconst 0, 1) := by decide +kernel
theorem dX6_nodeWithName_1 : decode cX6_nodeWithName 1 = .ok (.istore_n 3, 1) := by decide +kernel
theorem dX6_nodeWithName_2 : decode cX6_nodeWithName 2 = .ok (.iload_n 3, 1) := by decide +kernel
theorem dX6_nodeWithName_3 : decode cX6_nodeWithName 3 = .ok (.aload_n 0, 1) := by decide +kernel
theorem dX6_nodeWithName_4 : decode cX6_nodeWithName 4 = .ok (.getfield 47, 3) := by decide +kernel
theorem dX6_nodeWithName_7 : decode cX6_nodeWithName 7 = .ok (.if_icmp .ge 22, 3) := by decide +kernel
theorem dX6_nodeWithName_10 : decode cX6_nodeWithName 10 = .ok (.aload_n 0, 1) := by decide +kernel
theorem dX6_nodeWithName_11 : decode cX6_nodeWithName 11 = .ok (.getfield 43, 3) := by decide +kernel
theorem dX6_nodeWithName_14 : decode cX6_nodeWithName 14 = .ok (.iload_n 3, 1) := by decide +kernel
theorem dX6_nodeWithName_15 : decode cX6_nodeWithName 15 = .ok (.laload, 1) := by decide +kernel
theorem dX6_nodeWithName_16 : decode cX6_nodeWithName 16 = .ok (.lload_n 1, 1) := by decide +kernel
theorem dX6_nodeWithName_17 : decode cX6_nodeWithName 17 = .ok (.lcmp, 1) := by decide +kernel
theorem dX6_nodeWithName_18 : decode cX6_nodeWithName 18 = .ok (.ifCond .ne 5, 3) := by decide +kernel
theorem dX6_nodeWithName_21 : decode cX6_nodeWithName 21 = .ok (.iload_n 3, 1) := by decide +kernel
theorem dX6_nodeWithName_22 : decode cX6_nodeWithName 22 = .ok (.ireturn, 1) := by decide +kernel
theorem dX6_nodeWithName_23 : decode cX6_nodeWithName 23 = .ok (.iinc 3 1, 3) := by decide +kernel
theorem dX6_nodeWithName_26 : decode cX6_nodeWithName 26 = .ok (.goto (-24), 3) := by decide +kernel
theorem dX6_nodeWithName_29 : decode cX6_nodeWithName 29 = .ok (.iconst (-1), 1) := by decide +kernel
theorem dX6_nodeWithName_30 : decode cX6_nodeWithName 30 = .ok (.ireturn, 1) := by decide +kernel
theorem dX6_makeRequest_0 : decode cX6_makeRequest 0 = .ok (.aload_n 0, 1) := by decide +kernel
theorem dX6_makeRequest_1 : decode cX6_makeRequest 1 = .ok (.getfield 28, 3) := by decide +kernel
theorem dX6_makeRequest_4 : decode cX6_makeRequest 4 = .ok (.getfield 70, 3) := by decide +kernel
theorem dX6_makeRequest_7 : decode cX6_makeRequest 7 = .ok (.istore 5, 2) := by decide +kernel
theorem dX6_makeRequest_9 : decode cX6_makeRequest 9 = .ok (.iload 5, 2) := by decide +kernel
theorem dX6_makeRequest_11 : decode cX6_makeRequest 11 = .ok (.bipush 40, 2) := by decide +kernel
theorem dX6_makeRequest_13 : decode cX6_makeRequest 13 = .ok (.if_icmp .lt 6, 3) := by decide +kernel
theorem dX6_makeRequest_16 : decode cX6_makeRequest 16 = .ok (.bipush (-2), 2) := by decide +kernel
theorem dX6_makeRequest_18 : decode cX6_makeRequest 18 = .ok (.ireturn, 1) := by decide +kernel
theorem dX6_makeRequest_19 : decode cX6_makeRequest 19 = .ok (.aload_n 0, 1) := by decide +kernel
theorem dX6_makeRequest_20 : decode cX6_makeRequest 20 = .ok (.getfield 28, 3) := by decide +kernel
theorem dX6_makeRequest_23 : decode cX6_makeRequest 23 = .ok (.iload_n 1, 1) := by decide +kernel
theorem dX6_makeRequest_24 : decode cX6_makeRequest 24 = .ok (.iload_n 2, 1) := by decide +kernel
theorem dX6_makeRequest_25 : decode cX6_makeRequest 25 = .ok (.iload_n 3, 1) := by decide +kernel
theorem dX6_makeRequest_26 : decode cX6_makeRequest 26 = .ok (.iload 4, 2) := by decide +kernel
theorem dX6_makeRequest_28 : decode cX6_makeRequest 28 = .ok (.aload_n 0, 1) := by decide +kernel
theorem dX6_makeRequest_29 : decode cX6_makeRequest 29 = .ok (.getfield 51, 3) := by decide +kernel
theorem dX6_makeRequest_32 : decode cX6_makeRequest 32 = .ok (.invokevirtual 81, 3) := by decide +kernel
theorem dX6_makeRequest_35 : decode cX6_makeRequest 35 = .ok (.aload_n 0, 1) := by decide +kernel
theorem dX6_makeRequest_36 : decode cX6_makeRequest 36 = .ok (.iload 5, 2) := by decide +kernel
theorem dX6_makeRequest_38 : decode cX6_makeRequest 38 = .ok (.invokevirtual 85, 3) := by decide +kernel
theorem dX6_makeRequest_41 : decode cX6_makeRequest 41 = .ok (.iload 5, 2) := by decide +kernel
theorem dX6_makeRequest_43 : decode cX6_makeRequest 43 = .ok (.ireturn, 1) := by decide +kernel
theorem dX6_treat_0 : decode cX6_treat 0 = .ok (.iconst 0, 1) := by decide +kernel
theorem dX6_treat_1 : decode cX6_treat 1 = .ok (.istore_n 2, 1) := by decide +kernel
theorem dX6_treat_2 : decode cX6_treat 2 = .ok (.iload_n 2, 1) := by decide +kernel
theorem dX6_treat_3 : decode cX6_treat 3 = .ok (.ldc 89, 2) := by decide +kernel
theorem dX6_treat_5 : decode cX6_treat 5 = .ok (.if_icmp .ge 81, 3) := by decide +kernel
theorem dX6_treat_8 : decode cX6_treat 8 = .ok (.aload_n 0, 1) := by decide +kernel
theorem dX6_treat_9 : decode cX6_treat 9 = .ok (.getfield 28, 3) := by decide +kernel
theorem dX6_treat_12 : decode cX6_treat 12 = .ok (.getfield 90, 3) := by decide +kernel
theorem dX6_treat_15 : decode cX6_treat 15 = .ok (.iload_n 1, 1) := by decide +kernel
theorem dX6_treat_16 : decode cX6_treat 16 = .ok (.iaload, 1) := by decide +kernel
theorem dX6_treat_17 : decode cX6_treat 17 = .ok (.aload_n 0, 1) := by decide +kernel
theorem dX6_treat_18 : decode cX6_treat 18 = .ok (.getfield 51, 3) := by decide +kernel
theorem dX6_treat_21 : decode cX6_treat 21 = .ok (.if_icmp .ne 65, 3) := by decide +kernel
theorem dX6_treat_24 : decode cX6_treat 24 = .ok (.aload_n 0, 1) := by decide +kernel
theorem dX6_treat_25 : decode cX6_treat 25 = .ok (.getfield 28, 3) := by decide +kernel
theorem dX6_treat_28 : decode cX6_treat 28 = .ok (.getfield 93, 3) := by decide +kernel
theorem dX6_treat_31 : decode cX6_treat 31 = .ok (.iload_n 1, 1) := by decide +kernel
theorem dX6_treat_32 : decode cX6_treat 32 = .ok (.iaload, 1) := by decide +kernel
theorem dX6_treat_33 : decode cX6_treat 33 = .ok (.istore_n 3, 1) := by decide +kernel
theorem dX6_treat_34 : decode cX6_treat 34 = .ok (.iload_n 3, 1) := by decide +kernel
theorem dX6_treat_35 : decode cX6_treat 35 = .ok (.bipush 7, 2) := by decide +kernel
theorem dX6_treat_37 : decode cX6_treat 37 = .ok (.if_icmp .ne 11, 3) := by decide +kernel
theorem dX6_treat_40 : decode cX6_treat 40 = .ok (.aload_n 0, 1) := by decide +kernel
theorem dX6_treat_41 : decode cX6_treat 41 = .ok (.iload_n 1, 1) := by decide +kernel
theorem dX6_treat_42 : decode cX6_treat 42 = .ok (.invokevirtual 96, 3) := by decide +kernel
theorem dX6_treat_45 : decode cX6_treat 45 = .ok (.goto 35, 3) := by decide +kernel
theorem dX6_treat_48 : decode cX6_treat 48 = .ok (.iload_n 3, 1) := by decide +kernel
theorem dX6_treat_49 : decode cX6_treat 49 = .ok (.ifCond .ne 11, 3) := by decide +kernel
theorem dX6_treat_52 : decode cX6_treat 52 = .ok (.aload_n 0, 1) := by decide +kernel
theorem dX6_treat_53 : decode cX6_treat 53 = .ok (.iload_n 1, 1) := by decide +kernel
theorem dX6_treat_54 : decode cX6_treat 54 = .ok (.invokevirtual 99, 3) := by decide +kernel
theorem dX6_treat_57 : decode cX6_treat 57 = .ok (.goto 8, 3) := by decide +kernel
theorem dX6_treat_60 : decode cX6_treat 60 = .ok (.aload_n 0, 1) := by decide +kernel
theorem dX6_treat_61 : decode cX6_treat 61 = .ok (.iload_n 1, 1) := by decide +kernel
theorem dX6_treat_62 : decode cX6_treat 62 = .ok (.invokevirtual 103, 3) := by decide +kernel
theorem dX6_treat_65 : decode cX6_treat 65 = .ok (.istore 4, 2) := by decide +kernel
theorem dX6_treat_67 : decode cX6_treat 67 = .ok (.iload 4, 2) := by decide +kernel
theorem dX6_treat_69 : decode cX6_treat 69 = .ok (.iconst (-1), 1) := by decide +kernel
theorem dX6_treat_70 : decode cX6_treat 70 = .ok (.if_icmp .eq 10, 3) := by decide +kernel
theorem dX6_treat_73 : decode cX6_treat 73 = .ok (.aload_n 0, 1) := by decide +kernel
theorem dX6_treat_74 : decode cX6_treat 74 = .ok (.iload_n 1, 1) := by decide +kernel
theorem dX6_treat_75 : decode cX6_treat 75 = .ok (.iload 4, 2) := by decide +kernel
theorem dX6_treat_77 : decode cX6_treat 77 = .ok (.invokevirtual 106, 3) := by decide +kernel
theorem dX6_treat_80 : decode cX6_treat 80 = .ok (.iinc 2 1, 3) := by decide +kernel
theorem dX6_treat_83 : decode cX6_treat 83 = .ok (.goto (-81), 3) := by decide +kernel
theorem dX6_treat_86 : decode cX6_treat 86 = .ok (.return_, 1) := by decide +kernel
theorem dX6_beginAttempt_0 : decode cX6_beginAttempt 0 = .ok (.aload_n 0, 1) := by decide +kernel
theorem dX6_beginAttempt_1 : decode cX6_beginAttempt 1 = .ok (.getfield 12, 3) := by decide +kernel
theorem dX6_beginAttempt_4 : decode cX6_beginAttempt 4 = .ok (.getfield 66, 3) := by decide +kernel
theorem dX6_beginAttempt_7 : decode cX6_beginAttempt 7 = .ok (.aload_n 0, 1) := by decide +kernel
theorem dX6_beginAttempt_8 : decode cX6_beginAttempt 8 = .ok (.getfield 28, 3) := by decide +kernel
theorem dX6_beginAttempt_11 : decode cX6_beginAttempt 11 = .ok (.getfield 110, 3) := by decide +kernel
theorem dX6_beginAttempt_14 : decode cX6_beginAttempt 14 = .ok (.iload_n 1, 1) := by decide +kernel
theorem dX6_beginAttempt_15 : decode cX6_beginAttempt 15 = .ok (.iaload, 1) := by decide +kernel
theorem dX6_beginAttempt_16 : decode cX6_beginAttempt 16 = .ok (.iconst (-1), 1) := by decide +kernel
theorem dX6_beginAttempt_17 : decode cX6_beginAttempt 17 = .ok (.ixor, 1) := by decide +kernel
theorem dX6_beginAttempt_18 : decode cX6_beginAttempt 18 = .ok (.iand, 1) := by decide +kernel
theorem dX6_beginAttempt_19 : decode cX6_beginAttempt 19 = .ok (.istore_n 2, 1) := by decide +kernel
theorem dX6_beginAttempt_20 : decode cX6_beginAttempt 20 = .ok (.aload_n 0, 1) := by decide +kernel
theorem dX6_beginAttempt_21 : decode cX6_beginAttempt 21 = .ok (.getfield 35, 3) := by decide +kernel
theorem dX6_beginAttempt_24 : decode cX6_beginAttempt 24 = .ok (.aload_n 0, 1) := by decide +kernel
theorem dX6_beginAttempt_25 : decode cX6_beginAttempt 25 = .ok (.getfield 12, 3) := by decide +kernel
theorem dX6_beginAttempt_28 : decode cX6_beginAttempt 28 = .ok (.aload_n 0, 1) := by decide +kernel
theorem dX6_beginAttempt_29 : decode cX6_beginAttempt 29 = .ok (.getfield 28, 3) := by decide +kernel
theorem dX6_beginAttempt_32 : decode cX6_beginAttempt 32 = .ok (.getfield 113, 3) := by decide +kernel
theorem dX6_beginAttempt_35 : decode cX6_beginAttempt 35 = .ok (.iload_n 1, 1) := by decide +kernel
theorem dX6_beginAttempt_36 : decode cX6_beginAttempt 36 = .ok (.iaload, 1) := by decide +kernel
theorem dX6_beginAttempt_37 : decode cX6_beginAttempt 37 = .ok (.aload_n 0, 1) := by decide +kernel
theorem dX6_beginAttempt_38 : decode cX6_beginAttempt 38 = .ok (.getfield 28, 3) := by decide +kernel
theorem dX6_beginAttempt_41 : decode cX6_beginAttempt 41 = .ok (.getfield 116, 3) := by decide +kernel
theorem dX6_beginAttempt_44 : decode cX6_beginAttempt 44 = .ok (.iload_n 1, 1) := by decide +kernel
theorem dX6_beginAttempt_45 : decode cX6_beginAttempt 45 = .ok (.iaload, 1) := by decide +kernel
theorem dX6_beginAttempt_46 : decode cX6_beginAttempt 46 = .ok (.iload_n 2, 1) := by decide +kernel
theorem dX6_beginAttempt_47 : decode cX6_beginAttempt 47 = .ok (.invokevirtual 119, 3) := by decide +kernel
theorem dX6_beginAttempt_50 : decode cX6_beginAttempt 50 = .ok (.istore_n 3, 1) := by decide +kernel
theorem dX6_beginAttempt_51 : decode cX6_beginAttempt 51 = .ok (.iload_n 3, 1) := by decide +kernel
theorem dX6_beginAttempt_52 : decode cX6_beginAttempt 52 = .ok (.ifCond .ne 10, 3) := by decide +kernel
theorem dX6_beginAttempt_55 : decode cX6_beginAttempt 55 = .ok (.aload_n 0, 1) := by decide +kernel
theorem dX6_beginAttempt_56 : decode cX6_beginAttempt 56 = .ok (.iload_n 1, 1) := by decide +kernel
theorem dX6_beginAttempt_57 : decode cX6_beginAttempt 57 = .ok (.iconst 4, 1) := by decide +kernel
theorem dX6_beginAttempt_58 : decode cX6_beginAttempt 58 = .ok (.invokevirtual 123, 3) := by decide +kernel
theorem dX6_beginAttempt_61 : decode cX6_beginAttempt 61 = .ok (.return_, 1) := by decide +kernel
theorem dX6_beginAttempt_62 : decode cX6_beginAttempt 62 = .ok (.aload_n 0, 1) := by decide +kernel
theorem dX6_beginAttempt_63 : decode cX6_beginAttempt 63 = .ok (.getfield 35, 3) := by decide +kernel
theorem dX6_beginAttempt_66 : decode cX6_beginAttempt 66 = .ok (.getfield 126, 3) := by decide +kernel
theorem dX6_beginAttempt_69 : decode cX6_beginAttempt 69 = .ok (.iconst 0, 1) := by decide +kernel
theorem dX6_beginAttempt_70 : decode cX6_beginAttempt 70 = .ok (.aload_n 0, 1) := by decide +kernel
theorem dX6_beginAttempt_71 : decode cX6_beginAttempt 71 = .ok (.getfield 28, 3) := by decide +kernel
theorem dX6_beginAttempt_74 : decode cX6_beginAttempt 74 = .ok (.getfield 129, 3) := by decide +kernel
theorem dX6_beginAttempt_77 : decode cX6_beginAttempt 77 = .ok (.iload_n 1, 1) := by decide +kernel
theorem dX6_beginAttempt_78 : decode cX6_beginAttempt 78 = .ok (.aaload, 1) := by decide +kernel
theorem dX6_beginAttempt_79 : decode cX6_beginAttempt 79 = .ok (.iconst 0, 1) := by decide +kernel
theorem dX6_beginAttempt_80 : decode cX6_beginAttempt 80 = .ok (.iload_n 3, 1) := by decide +kernel
theorem dX6_beginAttempt_81 : decode cX6_beginAttempt 81 = .ok (.invokestatic 57, 3) := by decide +kernel
theorem dX6_beginAttempt_84 : decode cX6_beginAttempt 84 = .ok (.aload_n 0, 1) := by decide +kernel
theorem dX6_beginAttempt_85 : decode cX6_beginAttempt 85 = .ok (.getfield 28, 3) := by decide +kernel
theorem dX6_beginAttempt_88 : decode cX6_beginAttempt 88 = .ok (.getfield 133, 3) := by decide +kernel
theorem dX6_beginAttempt_91 : decode cX6_beginAttempt 91 = .ok (.iload_n 1, 1) := by decide +kernel
theorem dX6_beginAttempt_92 : decode cX6_beginAttempt 92 = .ok (.iload_n 3, 1) := by decide +kernel
theorem dX6_beginAttempt_93 : decode cX6_beginAttempt 93 = .ok (.iastore, 1) := by decide +kernel
theorem dX6_beginAttempt_94 : decode cX6_beginAttempt 94 = .ok (.aload_n 0, 1) := by decide +kernel
theorem dX6_beginAttempt_95 : decode cX6_beginAttempt 95 = .ok (.getfield 28, 3) := by decide +kernel
theorem dX6_beginAttempt_98 : decode cX6_beginAttempt 98 = .ok (.getfield 136, 3) := by decide +kernel
theorem dX6_beginAttempt_101 : decode cX6_beginAttempt 101 = .ok (.iload_n 1, 1) := by decide +kernel
theorem dX6_beginAttempt_102 : decode cX6_beginAttempt 102 = .ok (.iconst 0, 1) := by decide +kernel
theorem dX6_beginAttempt_103 : decode cX6_beginAttempt 103 = .ok (.iastore, 1) := by decide +kernel
theorem dX6_beginAttempt_104 : decode cX6_beginAttempt 104 = .ok (.aload_n 0, 1) := by decide +kernel
theorem dX6_beginAttempt_105 : decode cX6_beginAttempt 105 = .ok (.getfield 28, 3) := by decide +kernel
theorem dX6_beginAttempt_108 : decode cX6_beginAttempt 108 = .ok (.getfield 93, 3) := by decide +kernel
theorem dX6_beginAttempt_111 : decode cX6_beginAttempt 111 = .ok (.iload_n 1, 1) := by decide +kernel
theorem dX6_beginAttempt_112 : decode cX6_beginAttempt 112 = .ok (.iconst 0, 1) := by decide +kernel
theorem dX6_beginAttempt_113 : decode cX6_beginAttempt 113 = .ok (.iastore, 1) := by decide +kernel
theorem dX6_beginAttempt_114 : decode cX6_beginAttempt 114 = .ok (.return_, 1) := by decide +kernel
theorem dX6_goForward_0 : decode cX6_goForward 0 = .ok (.aload_n 0, 1) := by decide +kernel
theorem dX6_goForward_1 : decode cX6_goForward 1 = .ok (.getfield 28, 3) := by decide +kernel
theorem dX6_goForward_4 : decode cX6_goForward 4 = .ok (.getfield 136, 3) := by decide +kernel
theorem dX6_goForward_7 : decode cX6_goForward 7 = .ok (.iload_n 1, 1) := by decide +kernel
theorem dX6_goForward_8 : decode cX6_goForward 8 = .ok (.iaload, 1) := by decide +kernel
theorem dX6_goForward_9 : decode cX6_goForward 9 = .ok (.istore_n 2, 1) := by decide +kernel
theorem dX6_goForward_10 : decode cX6_goForward 10 = .ok (.iload_n 2, 1) := by decide +kernel
theorem dX6_goForward_11 : decode cX6_goForward 11 = .ok (.aload_n 0, 1) := by decide +kernel
theorem dX6_goForward_12 : decode cX6_goForward 12 = .ok (.getfield 28, 3) := by decide +kernel
theorem dX6_goForward_15 : decode cX6_goForward 15 = .ok (.getfield 133, 3) := by decide +kernel
theorem dX6_goForward_18 : decode cX6_goForward 18 = .ok (.iload_n 1, 1) := by decide +kernel
theorem dX6_goForward_19 : decode cX6_goForward 19 = .ok (.iaload, 1) := by decide +kernel
theorem dX6_goForward_20 : decode cX6_goForward 20 = .ok (.if_icmp .lt 15, 3) := by decide +kernel
theorem dX6_goForward_23 : decode cX6_goForward 23 = .ok (.aload_n 0, 1) := by decide +kernel
theorem dX6_goForward_24 : decode cX6_goForward 24 = .ok (.getfield 28, 3) := by decide +kernel
theorem dX6_goForward_27 : decode cX6_goForward 27 = .ok (.getfield 93, 3) := by decide +kernel
theorem dX6_goForward_30 : decode cX6_goForward 30 = .ok (.iload_n 1, 1) := by decide +kernel
theorem dX6_goForward_31 : decode cX6_goForward 31 = .ok (.iconst 1, 1) := by decide +kernel
theorem dX6_goForward_32 : decode cX6_goForward 32 = .ok (.iastore, 1) := by decide +kernel
theorem dX6_goForward_33 : decode cX6_goForward 33 = .ok (.iconst (-1), 1) := by decide +kernel
theorem dX6_goForward_34 : decode cX6_goForward 34 = .ok (.ireturn, 1) := by decide +kernel
theorem dX6_goForward_35 : decode cX6_goForward 35 = .ok (.aload_n 0, 1) := by decide +kernel
theorem dX6_goForward_36 : decode cX6_goForward 36 = .ok (.getfield 28, 3) := by decide +kernel
theorem dX6_goForward_39 : decode cX6_goForward 39 = .ok (.getfield 129, 3) := by decide +kernel
theorem dX6_goForward_42 : decode cX6_goForward 42 = .ok (.iload_n 1, 1) := by decide +kernel
theorem dX6_goForward_43 : decode cX6_goForward 43 = .ok (.aaload, 1) := by decide +kernel
theorem dX6_goForward_44 : decode cX6_goForward 44 = .ok (.iload_n 2, 1) := by decide +kernel
theorem dX6_goForward_45 : decode cX6_goForward 45 = .ok (.iaload, 1) := by decide +kernel
theorem dX6_goForward_46 : decode cX6_goForward 46 = .ok (.istore_n 3, 1) := by decide +kernel
theorem dX6_goForward_47 : decode cX6_goForward 47 = .ok (.aload_n 0, 1) := by decide +kernel
theorem dX6_goForward_48 : decode cX6_goForward 48 = .ok (.getfield 12, 3) := by decide +kernel
theorem dX6_goForward_51 : decode cX6_goForward 51 = .ok (.iload_n 3, 1) := by decide +kernel
theorem dX6_goForward_52 : decode cX6_goForward 52 = .ok (.invokevirtual 139, 3) := by decide +kernel
theorem dX6_goForward_55 : decode cX6_goForward 55 = .ok (.ifCond .eq 27, 3) := by decide +kernel
theorem dX6_goForward_58 : decode cX6_goForward 58 = .ok (.aload_n 0, 1) := by decide +kernel
theorem dX6_goForward_59 : decode cX6_goForward 59 = .ok (.getfield 12, 3) := by decide +kernel
theorem dX6_goForward_62 : decode cX6_goForward 62 = .ok (.iload_n 3, 1) := by decide +kernel
theorem dX6_goForward_63 : decode cX6_goForward 63 = .ok (.invokevirtual 143, 3) := by decide +kernel
theorem dX6_goForward_66 : decode cX6_goForward 66 = .ok (.aload_n 0, 1) := by decide +kernel
theorem dX6_goForward_67 : decode cX6_goForward 67 = .ok (.getfield 28, 3) := by decide +kernel
theorem dX6_goForward_70 : decode cX6_goForward 70 = .ok (.getfield 146, 3) := by decide +kernel
theorem dX6_goForward_73 : decode cX6_goForward 73 = .ok (.iload_n 1, 1) := by decide +kernel
theorem dX6_goForward_74 : decode cX6_goForward 74 = .ok (.iaload, 1) := by decide +kernel
theorem dX6_goForward_75 : decode cX6_goForward 75 = .ok (.if_icmp .lt 7, 3) := by decide +kernel
theorem dX6_goForward_78 : decode cX6_goForward 78 = .ok (.iconst 1, 1) := by decide +kernel
theorem dX6_goForward_79 : decode cX6_goForward 79 = .ok (.goto 4, 3) := by decide +kernel
theorem dX6_goForward_82 : decode cX6_goForward 82 = .ok (.iconst 0, 1) := by decide +kernel
theorem dX6_goForward_83 : decode cX6_goForward 83 = .ok (.istore 4, 2) := by decide +kernel
theorem dX6_goForward_85 : decode cX6_goForward 85 = .ok (.iload 4, 2) := by decide +kernel
theorem dX6_goForward_87 : decode cX6_goForward 87 = .ok (.ifCond .eq 13, 3) := by decide +kernel
theorem dX6_goForward_90 : decode cX6_goForward 90 = .ok (.aload_n 0, 1) := by decide +kernel
theorem dX6_goForward_91 : decode cX6_goForward 91 = .ok (.getfield 21, 3) := by decide +kernel
theorem dX6_goForward_94 : decode cX6_goForward 94 = .ok (.invokevirtual 149, 3) := by decide +kernel
theorem dX6_goForward_97 : decode cX6_goForward 97 = .ok (.ifCond .eq 5, 3) := by decide +kernel
theorem dX6_goForward_100 : decode cX6_goForward 100 = .ok (.iload_n 3, 1) := by decide +kernel
theorem dX6_goForward_101 : decode cX6_goForward 101 = .ok (.ireturn, 1) := by decide +kernel
theorem dX6_goForward_102 : decode cX6_goForward 102 = .ok (.aload_n 0, 1) := by decide +kernel
theorem dX6_goForward_103 : decode cX6_goForward 103 = .ok (.getfield 28, 3) := by decide +kernel
theorem dX6_goForward_106 : decode cX6_goForward 106 = .ok (.getfield 153, 3) := by decide +kernel
theorem dX6_goForward_109 : decode cX6_goForward 109 = .ok (.iload_n 1, 1) := by decide +kernel
theorem dX6_goForward_110 : decode cX6_goForward 110 = .ok (.aaload, 1) := by decide +kernel
theorem dX6_goForward_111 : decode cX6_goForward 111 = .ok (.iload_n 2, 1) := by decide +kernel
theorem dX6_goForward_112 : decode cX6_goForward 112 = .ok (.aload_n 0, 1) := by decide +kernel
theorem dX6_goForward_113 : decode cX6_goForward 113 = .ok (.iload_n 1, 1) := by decide +kernel
theorem dX6_goForward_114 : decode cX6_goForward 114 = .ok (.iload_n 3, 1) := by decide +kernel
theorem dX6_goForward_115 : decode cX6_goForward 115 = .ok (.invokevirtual 156, 3) := by decide +kernel
theorem dX6_goForward_118 : decode cX6_goForward 118 = .ok (.iastore, 1) := by decide +kernel
theorem dX6_goForward_119 : decode cX6_goForward 119 = .ok (.aload_n 0, 1) := by decide +kernel
theorem dX6_goForward_120 : decode cX6_goForward 120 = .ok (.getfield 28, 3) := by decide +kernel
theorem dX6_goForward_123 : decode cX6_goForward 123 = .ok (.getfield 136, 3) := by decide +kernel
theorem dX6_goForward_126 : decode cX6_goForward 126 = .ok (.iload_n 1, 1) := by decide +kernel
theorem dX6_goForward_127 : decode cX6_goForward 127 = .ok (.iload_n 2, 1) := by decide +kernel
theorem dX6_goForward_128 : decode cX6_goForward 128 = .ok (.iconst 1, 1) := by decide +kernel
theorem dX6_goForward_129 : decode cX6_goForward 129 = .ok (.iadd, 1) := by decide +kernel
theorem dX6_goForward_130 : decode cX6_goForward 130 = .ok (.iastore, 1) := by decide +kernel
theorem dX6_goForward_131 : decode cX6_goForward 131 = .ok (.aload_n 0, 1) := by decide +kernel
theorem dX6_goForward_132 : decode cX6_goForward 132 = .ok (.getfield 28, 3) := by decide +kernel
theorem dX6_goForward_135 : decode cX6_goForward 135 = .ok (.getfield 90, 3) := by decide +kernel
theorem dX6_goForward_138 : decode cX6_goForward 138 = .ok (.iload_n 1, 1) := by decide +kernel
theorem dX6_goForward_139 : decode cX6_goForward 139 = .ok (.aload_n 0, 1) := by decide +kernel
theorem dX6_goForward_140 : decode cX6_goForward 140 = .ok (.getfield 51, 3) := by decide +kernel
theorem dX6_goForward_143 : decode cX6_goForward 143 = .ok (.aload_n 0, 1) := by decide +kernel
theorem dX6_goForward_144 : decode cX6_goForward 144 = .ok (.getfield 12, 3) := by decide +kernel
theorem dX6_goForward_147 : decode cX6_goForward 147 = .ok (.getfield 160, 3) := by decide +kernel
theorem dX6_goForward_150 : decode cX6_goForward 150 = .ok (.iload_n 3, 1) := by decide +kernel
theorem dX6_goForward_151 : decode cX6_goForward 151 = .ok (.iaload, 1) := by decide +kernel
theorem dX6_goForward_152 : decode cX6_goForward 152 = .ok (.iadd, 1) := by decide +kernel
theorem dX6_goForward_153 : decode cX6_goForward 153 = .ok (.iastore, 1) := by decide +kernel
theorem dX6_goForward_154 : decode cX6_goForward 154 = .ok (.iconst (-1), 1) := by decide +kernel
theorem dX6_goForward_155 : decode cX6_goForward 155 = .ok (.ireturn, 1) := by decide +kernel
theorem dX6_issueTicket_0 : decode cX6_issueTicket 0 = .ok (.aload_n 0, 1) := by decide +kernel
theorem dX6_issueTicket_1 : decode cX6_issueTicket 1 = .ok (.getfield 21, 3) := by decide +kernel
theorem dX6_issueTicket_4 : decode cX6_issueTicket 4 = .ok (.getfield 69, 3) := by decide +kernel
theorem dX6_issueTicket_7 : decode cX6_issueTicket 7 = .ok (.istore_n 3, 1) := by decide +kernel
theorem dX6_issueTicket_8 : decode cX6_issueTicket 8 = .ok (.aload_n 0, 1) := by decide +kernel
theorem dX6_issueTicket_9 : decode cX6_issueTicket 9 = .ok (.getfield 28, 3) := by decide +kernel
theorem dX6_issueTicket_12 : decode cX6_issueTicket 12 = .ok (.getfield 146, 3) := by decide +kernel
theorem dX6_issueTicket_15 : decode cX6_issueTicket 15 = .ok (.iload_n 1, 1) := by decide +kernel
theorem dX6_issueTicket_16 : decode cX6_issueTicket 16 = .ok (.iaload, 1) := by decide +kernel
theorem dX6_issueTicket_17 : decode cX6_issueTicket 17 = .ok (.istore 4, 2) := by decide +kernel
theorem dX6_issueTicket_19 : decode cX6_issueTicket 19 = .ok (.aload_n 0, 1) := by decide +kernel
theorem dX6_issueTicket_20 : decode cX6_issueTicket 20 = .ok (.getfield 21, 3) := by decide +kernel
theorem dX6_issueTicket_23 : decode cX6_issueTicket 23 = .ok (.getfield 163, 3) := by decide +kernel
theorem dX6_issueTicket_26 : decode cX6_issueTicket 26 = .ok (.iload_n 3, 1) := by decide +kernel
theorem dX6_issueTicket_27 : decode cX6_issueTicket 27 = .ok (.iload_n 1, 1) := by decide +kernel
theorem dX6_issueTicket_28 : decode cX6_issueTicket 28 = .ok (.iastore, 1) := by decide +kernel
theorem dX6_issueTicket_29 : decode cX6_issueTicket 29 = .ok (.aload_n 0, 1) := by decide +kernel
theorem dX6_issueTicket_30 : decode cX6_issueTicket 30 = .ok (.getfield 21, 3) := by decide +kernel
theorem dX6_issueTicket_33 : decode cX6_issueTicket 33 = .ok (.getfield 166, 3) := by decide +kernel
theorem dX6_issueTicket_36 : decode cX6_issueTicket 36 = .ok (.iload_n 3, 1) := by decide +kernel
theorem dX6_issueTicket_37 : decode cX6_issueTicket 37 = .ok (.iload_n 2, 1) := by decide +kernel
theorem dX6_issueTicket_38 : decode cX6_issueTicket 38 = .ok (.iastore, 1) := by decide +kernel
theorem dX6_issueTicket_39 : decode cX6_issueTicket 39 = .ok (.aload_n 0, 1) := by decide +kernel
theorem dX6_issueTicket_40 : decode cX6_issueTicket 40 = .ok (.getfield 21, 3) := by decide +kernel
theorem dX6_issueTicket_43 : decode cX6_issueTicket 43 = .ok (.getfield 167, 3) := by decide +kernel
theorem dX6_issueTicket_46 : decode cX6_issueTicket 46 = .ok (.iload_n 3, 1) := by decide +kernel
theorem dX6_issueTicket_47 : decode cX6_issueTicket 47 = .ok (.iload 4, 2) := by decide +kernel
theorem dX6_issueTicket_49 : decode cX6_issueTicket 49 = .ok (.iastore, 1) := by decide +kernel
theorem dX6_issueTicket_50 : decode cX6_issueTicket 50 = .ok (.aload_n 0, 1) := by decide +kernel
theorem dX6_issueTicket_51 : decode cX6_issueTicket 51 = .ok (.getfield 21, 3) := by decide +kernel
theorem dX6_issueTicket_54 : decode cX6_issueTicket 54 = .ok (.getfield 168, 3) := by decide +kernel
theorem dX6_issueTicket_57 : decode cX6_issueTicket 57 = .ok (.iload_n 3, 1) := by decide +kernel
theorem dX6_issueTicket_58 : decode cX6_issueTicket 58 = .ok (.aload_n 0, 1) := by decide +kernel
theorem dX6_issueTicket_59 : decode cX6_issueTicket 59 = .ok (.getfield 51, 3) := by decide +kernel
theorem dX6_issueTicket_62 : decode cX6_issueTicket 62 = .ok (.iastore, 1) := by decide +kernel
theorem dX6_issueTicket_63 : decode cX6_issueTicket 63 = .ok (.aload_n 0, 1) := by decide +kernel
theorem dX6_issueTicket_64 : decode cX6_issueTicket 64 = .ok (.getfield 21, 3) := by decide +kernel
theorem dX6_issueTicket_67 : decode cX6_issueTicket 67 = .ok (.getfield 171, 3) := by decide +kernel
theorem dX6_issueTicket_70 : decode cX6_issueTicket 70 = .ok (.iload_n 3, 1) := by decide +kernel
theorem dX6_issueTicket_71 : decode cX6_issueTicket 71 = .ok (.aload_n 0, 1) := by decide +kernel
theorem dX6_issueTicket_72 : decode cX6_issueTicket 72 = .ok (.getfield 51, 3) := by decide +kernel
theorem dX6_issueTicket_75 : decode cX6_issueTicket 75 = .ok (.aload_n 0, 1) := by decide +kernel
theorem dX6_issueTicket_76 : decode cX6_issueTicket 76 = .ok (.getfield 39, 3) := by decide +kernel
theorem dX6_issueTicket_79 : decode cX6_issueTicket 79 = .ok (.iconst 0, 1) := by decide +kernel
theorem dX6_issueTicket_80 : decode cX6_issueTicket 80 = .ok (.iaload, 1) := by decide +kernel
theorem dX6_issueTicket_81 : decode cX6_issueTicket 81 = .ok (.iadd, 1) := by decide +kernel
theorem dX6_issueTicket_82 : decode cX6_issueTicket 82 = .ok (.iastore, 1) := by decide +kernel
theorem dX6_issueTicket_83 : decode cX6_issueTicket 83 = .ok (.aload_n 0, 1) := by decide +kernel
theorem dX6_issueTicket_84 : decode cX6_issueTicket 84 = .ok (.getfield 21, 3) := by decide +kernel
theorem dX6_issueTicket_87 : decode cX6_issueTicket 87 = .ok (.getfield 174, 3) := by decide +kernel
theorem dX6_issueTicket_90 : decode cX6_issueTicket 90 = .ok (.iload_n 3, 1) := by decide +kernel
theorem dX6_issueTicket_91 : decode cX6_issueTicket 91 = .ok (.iconst 0, 1) := by decide +kernel
theorem dX6_issueTicket_92 : decode cX6_issueTicket 92 = .ok (.iastore, 1) := by decide +kernel
theorem dX6_issueTicket_93 : decode cX6_issueTicket 93 = .ok (.aload_n 0, 1) := by decide +kernel
theorem dX6_issueTicket_94 : decode cX6_issueTicket 94 = .ok (.getfield 21, 3) := by decide +kernel
theorem dX6_issueTicket_97 : decode cX6_issueTicket 97 = .ok (.getfield 175, 3) := by decide +kernel
theorem dX6_issueTicket_100 : decode cX6_issueTicket 100 = .ok (.iload_n 3, 1) := by decide +kernel
theorem dX6_issueTicket_101 : decode cX6_issueTicket 101 = .ok (.aload_n 0, 1) := by decide +kernel
theorem dX6_issueTicket_102 : decode cX6_issueTicket 102 = .ok (.getfield 12, 3) := by decide +kernel
theorem dX6_issueTicket_105 : decode cX6_issueTicket 105 = .ok (.getfield 178, 3) := by decide +kernel
theorem dX6_issueTicket_108 : decode cX6_issueTicket 108 = .ok (.iload_n 2, 1) := by decide +kernel
theorem dX6_issueTicket_109 : decode cX6_issueTicket 109 = .ok (.iaload, 1) := by decide +kernel
theorem dX6_issueTicket_110 : decode cX6_issueTicket 110 = .ok (.iload 4, 2) := by decide +kernel
theorem dX6_issueTicket_112 : decode cX6_issueTicket 112 = .ok (.imul, 1) := by decide +kernel
theorem dX6_issueTicket_113 : decode cX6_issueTicket 113 = .ok (.iastore, 1) := by decide +kernel
theorem dX6_issueTicket_114 : decode cX6_issueTicket 114 = .ok (.aload_n 0, 1) := by decide +kernel
theorem dX6_issueTicket_115 : decode cX6_issueTicket 115 = .ok (.getfield 21, 3) := by decide +kernel
theorem dX6_issueTicket_118 : decode cX6_issueTicket 118 = .ok (.getfield 179, 3) := by decide +kernel
theorem dX6_issueTicket_121 : decode cX6_issueTicket 121 = .ok (.iload_n 3, 1) := by decide +kernel
theorem dX6_issueTicket_122 : decode cX6_issueTicket 122 = .ok (.iconst 0, 1) := by decide +kernel
theorem dX6_issueTicket_123 : decode cX6_issueTicket 123 = .ok (.iastore, 1) := by decide +kernel
theorem dX6_issueTicket_124 : decode cX6_issueTicket 124 = .ok (.aload_n 0, 1) := by decide +kernel
theorem dX6_issueTicket_125 : decode cX6_issueTicket 125 = .ok (.getfield 21, 3) := by decide +kernel
theorem dX6_issueTicket_128 : decode cX6_issueTicket 128 = .ok (.dup, 1) := by decide +kernel
theorem dX6_issueTicket_129 : decode cX6_issueTicket 129 = .ok (.getfield 69, 3) := by decide +kernel
theorem dX6_issueTicket_132 : decode cX6_issueTicket 132 = .ok (.iconst 1, 1) := by decide +kernel
theorem dX6_issueTicket_133 : decode cX6_issueTicket 133 = .ok (.iadd, 1) := by decide +kernel
theorem dX6_issueTicket_134 : decode cX6_issueTicket 134 = .ok (.putfield 69, 3) := by decide +kernel
theorem dX6_issueTicket_137 : decode cX6_issueTicket 137 = .ok (.aload_n 0, 1) := by decide +kernel
theorem dX6_issueTicket_138 : decode cX6_issueTicket 138 = .ok (.getfield 12, 3) := by decide +kernel
theorem dX6_issueTicket_141 : decode cX6_issueTicket 141 = .ok (.getfield 182, 3) := by decide +kernel
theorem dX6_issueTicket_144 : decode cX6_issueTicket 144 = .ok (.iload_n 2, 1) := by decide +kernel
theorem dX6_issueTicket_145 : decode cX6_issueTicket 145 = .ok (.dup2, 1) := by decide +kernel
theorem dX6_issueTicket_146 : decode cX6_issueTicket 146 = .ok (.iaload, 1) := by decide +kernel
theorem dX6_issueTicket_147 : decode cX6_issueTicket 147 = .ok (.iload 4, 2) := by decide +kernel
theorem dX6_issueTicket_149 : decode cX6_issueTicket 149 = .ok (.iadd, 1) := by decide +kernel
theorem dX6_issueTicket_150 : decode cX6_issueTicket 150 = .ok (.iastore, 1) := by decide +kernel
theorem dX6_issueTicket_151 : decode cX6_issueTicket 151 = .ok (.aload_n 0, 1) := by decide +kernel
theorem dX6_issueTicket_152 : decode cX6_issueTicket 152 = .ok (.getfield 28, 3) := by decide +kernel
theorem dX6_issueTicket_155 : decode cX6_issueTicket 155 = .ok (.getfield 185, 3) := by decide +kernel
theorem dX6_issueTicket_158 : decode cX6_issueTicket 158 = .ok (.iload_n 1, 1) := by decide +kernel
theorem dX6_issueTicket_159 : decode cX6_issueTicket 159 = .ok (.dup2, 1) := by decide +kernel
theorem dX6_issueTicket_160 : decode cX6_issueTicket 160 = .ok (.iaload, 1) := by decide +kernel
theorem dX6_issueTicket_161 : decode cX6_issueTicket 161 = .ok (.aload_n 0, 1) := by decide +kernel
theorem dX6_issueTicket_162 : decode cX6_issueTicket 162 = .ok (.getfield 21, 3) := by decide +kernel
theorem dX6_issueTicket_165 : decode cX6_issueTicket 165 = .ok (.getfield 175, 3) := by decide +kernel
theorem dX6_issueTicket_168 : decode cX6_issueTicket 168 = .ok (.iload_n 3, 1) := by decide +kernel
theorem dX6_issueTicket_169 : decode cX6_issueTicket 169 = .ok (.iaload, 1) := by decide +kernel
theorem dX6_issueTicket_170 : decode cX6_issueTicket 170 = .ok (.iadd, 1) := by decide +kernel
theorem dX6_issueTicket_171 : decode cX6_issueTicket 171 = .ok (.iastore, 1) := by decide +kernel
theorem dX6_issueTicket_172 : decode cX6_issueTicket 172 = .ok (.iload_n 3, 1) := by decide +kernel
theorem dX6_issueTicket_173 : decode cX6_issueTicket 173 = .ok (.ireturn, 1) := by decide +kernel
theorem dX6_goBack_0 : decode cX6_goBack 0 = .ok (.aload_n 0, 1) := by decide +kernel
theorem dX6_goBack_1 : decode cX6_goBack 1 = .ok (.getfield 28, 3) := by decide +kernel
theorem dX6_goBack_4 : decode cX6_goBack 4 = .ok (.getfield 136, 3) := by decide +kernel
theorem dX6_goBack_7 : decode cX6_goBack 7 = .ok (.iload_n 1, 1) := by decide +kernel
theorem dX6_goBack_8 : decode cX6_goBack 8 = .ok (.iaload, 1) := by decide +kernel
theorem dX6_goBack_9 : decode cX6_goBack 9 = .ok (.iconst 1, 1) := by decide +kernel
theorem dX6_goBack_10 : decode cX6_goBack 10 = .ok (.isub, 1) := by decide +kernel
theorem dX6_goBack_11 : decode cX6_goBack 11 = .ok (.istore_n 2, 1) := by decide +kernel
theorem dX6_goBack_12 : decode cX6_goBack 12 = .ok (.iload_n 2, 1) := by decide +kernel
theorem dX6_goBack_13 : decode cX6_goBack 13 = .ok (.ifCond .ge 47, 3) := by decide +kernel
theorem dX6_goBack_16 : decode cX6_goBack 16 = .ok (.aload_n 0, 1) := by decide +kernel
theorem dX6_goBack_17 : decode cX6_goBack 17 = .ok (.getfield 28, 3) := by decide +kernel
theorem dX6_goBack_20 : decode cX6_goBack 20 = .ok (.getfield 188, 3) := by decide +kernel
theorem dX6_goBack_23 : decode cX6_goBack 23 = .ok (.iload_n 1, 1) := by decide +kernel
theorem dX6_goBack_24 : decode cX6_goBack 24 = .ok (.aload_n 0, 1) := by decide +kernel
theorem dX6_goBack_25 : decode cX6_goBack 25 = .ok (.getfield 51, 3) := by decide +kernel
theorem dX6_goBack_28 : decode cX6_goBack 28 = .ok (.iastore, 1) := by decide +kernel
theorem dX6_goBack_29 : decode cX6_goBack 29 = .ok (.aload_n 0, 1) := by decide +kernel
theorem dX6_goBack_30 : decode cX6_goBack 30 = .ok (.getfield 28, 3) := by decide +kernel
theorem dX6_goBack_33 : decode cX6_goBack 33 = .ok (.getfield 191, 3) := by decide +kernel
theorem dX6_goBack_36 : decode cX6_goBack 36 = .ok (.iload_n 1, 1) := by decide +kernel
theorem dX6_goBack_37 : decode cX6_goBack 37 = .ok (.aload_n 0, 1) := by decide +kernel
theorem dX6_goBack_38 : decode cX6_goBack 38 = .ok (.getfield 51, 3) := by decide +kernel
theorem dX6_goBack_41 : decode cX6_goBack 41 = .ok (.aload_n 0, 1) := by decide +kernel
theorem dX6_goBack_42 : decode cX6_goBack 42 = .ok (.getfield 28, 3) := by decide +kernel
theorem dX6_goBack_45 : decode cX6_goBack 45 = .ok (.getfield 194, 3) := by decide +kernel
theorem dX6_goBack_48 : decode cX6_goBack 48 = .ok (.iload_n 1, 1) := by decide +kernel
theorem dX6_goBack_49 : decode cX6_goBack 49 = .ok (.iaload, 1) := by decide +kernel
theorem dX6_goBack_50 : decode cX6_goBack 50 = .ok (.iadd, 1) := by decide +kernel
theorem dX6_goBack_51 : decode cX6_goBack 51 = .ok (.iastore, 1) := by decide +kernel
theorem dX6_goBack_52 : decode cX6_goBack 52 = .ok (.aload_n 0, 1) := by decide +kernel
theorem dX6_goBack_53 : decode cX6_goBack 53 = .ok (.iload_n 1, 1) := by decide +kernel
theorem dX6_goBack_54 : decode cX6_goBack 54 = .ok (.iconst 2, 1) := by decide +kernel
theorem dX6_goBack_55 : decode cX6_goBack 55 = .ok (.invokevirtual 123, 3) := by decide +kernel
theorem dX6_goBack_58 : decode cX6_goBack 58 = .ok (.iconst (-1), 1) := by decide +kernel
theorem dX6_goBack_59 : decode cX6_goBack 59 = .ok (.ireturn, 1) := by decide +kernel
theorem dX6_goBack_60 : decode cX6_goBack 60 = .ok (.aload_n 0, 1) := by decide +kernel
theorem dX6_goBack_61 : decode cX6_goBack 61 = .ok (.getfield 28, 3) := by decide +kernel
theorem dX6_goBack_64 : decode cX6_goBack 64 = .ok (.getfield 129, 3) := by decide +kernel
theorem dX6_goBack_67 : decode cX6_goBack 67 = .ok (.iload_n 1, 1) := by decide +kernel
theorem dX6_goBack_68 : decode cX6_goBack 68 = .ok (.aaload, 1) := by decide +kernel
theorem dX6_goBack_69 : decode cX6_goBack 69 = .ok (.iload_n 2, 1) := by decide +kernel
theorem dX6_goBack_70 : decode cX6_goBack 70 = .ok (.iaload, 1) := by decide +kernel
theorem dX6_goBack_71 : decode cX6_goBack 71 = .ok (.istore_n 3, 1) := by decide +kernel
theorem dX6_goBack_72 : decode cX6_goBack 72 = .ok (.aload_n 0, 1) := by decide +kernel
theorem dX6_goBack_73 : decode cX6_goBack 73 = .ok (.getfield 28, 3) := by decide +kernel
theorem dX6_goBack_76 : decode cX6_goBack 76 = .ok (.getfield 153, 3) := by decide +kernel
theorem dX6_goBack_79 : decode cX6_goBack 79 = .ok (.iload_n 1, 1) := by decide +kernel
theorem dX6_goBack_80 : decode cX6_goBack 80 = .ok (.aaload, 1) := by decide +kernel
theorem dX6_goBack_81 : decode cX6_goBack 81 = .ok (.iload_n 2, 1) := by decide +kernel
theorem dX6_goBack_82 : decode cX6_goBack 82 = .ok (.iaload, 1) := by decide +kernel
theorem dX6_goBack_83 : decode cX6_goBack 83 = .ok (.istore 4, 2) := by decide +kernel
theorem dX6_goBack_85 : decode cX6_goBack 85 = .ok (.aload_n 0, 1) := by decide +kernel
theorem dX6_goBack_86 : decode cX6_goBack 86 = .ok (.getfield 21, 3) := by decide +kernel
theorem dX6_goBack_89 : decode cX6_goBack 89 = .ok (.getfield 174, 3) := by decide +kernel
theorem dX6_goBack_92 : decode cX6_goBack 92 = .ok (.iload 4, 2) := by decide +kernel
theorem dX6_goBack_94 : decode cX6_goBack 94 = .ok (.iaload, 1) := by decide +kernel
theorem dX6_goBack_95 : decode cX6_goBack 95 = .ok (.ifCond .eq 5, 3) := by decide +kernel
theorem dX6_goBack_98 : decode cX6_goBack 98 = .ok (.iload_n 3, 1) := by decide +kernel
theorem dX6_goBack_99 : decode cX6_goBack 99 = .ok (.ireturn, 1) := by decide +kernel
theorem dX6_goBack_100 : decode cX6_goBack 100 = .ok (.aload_n 0, 1) := by decide +kernel
theorem dX6_goBack_101 : decode cX6_goBack 101 = .ok (.getfield 21, 3) := by decide +kernel
theorem dX6_goBack_104 : decode cX6_goBack 104 = .ok (.getfield 174, 3) := by decide +kernel
theorem dX6_goBack_107 : decode cX6_goBack 107 = .ok (.iload 4, 2) := by decide +kernel
theorem dX6_goBack_109 : decode cX6_goBack 109 = .ok (.iconst 1, 1) := by decide +kernel
theorem dX6_goBack_110 : decode cX6_goBack 110 = .ok (.iastore, 1) := by decide +kernel
theorem dX6_goBack_111 : decode cX6_goBack 111 = .ok (.aload_n 0, 1) := by decide +kernel
theorem dX6_goBack_112 : decode cX6_goBack 112 = .ok (.getfield 28, 3) := by decide +kernel
theorem dX6_goBack_115 : decode cX6_goBack 115 = .ok (.getfield 136, 3) := by decide +kernel
theorem dX6_goBack_118 : decode cX6_goBack 118 = .ok (.iload_n 1, 1) := by decide +kernel
theorem dX6_goBack_119 : decode cX6_goBack 119 = .ok (.iload_n 2, 1) := by decide +kernel
theorem dX6_goBack_120 : decode cX6_goBack 120 = .ok (.iastore, 1) := by decide +kernel
theorem dX6_goBack_121 : decode cX6_goBack 121 = .ok (.aload_n 0, 1) := by decide +kernel
theorem dX6_goBack_122 : decode cX6_goBack 122 = .ok (.getfield 28, 3) := by decide +kernel
theorem dX6_goBack_125 : decode cX6_goBack 125 = .ok (.getfield 90, 3) := by decide +kernel
theorem dX6_goBack_128 : decode cX6_goBack 128 = .ok (.iload_n 1, 1) := by decide +kernel
theorem dX6_goBack_129 : decode cX6_goBack 129 = .ok (.aload_n 0, 1) := by decide +kernel
theorem dX6_goBack_130 : decode cX6_goBack 130 = .ok (.getfield 51, 3) := by decide +kernel
theorem dX6_goBack_133 : decode cX6_goBack 133 = .ok (.aload_n 0, 1) := by decide +kernel
theorem dX6_goBack_134 : decode cX6_goBack 134 = .ok (.getfield 12, 3) := by decide +kernel
theorem dX6_goBack_137 : decode cX6_goBack 137 = .ok (.getfield 160, 3) := by decide +kernel
theorem dX6_goBack_140 : decode cX6_goBack 140 = .ok (.iload_n 3, 1) := by decide +kernel
theorem dX6_goBack_141 : decode cX6_goBack 141 = .ok (.iaload, 1) := by decide +kernel
theorem dX6_goBack_142 : decode cX6_goBack 142 = .ok (.iadd, 1) := by decide +kernel
theorem dX6_goBack_143 : decode cX6_goBack 143 = .ok (.iastore, 1) := by decide +kernel
theorem dX6_goBack_144 : decode cX6_goBack 144 = .ok (.iconst (-1), 1) := by decide +kernel
theorem dX6_goBack_145 : decode cX6_goBack 145 = .ok (.ireturn, 1) := by decide +kernel
theorem dX6_failAttempt_0 : decode cX6_failAttempt 0 = .ok (.aload_n 0, 1) := by decide +kernel
theorem dX6_failAttempt_1 : decode cX6_failAttempt 1 = .ok (.iload_n 1, 1) := by decide +kernel
theorem dX6_failAttempt_2 : decode cX6_failAttempt 2 = .ok (.iconst 1, 1) := by decide +kernel
theorem dX6_failAttempt_3 : decode cX6_failAttempt 3 = .ok (.iconst 1, 1) := by decide +kernel
theorem dX6_failAttempt_4 : decode cX6_failAttempt 4 = .ok (.bipush 100, 2) := by decide +kernel
theorem dX6_failAttempt_6 : decode cX6_failAttempt 6 = .ok (.invokevirtual 197, 3) := by decide +kernel
theorem dX6_failAttempt_9 : decode cX6_failAttempt 9 = .ok (.pop, 1) := by decide +kernel
theorem dX6_failAttempt_10 : decode cX6_failAttempt 10 = .ok (.aload_n 0, 1) := by decide +kernel
theorem dX6_failAttempt_11 : decode cX6_failAttempt 11 = .ok (.getfield 28, 3) := by decide +kernel
theorem dX6_failAttempt_14 : decode cX6_failAttempt 14 = .ok (.getfield 110, 3) := by decide +kernel
theorem dX6_failAttempt_17 : decode cX6_failAttempt 17 = .ok (.iload_n 1, 1) := by decide +kernel
theorem dX6_failAttempt_18 : decode cX6_failAttempt 18 = .ok (.dup2, 1) := by decide +kernel
theorem dX6_failAttempt_19 : decode cX6_failAttempt 19 = .ok (.iaload, 1) := by decide +kernel
theorem dX6_failAttempt_20 : decode cX6_failAttempt 20 = .ok (.iconst 1, 1) := by decide +kernel
theorem dX6_failAttempt_21 : decode cX6_failAttempt 21 = .ok (.iload_n 2, 1) := by decide +kernel
theorem dX6_failAttempt_22 : decode cX6_failAttempt 22 = .ok (.ishl, 1) := by decide +kernel
theorem dX6_failAttempt_23 : decode cX6_failAttempt 23 = .ok (.ior, 1) := by decide +kernel
theorem dX6_failAttempt_24 : decode cX6_failAttempt 24 = .ok (.iastore, 1) := by decide +kernel
theorem dX6_failAttempt_25 : decode cX6_failAttempt 25 = .ok (.aload_n 0, 1) := by decide +kernel
theorem dX6_failAttempt_26 : decode cX6_failAttempt 26 = .ok (.getfield 28, 3) := by decide +kernel
theorem dX6_failAttempt_29 : decode cX6_failAttempt 29 = .ok (.getfield 201, 3) := by decide +kernel
theorem dX6_failAttempt_32 : decode cX6_failAttempt 32 = .ok (.iload_n 1, 1) := by decide +kernel
theorem dX6_failAttempt_33 : decode cX6_failAttempt 33 = .ok (.dup2, 1) := by decide +kernel
theorem dX6_failAttempt_34 : decode cX6_failAttempt 34 = .ok (.iaload, 1) := by decide +kernel
theorem dX6_failAttempt_35 : decode cX6_failAttempt 35 = .ok (.iconst 1, 1) := by decide +kernel
theorem dX6_failAttempt_36 : decode cX6_failAttempt 36 = .ok (.iadd, 1) := by decide +kernel
theorem dX6_failAttempt_37 : decode cX6_failAttempt 37 = .ok (.iastore, 1) := by decide +kernel
theorem dX6_failAttempt_38 : decode cX6_failAttempt 38 = .ok (.aload_n 0, 1) := by decide +kernel
theorem dX6_failAttempt_39 : decode cX6_failAttempt 39 = .ok (.getfield 28, 3) := by decide +kernel
theorem dX6_failAttempt_42 : decode cX6_failAttempt 42 = .ok (.getfield 204, 3) := by decide +kernel
theorem dX6_failAttempt_45 : decode cX6_failAttempt 45 = .ok (.iload_n 1, 1) := by decide +kernel
theorem dX6_failAttempt_46 : decode cX6_failAttempt 46 = .ok (.iload_n 2, 1) := by decide +kernel
theorem dX6_failAttempt_47 : decode cX6_failAttempt 47 = .ok (.iastore, 1) := by decide +kernel
theorem dX6_failAttempt_48 : decode cX6_failAttempt 48 = .ok (.aload_n 0, 1) := by decide +kernel
theorem dX6_failAttempt_49 : decode cX6_failAttempt 49 = .ok (.getfield 12, 3) := by decide +kernel
theorem dX6_failAttempt_52 : decode cX6_failAttempt 52 = .ok (.getfield 207, 3) := by decide +kernel
theorem dX6_failAttempt_55 : decode cX6_failAttempt 55 = .ok (.iload_n 2, 1) := by decide +kernel
theorem dX6_failAttempt_56 : decode cX6_failAttempt 56 = .ok (.dup2, 1) := by decide +kernel
theorem dX6_failAttempt_57 : decode cX6_failAttempt 57 = .ok (.iaload, 1) := by decide +kernel
theorem dX6_failAttempt_58 : decode cX6_failAttempt 58 = .ok (.iconst 1, 1) := by decide +kernel
theorem dX6_failAttempt_59 : decode cX6_failAttempt 59 = .ok (.iadd, 1) := by decide +kernel
theorem dX6_failAttempt_60 : decode cX6_failAttempt 60 = .ok (.iastore, 1) := by decide +kernel
theorem dX6_failAttempt_61 : decode cX6_failAttempt 61 = .ok (.aload_n 0, 1) := by decide +kernel
theorem dX6_failAttempt_62 : decode cX6_failAttempt 62 = .ok (.getfield 28, 3) := by decide +kernel
theorem dX6_failAttempt_65 : decode cX6_failAttempt 65 = .ok (.getfield 201, 3) := by decide +kernel
theorem dX6_failAttempt_68 : decode cX6_failAttempt 68 = .ok (.iload_n 1, 1) := by decide +kernel
theorem dX6_failAttempt_69 : decode cX6_failAttempt 69 = .ok (.iaload, 1) := by decide +kernel
theorem dX6_failAttempt_70 : decode cX6_failAttempt 70 = .ok (.aload_n 0, 1) := by decide +kernel
theorem dX6_failAttempt_71 : decode cX6_failAttempt 71 = .ok (.getfield 39, 3) := by decide +kernel
theorem dX6_failAttempt_74 : decode cX6_failAttempt 74 = .ok (.iconst 2, 1) := by decide +kernel
theorem dX6_failAttempt_75 : decode cX6_failAttempt 75 = .ok (.iaload, 1) := by decide +kernel
theorem dX6_failAttempt_76 : decode cX6_failAttempt 76 = .ok (.if_icmp .lt 12, 3) := by decide +kernel
theorem dX6_failAttempt_79 : decode cX6_failAttempt 79 = .ok (.aload_n 0, 1) := by decide +kernel
theorem dX6_failAttempt_80 : decode cX6_failAttempt 80 = .ok (.iload_n 1, 1) := by decide +kernel
theorem dX6_failAttempt_81 : decode cX6_failAttempt 81 = .ok (.iconst 4, 1) := by decide +kernel
theorem dX6_failAttempt_82 : decode cX6_failAttempt 82 = .ok (.invokevirtual 123, 3) := by decide +kernel
theorem dX6_failAttempt_85 : decode cX6_failAttempt 85 = .ok (.goto 34, 3) := by decide +kernel
theorem dX6_failAttempt_88 : decode cX6_failAttempt 88 = .ok (.aload_n 0, 1) := by decide +kernel
theorem dX6_failAttempt_89 : decode cX6_failAttempt 89 = .ok (.getfield 28, 3) := by decide +kernel
theorem dX6_failAttempt_92 : decode cX6_failAttempt 92 = .ok (.getfield 93, 3) := by decide +kernel
theorem dX6_failAttempt_95 : decode cX6_failAttempt 95 = .ok (.iload_n 1, 1) := by decide +kernel
theorem dX6_failAttempt_96 : decode cX6_failAttempt 96 = .ok (.bipush 7, 2) := by decide +kernel
theorem dX6_failAttempt_98 : decode cX6_failAttempt 98 = .ok (.iastore, 1) := by decide +kernel
theorem dX6_failAttempt_99 : decode cX6_failAttempt 99 = .ok (.aload_n 0, 1) := by decide +kernel
theorem dX6_failAttempt_100 : decode cX6_failAttempt 100 = .ok (.getfield 28, 3) := by decide +kernel
theorem dX6_failAttempt_103 : decode cX6_failAttempt 103 = .ok (.getfield 90, 3) := by decide +kernel
theorem dX6_failAttempt_106 : decode cX6_failAttempt 106 = .ok (.iload_n 1, 1) := by decide +kernel
theorem dX6_failAttempt_107 : decode cX6_failAttempt 107 = .ok (.aload_n 0, 1) := by decide +kernel
theorem dX6_failAttempt_108 : decode cX6_failAttempt 108 = .ok (.getfield 51, 3) := by decide +kernel
theorem dX6_failAttempt_111 : decode cX6_failAttempt 111 = .ok (.aload_n 0, 1) := by decide +kernel
theorem dX6_failAttempt_112 : decode cX6_failAttempt 112 = .ok (.getfield 39, 3) := by decide +kernel
theorem dX6_failAttempt_115 : decode cX6_failAttempt 115 = .ok (.iconst 1, 1) := by decide +kernel
theorem dX6_failAttempt_116 : decode cX6_failAttempt 116 = .ok (.iaload, 1) := by decide +kernel
theorem dX6_failAttempt_117 : decode cX6_failAttempt 117 = .ok (.iadd, 1) := by decide +kernel
theorem dX6_failAttempt_118 : decode cX6_failAttempt 118 = .ok (.iastore, 1) := by decide +kernel
theorem dX6_failAttempt_119 : decode cX6_failAttempt 119 = .ok (.return_, 1) := by decide +kernel
theorem dX6_settle_0 : decode cX6_settle 0 = .ok (.aload_n 0, 1) := by decide +kernel
theorem dX6_settle_1 : decode cX6_settle 1 = .ok (.getfield 28, 3) := by decide +kernel
theorem dX6_settle_4 : decode cX6_settle 4 = .ok (.getfield 93, 3) := by decide +kernel
theorem dX6_settle_7 : decode cX6_settle 7 = .ok (.iload_n 1, 1) := by decide +kernel
theorem dX6_settle_8 : decode cX6_settle 8 = .ok (.iload_n 2, 1) := by decide +kernel
theorem dX6_settle_9 : decode cX6_settle 9 = .ok (.iastore, 1) := by decide +kernel
theorem dX6_settle_10 : decode cX6_settle 10 = .ok (.aload_n 0, 1) := by decide +kernel
theorem dX6_settle_11 : decode cX6_settle 11 = .ok (.getfield 28, 3) := by decide +kernel
theorem dX6_settle_14 : decode cX6_settle 14 = .ok (.getfield 90, 3) := by decide +kernel
theorem dX6_settle_17 : decode cX6_settle 17 = .ok (.iload_n 1, 1) := by decide +kernel
theorem dX6_settle_18 : decode cX6_settle 18 = .ok (.iconst (-1), 1) := by decide +kernel
theorem dX6_settle_19 : decode cX6_settle 19 = .ok (.iastore, 1) := by decide +kernel
theorem dX6_settle_20 : decode cX6_settle 20 = .ok (.return_, 1) := by decide +kernel
theorem dX6_releaseAll_0 : decode cX6_releaseAll 0 = .ok (.iconst 0, 1) := by decide +kernel
theorem dX6_releaseAll_1 : decode cX6_releaseAll 1 = .ok (.istore 5, 2) := by decide +kernel
theorem dX6_releaseAll_3 : decode cX6_releaseAll 3 = .ok (.iconst 0, 1) := by decide +kernel
theorem dX6_releaseAll_4 : decode cX6_releaseAll 4 = .ok (.istore 6, 2) := by decide +kernel
theorem dX6_releaseAll_6 : decode cX6_releaseAll 6 = .ok (.iload 6, 2) := by decide +kernel
theorem dX6_releaseAll_8 : decode cX6_releaseAll 8 = .ok (.aload_n 0, 1) := by decide +kernel
theorem dX6_releaseAll_9 : decode cX6_releaseAll 9 = .ok (.getfield 21, 3) := by decide +kernel
theorem dX6_releaseAll_12 : decode cX6_releaseAll 12 = .ok (.getfield 69, 3) := by decide +kernel
theorem dX6_releaseAll_15 : decode cX6_releaseAll 15 = .ok (.if_icmp .ge 92, 3) := by decide +kernel
theorem dX6_releaseAll_18 : decode cX6_releaseAll 18 = .ok (.aload_n 0, 1) := by decide +kernel
theorem dX6_releaseAll_19 : decode cX6_releaseAll 19 = .ok (.getfield 21, 3) := by decide +kernel
theorem dX6_releaseAll_22 : decode cX6_releaseAll 22 = .ok (.getfield 163, 3) := by decide +kernel
theorem dX6_releaseAll_25 : decode cX6_releaseAll 25 = .ok (.iload 6, 2) := by decide +kernel
theorem dX6_releaseAll_27 : decode cX6_releaseAll 27 = .ok (.iaload, 1) := by decide +kernel
theorem dX6_releaseAll_28 : decode cX6_releaseAll 28 = .ok (.iload_n 1, 1) := by decide +kernel
theorem dX6_releaseAll_29 : decode cX6_releaseAll 29 = .ok (.if_icmp .ne 72, 3) := by decide +kernel
theorem dX6_releaseAll_32 : decode cX6_releaseAll 32 = .ok (.aload_n 0, 1) := by decide +kernel
theorem dX6_releaseAll_33 : decode cX6_releaseAll 33 = .ok (.getfield 21, 3) := by decide +kernel
theorem dX6_releaseAll_36 : decode cX6_releaseAll 36 = .ok (.iload 6, 2) := by decide +kernel
theorem dX6_releaseAll_38 : decode cX6_releaseAll 38 = .ok (.invokevirtual 208, 3) := by decide +kernel
theorem dX6_releaseAll_41 : decode cX6_releaseAll 41 = .ok (.ifCond .eq 60, 3) := by decide +kernel
theorem dX6_releaseAll_44 : decode cX6_releaseAll 44 = .ok (.iload_n 3, 1) := by decide +kernel
theorem dX6_releaseAll_45 : decode cX6_releaseAll 45 = .ok (.iconst 1, 1) := by decide +kernel
theorem dX6_releaseAll_46 : decode cX6_releaseAll 46 = .ok (.if_icmp .ge 7, 3) := by decide +kernel
theorem dX6_releaseAll_49 : decode cX6_releaseAll 49 = .ok (.lconst 0, 1) := by decide +kernel
theorem dX6_releaseAll_50 : decode cX6_releaseAll 50 = .ok (.goto 20, 3) := by decide +kernel
theorem dX6_releaseAll_53 : decode cX6_releaseAll 53 = .ok (.aload_n 0, 1) := by decide +kernel
theorem dX6_releaseAll_54 : decode cX6_releaseAll 54 = .ok (.getfield 21, 3) := by decide +kernel
theorem dX6_releaseAll_57 : decode cX6_releaseAll 57 = .ok (.getfield 175, 3) := by decide +kernel
theorem dX6_releaseAll_60 : decode cX6_releaseAll 60 = .ok (.iload 6, 2) := by decide +kernel
theorem dX6_releaseAll_62 : decode cX6_releaseAll 62 = .ok (.iaload, 1) := by decide +kernel
theorem dX6_releaseAll_63 : decode cX6_releaseAll 63 = .ok (.i2l, 1) := by decide +kernel
theorem dX6_releaseAll_64 : decode cX6_releaseAll 64 = .ok (.iload_n 2, 1) := by decide +kernel
theorem dX6_releaseAll_65 : decode cX6_releaseAll 65 = .ok (.i2l, 1) := by decide +kernel
theorem dX6_releaseAll_66 : decode cX6_releaseAll 66 = .ok (.lmul, 1) := by decide +kernel
theorem dX6_releaseAll_67 : decode cX6_releaseAll 67 = .ok (.iload_n 3, 1) := by decide +kernel
theorem dX6_releaseAll_68 : decode cX6_releaseAll 68 = .ok (.i2l, 1) := by decide +kernel
theorem dX6_releaseAll_69 : decode cX6_releaseAll 69 = .ok (.ldiv, 1) := by decide +kernel
theorem dX6_releaseAll_70 : decode cX6_releaseAll 70 = .ok (.lstore 7, 2) := by decide +kernel
theorem dX6_releaseAll_72 : decode cX6_releaseAll 72 = .ok (.lload 7, 2) := by decide +kernel
theorem dX6_releaseAll_74 : decode cX6_releaseAll 74 = .ok (.iload 4, 2) := by decide +kernel
theorem dX6_releaseAll_76 : decode cX6_releaseAll 76 = .ok (.i2l, 1) := by decide +kernel
theorem dX6_releaseAll_77 : decode cX6_releaseAll 77 = .ok (.lmul, 1) := by decide +kernel
theorem dX6_releaseAll_78 : decode cX6_releaseAll 78 = .ok (.ldc2_w 211, 3) := by decide +kernel
theorem dX6_releaseAll_81 : decode cX6_releaseAll 81 = .ok (.ldiv, 1) := by decide +kernel
theorem dX6_releaseAll_82 : decode cX6_releaseAll 82 = .ok (.l2i, 1) := by decide +kernel
theorem dX6_releaseAll_83 : decode cX6_releaseAll 83 = .ok (.istore 9, 2) := by decide +kernel
theorem dX6_releaseAll_85 : decode cX6_releaseAll 85 = .ok (.aload_n 0, 1) := by decide +kernel
theorem dX6_releaseAll_86 : decode cX6_releaseAll 86 = .ok (.iload 6, 2) := by decide +kernel
theorem dX6_releaseAll_88 : decode cX6_releaseAll 88 = .ok (.iconst 3, 1) := by decide +kernel
theorem dX6_releaseAll_89 : decode cX6_releaseAll 89 = .ok (.iload 9, 2) := by decide +kernel
theorem dX6_releaseAll_91 : decode cX6_releaseAll 91 = .ok (.invokevirtual 213, 3) := by decide +kernel
theorem dX6_releaseAll_94 : decode cX6_releaseAll 94 = .ok (.iload 5, 2) := by decide +kernel
theorem dX6_releaseAll_96 : decode cX6_releaseAll 96 = .ok (.iload 9, 2) := by decide +kernel
theorem dX6_releaseAll_98 : decode cX6_releaseAll 98 = .ok (.iadd, 1) := by decide +kernel
theorem dX6_releaseAll_99 : decode cX6_releaseAll 99 = .ok (.istore 5, 2) := by decide +kernel
theorem dX6_releaseAll_101 : decode cX6_releaseAll 101 = .ok (.iinc 6 1, 3) := by decide +kernel
theorem dX6_releaseAll_104 : decode cX6_releaseAll 104 = .ok (.goto (-98), 3) := by decide +kernel
theorem dX6_releaseAll_107 : decode cX6_releaseAll 107 = .ok (.iload 5, 2) := by decide +kernel
theorem dX6_releaseAll_109 : decode cX6_releaseAll 109 = .ok (.ireturn, 1) := by decide +kernel
theorem dX6_release_0 : decode cX6_release 0 = .ok (.aload_n 0, 1) := by decide +kernel
theorem dX6_release_1 : decode cX6_release 1 = .ok (.getfield 21, 3) := by decide +kernel
theorem dX6_release_4 : decode cX6_release 4 = .ok (.getfield 174, 3) := by decide +kernel
theorem dX6_release_7 : decode cX6_release 7 = .ok (.iload_n 1, 1) := by decide +kernel
theorem dX6_release_8 : decode cX6_release 8 = .ok (.iload_n 2, 1) := by decide +kernel
theorem dX6_release_9 : decode cX6_release 9 = .ok (.iastore, 1) := by decide +kernel
theorem dX6_release_10 : decode cX6_release 10 = .ok (.aload_n 0, 1) := by decide +kernel
theorem dX6_release_11 : decode cX6_release 11 = .ok (.getfield 21, 3) := by decide +kernel
theorem dX6_release_14 : decode cX6_release 14 = .ok (.getfield 179, 3) := by decide +kernel
theorem dX6_release_17 : decode cX6_release 17 = .ok (.iload_n 1, 1) := by decide +kernel
theorem dX6_release_18 : decode cX6_release 18 = .ok (.dup2, 1) := by decide +kernel
theorem dX6_release_19 : decode cX6_release 19 = .ok (.iaload, 1) := by decide +kernel
theorem dX6_release_20 : decode cX6_release 20 = .ok (.iload_n 3, 1) := by decide +kernel
theorem dX6_release_21 : decode cX6_release 21 = .ok (.iadd, 1) := by decide +kernel
theorem dX6_release_22 : decode cX6_release 22 = .ok (.iastore, 1) := by decide +kernel
theorem dX6_release_23 : decode cX6_release 23 = .ok (.aload_n 0, 1) := by decide +kernel
theorem dX6_release_24 : decode cX6_release 24 = .ok (.getfield 28, 3) := by decide +kernel
theorem dX6_release_27 : decode cX6_release 27 = .ok (.getfield 217, 3) := by decide +kernel
theorem dX6_release_30 : decode cX6_release 30 = .ok (.aload_n 0, 1) := by decide +kernel
theorem dX6_release_31 : decode cX6_release 31 = .ok (.getfield 21, 3) := by decide +kernel
theorem dX6_release_34 : decode cX6_release 34 = .ok (.getfield 163, 3) := by decide +kernel
theorem dX6_release_37 : decode cX6_release 37 = .ok (.iload_n 1, 1) := by decide +kernel
theorem dX6_release_38 : decode cX6_release 38 = .ok (.iaload, 1) := by decide +kernel
theorem dX6_release_39 : decode cX6_release 39 = .ok (.dup2, 1) := by decide +kernel
theorem dX6_release_40 : decode cX6_release 40 = .ok (.iaload, 1) := by decide +kernel
theorem dX6_release_41 : decode cX6_release 41 = .ok (.iload_n 3, 1) := by decide +kernel
theorem dX6_release_42 : decode cX6_release 42 = .ok (.iadd, 1) := by decide +kernel
theorem dX6_release_43 : decode cX6_release 43 = .ok (.iastore, 1) := by decide +kernel
theorem dX6_release_44 : decode cX6_release 44 = .ok (.aload_n 0, 1) := by decide +kernel
theorem dX6_release_45 : decode cX6_release 45 = .ok (.getfield 12, 3) := by decide +kernel
theorem dX6_release_48 : decode cX6_release 48 = .ok (.getfield 182, 3) := by decide +kernel
theorem dX6_release_51 : decode cX6_release 51 = .ok (.aload_n 0, 1) := by decide +kernel
theorem dX6_release_52 : decode cX6_release 52 = .ok (.getfield 21, 3) := by decide +kernel
theorem dX6_release_55 : decode cX6_release 55 = .ok (.getfield 166, 3) := by decide +kernel
theorem dX6_release_58 : decode cX6_release 58 = .ok (.iload_n 1, 1) := by decide +kernel
theorem dX6_release_59 : decode cX6_release 59 = .ok (.iaload, 1) := by decide +kernel
theorem dX6_release_60 : decode cX6_release 60 = .ok (.dup2, 1) := by decide +kernel
theorem dX6_release_61 : decode cX6_release 61 = .ok (.iaload, 1) := by decide +kernel
theorem dX6_release_62 : decode cX6_release 62 = .ok (.aload_n 0, 1) := by decide +kernel
theorem dX6_release_63 : decode cX6_release 63 = .ok (.getfield 21, 3) := by decide +kernel
theorem dX6_release_66 : decode cX6_release 66 = .ok (.getfield 167, 3) := by decide +kernel
theorem dX6_release_69 : decode cX6_release 69 = .ok (.iload_n 1, 1) := by decide +kernel
theorem dX6_release_70 : decode cX6_release 70 = .ok (.iaload, 1) := by decide +kernel
theorem dX6_release_71 : decode cX6_release 71 = .ok (.isub, 1) := by decide +kernel
theorem dX6_release_72 : decode cX6_release 72 = .ok (.iastore, 1) := by decide +kernel
theorem dX6_release_73 : decode cX6_release 73 = .ok (.return_, 1) := by decide +kernel
theorem dX6_revenueNow_0 : decode cX6_revenueNow 0 = .ok (.aload_n 0, 1) := by decide +kernel
theorem dX6_revenueNow_1 : decode cX6_revenueNow 1 = .ok (.getfield 28, 3) := by decide +kernel
theorem dX6_revenueNow_4 : decode cX6_revenueNow 4 = .ok (.aload_n 0, 1) := by decide +kernel
theorem dX6_revenueNow_5 : decode cX6_revenueNow 5 = .ok (.getfield 28, 3) := by decide +kernel
theorem dX6_revenueNow_8 : decode cX6_revenueNow 8 = .ok (.getfield 185, 3) := by decide +kernel
theorem dX6_revenueNow_11 : decode cX6_revenueNow 11 = .ok (.invokevirtual 218, 3) := by decide +kernel
theorem dX6_revenueNow_14 : decode cX6_revenueNow 14 = .ok (.aload_n 0, 1) := by decide +kernel
theorem dX6_revenueNow_15 : decode cX6_revenueNow 15 = .ok (.getfield 28, 3) := by decide +kernel
theorem dX6_revenueNow_18 : decode cX6_revenueNow 18 = .ok (.aload_n 0, 1) := by decide +kernel
theorem dX6_revenueNow_19 : decode cX6_revenueNow 19 = .ok (.getfield 28, 3) := by decide +kernel
theorem dX6_revenueNow_22 : decode cX6_revenueNow 22 = .ok (.getfield 217, 3) := by decide +kernel
theorem dX6_revenueNow_25 : decode cX6_revenueNow 25 = .ok (.invokevirtual 218, 3) := by decide +kernel
theorem dX6_revenueNow_28 : decode cX6_revenueNow 28 = .ok (.lsub, 1) := by decide +kernel
theorem dX6_revenueNow_29 : decode cX6_revenueNow 29 = .ok (.lreturn, 1) := by decide +kernel
theorem dX6_cancelRequest_0 : decode cX6_cancelRequest 0 = .ok (.aload_n 0, 1) := by decide +kernel
theorem dX6_cancelRequest_1 : decode cX6_cancelRequest 1 = .ok (.getfield 28, 3) := by decide +kernel
theorem dX6_cancelRequest_4 : decode cX6_cancelRequest 4 = .ok (.getfield 93, 3) := by decide +kernel
theorem dX6_cancelRequest_7 : decode cX6_cancelRequest 7 = .ok (.iload_n 1, 1) := by decide +kernel
theorem dX6_cancelRequest_8 : decode cX6_cancelRequest 8 = .ok (.iaload, 1) := by decide +kernel
theorem dX6_cancelRequest_9 : decode cX6_cancelRequest 9 = .ok (.iconst 2, 1) := by decide +kernel
theorem dX6_cancelRequest_10 : decode cX6_cancelRequest 10 = .ok (.if_icmp .ne 7, 3) := by decide +kernel
theorem dX6_cancelRequest_13 : decode cX6_cancelRequest 13 = .ok (.iconst 1, 1) := by decide +kernel
theorem dX6_cancelRequest_14 : decode cX6_cancelRequest 14 = .ok (.goto 4, 3) := by decide +kernel
theorem dX6_cancelRequest_17 : decode cX6_cancelRequest 17 = .ok (.iconst 0, 1) := by decide +kernel
theorem dX6_cancelRequest_18 : decode cX6_cancelRequest 18 = .ok (.istore_n 2, 1) := by decide +kernel
theorem dX6_cancelRequest_19 : decode cX6_cancelRequest 19 = .ok (.iload_n 2, 1) := by decide +kernel
theorem dX6_cancelRequest_20 : decode cX6_cancelRequest 20 = .ok (.ifCond .eq 20, 3) := by decide +kernel
theorem dX6_cancelRequest_23 : decode cX6_cancelRequest 23 = .ok (.aload_n 0, 1) := by decide +kernel
theorem dX6_cancelRequest_24 : decode cX6_cancelRequest 24 = .ok (.getfield 28, 3) := by decide +kernel
theorem dX6_cancelRequest_27 : decode cX6_cancelRequest 27 = .ok (.getfield 191, 3) := by decide +kernel
theorem dX6_cancelRequest_30 : decode cX6_cancelRequest 30 = .ok (.iload_n 1, 1) := by decide +kernel
theorem dX6_cancelRequest_31 : decode cX6_cancelRequest 31 = .ok (.iaload, 1) := by decide +kernel
theorem dX6_cancelRequest_32 : decode cX6_cancelRequest 32 = .ok (.aload_n 0, 1) := by decide +kernel
theorem dX6_cancelRequest_33 : decode cX6_cancelRequest 33 = .ok (.getfield 51, 3) := by decide +kernel
theorem dX6_cancelRequest_36 : decode cX6_cancelRequest 36 = .ok (.isub, 1) := by decide +kernel
theorem dX6_cancelRequest_37 : decode cX6_cancelRequest 37 = .ok (.goto 4, 3) := by decide +kernel
theorem dX6_cancelRequest_40 : decode cX6_cancelRequest 40 = .ok (.iconst 1, 1) := by decide +kernel
theorem dX6_cancelRequest_41 : decode cX6_cancelRequest 41 = .ok (.istore_n 3, 1) := by decide +kernel
theorem dX6_cancelRequest_42 : decode cX6_cancelRequest 42 = .ok (.iload_n 2, 1) := by decide +kernel
theorem dX6_cancelRequest_43 : decode cX6_cancelRequest 43 = .ok (.ifCond .eq 15, 3) := by decide +kernel
theorem dX6_cancelRequest_46 : decode cX6_cancelRequest 46 = .ok (.aload_n 0, 1) := by decide +kernel
theorem dX6_cancelRequest_47 : decode cX6_cancelRequest 47 = .ok (.getfield 28, 3) := by decide +kernel
theorem dX6_cancelRequest_50 : decode cX6_cancelRequest 50 = .ok (.getfield 194, 3) := by decide +kernel
theorem dX6_cancelRequest_53 : decode cX6_cancelRequest 53 = .ok (.iload_n 1, 1) := by decide +kernel
theorem dX6_cancelRequest_54 : decode cX6_cancelRequest 54 = .ok (.iaload, 1) := by decide +kernel
theorem dX6_cancelRequest_55 : decode cX6_cancelRequest 55 = .ok (.goto 4, 3) := by decide +kernel
theorem dX6_cancelRequest_58 : decode cX6_cancelRequest 58 = .ok (.iconst 1, 1) := by decide +kernel
theorem dX6_cancelRequest_59 : decode cX6_cancelRequest 59 = .ok (.istore 4, 2) := by decide +kernel
theorem dX6_cancelRequest_61 : decode cX6_cancelRequest 61 = .ok (.aload_n 0, 1) := by decide +kernel
theorem dX6_cancelRequest_62 : decode cX6_cancelRequest 62 = .ok (.iload_n 1, 1) := by decide +kernel
theorem dX6_cancelRequest_63 : decode cX6_cancelRequest 63 = .ok (.iconst 5, 1) := by decide +kernel
theorem dX6_cancelRequest_64 : decode cX6_cancelRequest 64 = .ok (.invokevirtual 123, 3) := by decide +kernel
theorem dX6_cancelRequest_67 : decode cX6_cancelRequest 67 = .ok (.aload_n 0, 1) := by decide +kernel
theorem dX6_cancelRequest_68 : decode cX6_cancelRequest 68 = .ok (.getfield 28, 3) := by decide +kernel
theorem dX6_cancelRequest_71 : decode cX6_cancelRequest 71 = .ok (.getfield 191, 3) := by decide +kernel
theorem dX6_cancelRequest_74 : decode cX6_cancelRequest 74 = .ok (.iload_n 1, 1) := by decide +kernel
theorem dX6_cancelRequest_75 : decode cX6_cancelRequest 75 = .ok (.aload_n 0, 1) := by decide +kernel
theorem dX6_cancelRequest_76 : decode cX6_cancelRequest 76 = .ok (.getfield 51, 3) := by decide +kernel
theorem dX6_cancelRequest_79 : decode cX6_cancelRequest 79 = .ok (.iastore, 1) := by decide +kernel
theorem dX6_cancelRequest_80 : decode cX6_cancelRequest 80 = .ok (.aload_n 0, 1) := by decide +kernel
theorem dX6_cancelRequest_81 : decode cX6_cancelRequest 81 = .ok (.iload_n 1, 1) := by decide +kernel
theorem dX6_cancelRequest_82 : decode cX6_cancelRequest 82 = .ok (.iload_n 3, 1) := by decide +kernel
theorem dX6_cancelRequest_83 : decode cX6_cancelRequest 83 = .ok (.iload 4, 2) := by decide +kernel
theorem dX6_cancelRequest_85 : decode cX6_cancelRequest 85 = .ok (.aload_n 0, 1) := by decide +kernel
theorem dX6_cancelRequest_86 : decode cX6_cancelRequest 86 = .ok (.getfield 39, 3) := by decide +kernel
theorem dX6_cancelRequest_89 : decode cX6_cancelRequest 89 = .ok (.iconst 4, 1) := by decide +kernel
theorem dX6_cancelRequest_90 : decode cX6_cancelRequest 90 = .ok (.iaload, 1) := by decide +kernel
theorem dX6_cancelRequest_91 : decode cX6_cancelRequest 91 = .ok (.invokevirtual 197, 3) := by decide +kernel
theorem dX6_cancelRequest_94 : decode cX6_cancelRequest 94 = .ok (.ireturn, 1) := by decide +kernel
theorem dX6_closeLink_0 : decode cX6_closeLink 0 = .ok (.iconst 0, 1) := by decide +kernel
theorem dX6_closeLink_1 : decode cX6_closeLink 1 = .ok (.istore_n 2, 1) := by decide +kernel
theorem dX6_closeLink_2 : decode cX6_closeLink 2 = .ok (.aload_n 0, 1) := by decide +kernel
theorem dX6_closeLink_3 : decode cX6_closeLink 3 = .ok (.getfield 12, 3) := by decide +kernel
theorem dX6_closeLink_6 : decode cX6_closeLink 6 = .ok (.dup, 1) := by decide +kernel
theorem dX6_closeLink_7 : decode cX6_closeLink 7 = .ok (.getfield 66, 3) := by decide +kernel
theorem dX6_closeLink_10 : decode cX6_closeLink 10 = .ok (.iconst 1, 1) := by decide +kernel
theorem dX6_closeLink_11 : decode cX6_closeLink 11 = .ok (.iload_n 1, 1) := by decide +kernel
theorem dX6_closeLink_12 : decode cX6_closeLink 12 = .ok (.ishl, 1) := by decide +kernel
theorem dX6_closeLink_13 : decode cX6_closeLink 13 = .ok (.iconst (-1), 1) := by decide +kernel
theorem dX6_closeLink_14 : decode cX6_closeLink 14 = .ok (.ixor, 1) := by decide +kernel
theorem dX6_closeLink_15 : decode cX6_closeLink 15 = .ok (.iand, 1) := by decide +kernel
theorem dX6_closeLink_16 : decode cX6_closeLink 16 = .ok (.putfield 66, 3) := by decide +kernel
theorem dX6_closeLink_19 : decode cX6_closeLink 19 = .ok (.iconst 0, 1) := by decide +kernel
theorem dX6_closeLink_20 : decode cX6_closeLink 20 = .ok (.istore_n 3, 1) := by decide +kernel
theorem dX6_closeLink_21 : decode cX6_closeLink 21 = .ok (.iload_n 3, 1) := by decide +kernel
theorem dX6_closeLink_22 : decode cX6_closeLink 22 = .ok (.aload_n 0, 1) := by decide +kernel
theorem dX6_closeLink_23 : decode cX6_closeLink 23 = .ok (.getfield 28, 3) := by decide +kernel
theorem dX6_closeLink_26 : decode cX6_closeLink 26 = .ok (.getfield 70, 3) := by decide +kernel
theorem dX6_closeLink_29 : decode cX6_closeLink 29 = .ok (.if_icmp .ge 97, 3) := by decide +kernel
theorem dX6_closeLink_32 : decode cX6_closeLink 32 = .ok (.aload_n 0, 1) := by decide +kernel
theorem dX6_closeLink_33 : decode cX6_closeLink 33 = .ok (.getfield 21, 3) := by decide +kernel
theorem dX6_closeLink_36 : decode cX6_closeLink 36 = .ok (.iload_n 3, 1) := by decide +kernel
theorem dX6_closeLink_37 : decode cX6_closeLink 37 = .ok (.iload_n 1, 1) := by decide +kernel
theorem dX6_closeLink_38 : decode cX6_closeLink 38 = .ok (.invokevirtual 222, 3) := by decide +kernel
theorem dX6_closeLink_41 : decode cX6_closeLink 41 = .ok (.ifCond .eq 79, 3) := by decide +kernel
theorem dX6_closeLink_44 : decode cX6_closeLink 44 = .ok (.iinc 2 1, 3) := by decide +kernel
theorem dX6_closeLink_47 : decode cX6_closeLink 47 = .ok (.aload_n 0, 1) := by decide +kernel
theorem dX6_closeLink_48 : decode cX6_closeLink 48 = .ok (.getfield 28, 3) := by decide +kernel
theorem dX6_closeLink_51 : decode cX6_closeLink 51 = .ok (.getfield 93, 3) := by decide +kernel
theorem dX6_closeLink_54 : decode cX6_closeLink 54 = .ok (.iload_n 3, 1) := by decide +kernel
theorem dX6_closeLink_55 : decode cX6_closeLink 55 = .ok (.iaload, 1) := by decide +kernel
theorem dX6_closeLink_56 : decode cX6_closeLink 56 = .ok (.iconst 2, 1) := by decide +kernel
theorem dX6_closeLink_57 : decode cX6_closeLink 57 = .ok (.if_icmp .ne 57, 3) := by decide +kernel
theorem dX6_closeLink_60 : decode cX6_closeLink 60 = .ok (.aload_n 0, 1) := by decide +kernel
theorem dX6_closeLink_61 : decode cX6_closeLink 61 = .ok (.iload_n 3, 1) := by decide +kernel
theorem dX6_closeLink_62 : decode cX6_closeLink 62 = .ok (.aload_n 0, 1) := by decide +kernel
theorem dX6_closeLink_63 : decode cX6_closeLink 63 = .ok (.getfield 28, 3) := by decide +kernel
theorem dX6_closeLink_66 : decode cX6_closeLink 66 = .ok (.getfield 191, 3) := by decide +kernel
theorem dX6_closeLink_69 : decode cX6_closeLink 69 = .ok (.iload_n 3, 1) := by decide +kernel
theorem dX6_closeLink_70 : decode cX6_closeLink 70 = .ok (.iaload, 1) := by decide +kernel
theorem dX6_closeLink_71 : decode cX6_closeLink 71 = .ok (.aload_n 0, 1) := by decide +kernel
theorem dX6_closeLink_72 : decode cX6_closeLink 72 = .ok (.getfield 51, 3) := by decide +kernel
theorem dX6_closeLink_75 : decode cX6_closeLink 75 = .ok (.isub, 1) := by decide +kernel
theorem dX6_closeLink_76 : decode cX6_closeLink 76 = .ok (.aload_n 0, 1) := by decide +kernel
theorem dX6_closeLink_77 : decode cX6_closeLink 77 = .ok (.getfield 28, 3) := by decide +kernel
theorem dX6_closeLink_80 : decode cX6_closeLink 80 = .ok (.getfield 194, 3) := by decide +kernel
theorem dX6_closeLink_83 : decode cX6_closeLink 83 = .ok (.iload_n 3, 1) := by decide +kernel
theorem dX6_closeLink_84 : decode cX6_closeLink 84 = .ok (.iaload, 1) := by decide +kernel
theorem dX6_closeLink_85 : decode cX6_closeLink 85 = .ok (.bipush 100, 2) := by decide +kernel
theorem dX6_closeLink_87 : decode cX6_closeLink 87 = .ok (.invokevirtual 197, 3) := by decide +kernel
theorem dX6_closeLink_90 : decode cX6_closeLink 90 = .ok (.pop, 1) := by decide +kernel
theorem dX6_closeLink_91 : decode cX6_closeLink 91 = .ok (.aload_n 0, 1) := by decide +kernel
theorem dX6_closeLink_92 : decode cX6_closeLink 92 = .ok (.iload_n 3, 1) := by decide +kernel
theorem dX6_closeLink_93 : decode cX6_closeLink 93 = .ok (.bipush 6, 2) := by decide +kernel
theorem dX6_closeLink_95 : decode cX6_closeLink 95 = .ok (.invokevirtual 123, 3) := by decide +kernel
theorem dX6_closeLink_98 : decode cX6_closeLink 98 = .ok (.aload_n 0, 1) := by decide +kernel
theorem dX6_closeLink_99 : decode cX6_closeLink 99 = .ok (.getfield 28, 3) := by decide +kernel
theorem dX6_closeLink_102 : decode cX6_closeLink 102 = .ok (.getfield 191, 3) := by decide +kernel
theorem dX6_closeLink_105 : decode cX6_closeLink 105 = .ok (.iload_n 3, 1) := by decide +kernel
theorem dX6_closeLink_106 : decode cX6_closeLink 106 = .ok (.aload_n 0, 1) := by decide +kernel
theorem dX6_closeLink_107 : decode cX6_closeLink 107 = .ok (.getfield 51, 3) := by decide +kernel
theorem dX6_closeLink_110 : decode cX6_closeLink 110 = .ok (.iastore, 1) := by decide +kernel
theorem dX6_closeLink_111 : decode cX6_closeLink 111 = .ok (.goto 9, 3) := by decide +kernel
theorem dX6_closeLink_114 : decode cX6_closeLink 114 = .ok (.aload_n 0, 1) := by decide +kernel
theorem dX6_closeLink_115 : decode cX6_closeLink 115 = .ok (.iload_n 3, 1) := by decide +kernel
theorem dX6_closeLink_116 : decode cX6_closeLink 116 = .ok (.iload_n 1, 1) := by decide +kernel
theorem dX6_closeLink_117 : decode cX6_closeLink 117 = .ok (.invokevirtual 106, 3) := by decide +kernel
theorem dX6_closeLink_120 : decode cX6_closeLink 120 = .ok (.iinc 3 1, 3) := by decide +kernel
theorem dX6_closeLink_123 : decode cX6_closeLink 123 = .ok (.goto (-102), 3) := by decide +kernel
theorem dX6_closeLink_126 : decode cX6_closeLink 126 = .ok (.iload_n 2, 1) := by decide +kernel
theorem dX6_closeLink_127 : decode cX6_closeLink 127 = .ok (.ireturn, 1) := by decide +kernel
theorem dX6_nextHappening_0 : decode cX6_nextHappening 0 = .ok (.aload_n 0, 1) := by decide +kernel
theorem dX6_nextHappening_1 : decode cX6_nextHappening 1 = .ok (.getfield 21, 3) := by decide +kernel
theorem dX6_nextHappening_4 : decode cX6_nextHappening 4 = .ok (.invokevirtual 226, 3) := by decide +kernel
theorem dX6_nextHappening_7 : decode cX6_nextHappening 7 = .ok (.istore_n 1, 1) := by decide +kernel
theorem dX6_nextHappening_8 : decode cX6_nextHappening 8 = .ok (.iconst 0, 1) := by decide +kernel
theorem dX6_nextHappening_9 : decode cX6_nextHappening 9 = .ok (.istore_n 2, 1) := by decide +kernel
theorem dX6_nextHappening_10 : decode cX6_nextHappening 10 = .ok (.iload_n 2, 1) := by decide +kernel
theorem dX6_nextHappening_11 : decode cX6_nextHappening 11 = .ok (.aload_n 0, 1) := by decide +kernel
theorem dX6_nextHappening_12 : decode cX6_nextHappening 12 = .ok (.getfield 28, 3) := by decide +kernel
theorem dX6_nextHappening_15 : decode cX6_nextHappening 15 = .ok (.getfield 70, 3) := by decide +kernel
theorem dX6_nextHappening_18 : decode cX6_nextHappening 18 = .ok (.if_icmp .ge 75, 3) := by decide +kernel
theorem dX6_nextHappening_21 : decode cX6_nextHappening 21 = .ok (.aload_n 0, 1) := by decide +kernel
theorem dX6_nextHappening_22 : decode cX6_nextHappening 22 = .ok (.getfield 28, 3) := by decide +kernel
theorem dX6_nextHappening_25 : decode cX6_nextHappening 25 = .ok (.getfield 93, 3) := by decide +kernel
theorem dX6_nextHappening_28 : decode cX6_nextHappening 28 = .ok (.iload_n 2, 1) := by decide +kernel
theorem dX6_nextHappening_29 : decode cX6_nextHappening 29 = .ok (.iaload, 1) := by decide +kernel
theorem dX6_nextHappening_30 : decode cX6_nextHappening 30 = .ok (.iconst 2, 1) := by decide +kernel
theorem dX6_nextHappening_31 : decode cX6_nextHappening 31 = .ok (.if_icmp .ne 7, 3) := by decide +kernel
theorem dX6_nextHappening_34 : decode cX6_nextHappening 34 = .ok (.iconst 1, 1) := by decide +kernel
theorem dX6_nextHappening_35 : decode cX6_nextHappening 35 = .ok (.goto 4, 3) := by decide +kernel
theorem dX6_nextHappening_38 : decode cX6_nextHappening 38 = .ok (.iconst 0, 1) := by decide +kernel
theorem dX6_nextHappening_39 : decode cX6_nextHappening 39 = .ok (.istore_n 3, 1) := by decide +kernel
theorem dX6_nextHappening_40 : decode cX6_nextHappening 40 = .ok (.iload_n 3, 1) := by decide +kernel
theorem dX6_nextHappening_41 : decode cX6_nextHappening 41 = .ok (.ifCond .eq 15, 3) := by decide +kernel
theorem dX6_nextHappening_44 : decode cX6_nextHappening 44 = .ok (.aload_n 0, 1) := by decide +kernel
theorem dX6_nextHappening_45 : decode cX6_nextHappening 45 = .ok (.getfield 28, 3) := by decide +kernel
theorem dX6_nextHappening_48 : decode cX6_nextHappening 48 = .ok (.getfield 191, 3) := by decide +kernel
theorem dX6_nextHappening_51 : decode cX6_nextHappening 51 = .ok (.iload_n 2, 1) := by decide +kernel
theorem dX6_nextHappening_52 : decode cX6_nextHappening 52 = .ok (.iaload, 1) := by decide +kernel
theorem dX6_nextHappening_53 : decode cX6_nextHappening 53 = .ok (.goto 12, 3) := by decide +kernel
theorem dX6_nextHappening_56 : decode cX6_nextHappening 56 = .ok (.aload_n 0, 1) := by decide +kernel
theorem dX6_nextHappening_57 : decode cX6_nextHappening 57 = .ok (.getfield 28, 3) := by decide +kernel
theorem dX6_nextHappening_60 : decode cX6_nextHappening 60 = .ok (.getfield 90, 3) := by decide +kernel
theorem dX6_nextHappening_63 : decode cX6_nextHappening 63 = .ok (.iload_n 2, 1) := by decide +kernel
theorem dX6_nextHappening_64 : decode cX6_nextHappening 64 = .ok (.iaload, 1) := by decide +kernel
theorem dX6_nextHappening_65 : decode cX6_nextHappening 65 = .ok (.istore 4, 2) := by decide +kernel
theorem dX6_nextHappening_67 : decode cX6_nextHappening 67 = .ok (.iload 4, 2) := by decide +kernel
theorem dX6_nextHappening_69 : decode cX6_nextHappening 69 = .ok (.iconst (-1), 1) := by decide +kernel
theorem dX6_nextHappening_70 : decode cX6_nextHappening 70 = .ok (.if_icmp .eq 17, 3) := by decide +kernel
theorem dX6_nextHappening_73 : decode cX6_nextHappening 73 = .ok (.iload_n 1, 1) := by decide +kernel
theorem dX6_nextHappening_74 : decode cX6_nextHappening 74 = .ok (.iconst (-1), 1) := by decide +kernel
theorem dX6_nextHappening_75 : decode cX6_nextHappening 75 = .ok (.if_icmp .eq 9, 3) := by decide +kernel
theorem dX6_nextHappening_78 : decode cX6_nextHappening 78 = .ok (.iload 4, 2) := by decide +kernel
theorem dX6_nextHappening_80 : decode cX6_nextHappening 80 = .ok (.iload_n 1, 1) := by decide +kernel
theorem dX6_nextHappening_81 : decode cX6_nextHappening 81 = .ok (.if_icmp .ge 6, 3) := by decide +kernel
theorem dX6_nextHappening_84 : decode cX6_nextHappening 84 = .ok (.iload 4, 2) := by decide +kernel
theorem dX6_nextHappening_86 : decode cX6_nextHappening 86 = .ok (.istore_n 1, 1) := by decide +kernel
theorem dX6_nextHappening_87 : decode cX6_nextHappening 87 = .ok (.iinc 2 1, 3) := by decide +kernel
theorem dX6_nextHappening_90 : decode cX6_nextHappening 90 = .ok (.goto (-80), 3) := by decide +kernel
theorem dX6_nextHappening_93 : decode cX6_nextHappening 93 = .ok (.iload_n 1, 1) := by decide +kernel
theorem dX6_nextHappening_94 : decode cX6_nextHappening 94 = .ok (.ireturn, 1) := by decide +kernel
theorem dX6_passNext_0 : decode cX6_passNext 0 = .ok (.aload_n 0, 1) := by decide +kernel
theorem dX6_passNext_1 : decode cX6_passNext 1 = .ok (.invokevirtual 230, 3) := by decide +kernel
theorem dX6_passNext_4 : decode cX6_passNext 4 = .ok (.istore_n 2, 1) := by decide +kernel
theorem dX6_passNext_5 : decode cX6_passNext 5 = .ok (.aload_n 0, 1) := by decide +kernel
theorem dX6_passNext_6 : decode cX6_passNext 6 = .ok (.iload_n 2, 1) := by decide +kernel
theorem dX6_passNext_7 : decode cX6_passNext 7 = .ok (.iconst (-1), 1) := by decide +kernel
theorem dX6_passNext_8 : decode cX6_passNext 8 = .ok (.if_icmp .eq 8, 3) := by decide +kernel
theorem dX6_passNext_11 : decode cX6_passNext 11 = .ok (.iload_n 2, 1) := by decide +kernel
