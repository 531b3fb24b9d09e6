theorem dX8_forward_74 : decode cX8_forward 74 = .ok (.iload_n 1, 1) := by decide +kernel
theorem dX8_forward_75 : decode cX8_forward 75 = .ok (.iload_n 3, 1) := by decide +kernel
theorem dX8_forward_76 : decode cX8_forward 76 = .ok (.invokevirtual 245, 3) := by decide +kernel
theorem dX8_forward_79 : decode cX8_forward 79 = .ok (.return_, 1) := by decide +kernel
theorem dX8_forward_80 : decode cX8_forward 80 = .ok (.aload_n 0, 1) := by decide +kernel
theorem dX8_forward_81 : decode cX8_forward 81 = .ok (.iload_n 1, 1) := by decide +kernel
theorem dX8_forward_82 : decode cX8_forward 82 = .ok (.iload_n 3, 1) := by decide +kernel
theorem dX8_forward_83 : decode cX8_forward 83 = .ok (.invokevirtual 248, 3) := by decide +kernel
theorem dX8_forward_86 : decode cX8_forward 86 = .ok (.aload_n 0, 1) := by decide +kernel
theorem dX8_forward_87 : decode cX8_forward 87 = .ok (.iload_n 1, 1) := by decide +kernel
theorem dX8_forward_88 : decode cX8_forward 88 = .ok (.iload_n 2, 1) := by decide +kernel
theorem dX8_forward_89 : decode cX8_forward 89 = .ok (.iconst 1, 1) := by decide +kernel
theorem dX8_forward_90 : decode cX8_forward 90 = .ok (.iadd, 1) := by decide +kernel
theorem dX8_forward_91 : decode cX8_forward 91 = .ok (.iload_n 3, 1) := by decide +kernel
theorem dX8_forward_92 : decode cX8_forward 92 = .ok (.invokevirtual 251, 3) := by decide +kernel
theorem dX8_forward_95 : decode cX8_forward 95 = .ok (.return_, 1) := by decide +kernel
theorem dX8_ticketOf_0 : decode cX8_ticketOf 0 = .ok (.iconst (-1), 1) := by decide +kernel
theorem dX8_ticketOf_1 : decode cX8_ticketOf 1 = .ok (.istore_n 3, 1) := by decide +kernel
theorem dX8_ticketOf_2 : decode cX8_ticketOf 2 = .ok (.iconst 0, 1) := by decide +kernel
theorem dX8_ticketOf_3 : decode cX8_ticketOf 3 = .ok (.istore 4, 2) := by decide +kernel
theorem dX8_ticketOf_5 : decode cX8_ticketOf 5 = .ok (.iload 4, 2) := by decide +kernel
theorem dX8_ticketOf_7 : decode cX8_ticketOf 7 = .ok (.aload_n 0, 1) := by decide +kernel
theorem dX8_ticketOf_8 : decode cX8_ticketOf 8 = .ok (.getfield 9, 3) := by decide +kernel
theorem dX8_ticketOf_11 : decode cX8_ticketOf 11 = .ok (.bipush 9, 2) := by decide +kernel
theorem dX8_ticketOf_13 : decode cX8_ticketOf 13 = .ok (.iaload, 1) := by decide +kernel
theorem dX8_ticketOf_14 : decode cX8_ticketOf 14 = .ok (.if_icmp .ge 38, 3) := by decide +kernel
theorem dX8_ticketOf_17 : decode cX8_ticketOf 17 = .ok (.aload_n 0, 1) := by decide +kernel
theorem dX8_ticketOf_18 : decode cX8_ticketOf 18 = .ok (.iload 4, 2) := by decide +kernel
theorem dX8_ticketOf_20 : decode cX8_ticketOf 20 = .ok (.iconst 0, 1) := by decide +kernel
theorem dX8_ticketOf_21 : decode cX8_ticketOf 21 = .ok (.invokevirtual 197, 3) := by decide +kernel
theorem dX8_ticketOf_24 : decode cX8_ticketOf 24 = .ok (.iload_n 1, 1) := by decide +kernel
theorem dX8_ticketOf_25 : decode cX8_ticketOf 25 = .ok (.if_icmp .ne 19, 3) := by decide +kernel
theorem dX8_ticketOf_28 : decode cX8_ticketOf 28 = .ok (.aload_n 0, 1) := by decide +kernel
theorem dX8_ticketOf_29 : decode cX8_ticketOf 29 = .ok (.iload 4, 2) := by decide +kernel
theorem dX8_ticketOf_31 : decode cX8_ticketOf 31 = .ok (.iconst 1, 1) := by decide +kernel
theorem dX8_ticketOf_32 : decode cX8_ticketOf 32 = .ok (.invokevirtual 197, 3) := by decide +kernel
theorem dX8_ticketOf_35 : decode cX8_ticketOf 35 = .ok (.iload_n 2, 1) := by decide +kernel
theorem dX8_ticketOf_36 : decode cX8_ticketOf 36 = .ok (.if_icmp .ne 8, 3) := by decide +kernel
theorem dX8_ticketOf_39 : decode cX8_ticketOf 39 = .ok (.iload 4, 2) := by decide +kernel
theorem dX8_ticketOf_41 : decode cX8_ticketOf 41 = .ok (.goto 4, 3) := by decide +kernel
theorem dX8_ticketOf_44 : decode cX8_ticketOf 44 = .ok (.iload_n 3, 1) := by decide +kernel
theorem dX8_ticketOf_45 : decode cX8_ticketOf 45 = .ok (.istore_n 3, 1) := by decide +kernel
theorem dX8_ticketOf_46 : decode cX8_ticketOf 46 = .ok (.iinc 4 1, 3) := by decide +kernel
theorem dX8_ticketOf_49 : decode cX8_ticketOf 49 = .ok (.goto (-44), 3) := by decide +kernel
theorem dX8_ticketOf_52 : decode cX8_ticketOf 52 = .ok (.iload_n 3, 1) := by decide +kernel
theorem dX8_ticketOf_53 : decode cX8_ticketOf 53 = .ok (.ireturn, 1) := by decide +kernel
theorem dX8_back_0 : decode cX8_back 0 = .ok (.aload_n 0, 1) := by decide +kernel
theorem dX8_back_1 : decode cX8_back 1 = .ok (.iload_n 1, 1) := by decide +kernel
theorem dX8_back_2 : decode cX8_back 2 = .ok (.bipush 14, 2) := by decide +kernel
theorem dX8_back_4 : decode cX8_back 4 = .ok (.invokevirtual 229, 3) := by decide +kernel
theorem dX8_back_7 : decode cX8_back 7 = .ok (.istore_n 2, 1) := by decide +kernel
theorem dX8_back_8 : decode cX8_back 8 = .ok (.iload_n 2, 1) := by decide +kernel
theorem dX8_back_9 : decode cX8_back 9 = .ok (.ifCond .ne 52, 3) := by decide +kernel
theorem dX8_back_12 : decode cX8_back 12 = .ok (.aload_n 0, 1) := by decide +kernel
theorem dX8_back_13 : decode cX8_back 13 = .ok (.iload_n 1, 1) := by decide +kernel
theorem dX8_back_14 : decode cX8_back 14 = .ok (.iconst 4, 1) := by decide +kernel
theorem dX8_back_15 : decode cX8_back 15 = .ok (.iconst 2, 1) := by decide +kernel
theorem dX8_back_16 : decode cX8_back 16 = .ok (.invokevirtual 238, 3) := by decide +kernel
theorem dX8_back_19 : decode cX8_back 19 = .ok (.aload_n 0, 1) := by decide +kernel
theorem dX8_back_20 : decode cX8_back 20 = .ok (.iload_n 1, 1) := by decide +kernel
theorem dX8_back_21 : decode cX8_back 21 = .ok (.bipush 6, 2) := by decide +kernel
theorem dX8_back_23 : decode cX8_back 23 = .ok (.iconst (-1), 1) := by decide +kernel
theorem dX8_back_24 : decode cX8_back 24 = .ok (.invokevirtual 238, 3) := by decide +kernel
theorem dX8_back_27 : decode cX8_back 27 = .ok (.aload_n 0, 1) := by decide +kernel
theorem dX8_back_28 : decode cX8_back 28 = .ok (.iload_n 1, 1) := by decide +kernel
theorem dX8_back_29 : decode cX8_back 29 = .ok (.bipush 10, 2) := by decide +kernel
theorem dX8_back_31 : decode cX8_back 31 = .ok (.aload_n 0, 1) := by decide +kernel
theorem dX8_back_32 : decode cX8_back 32 = .ok (.getfield 9, 3) := by decide +kernel
theorem dX8_back_35 : decode cX8_back 35 = .ok (.iconst 0, 1) := by decide +kernel
theorem dX8_back_36 : decode cX8_back 36 = .ok (.iaload, 1) := by decide +kernel
theorem dX8_back_37 : decode cX8_back 37 = .ok (.invokevirtual 238, 3) := by decide +kernel
theorem dX8_back_40 : decode cX8_back 40 = .ok (.aload_n 0, 1) := by decide +kernel
theorem dX8_back_41 : decode cX8_back 41 = .ok (.iload_n 1, 1) := by decide +kernel
theorem dX8_back_42 : decode cX8_back 42 = .ok (.bipush 11, 2) := by decide +kernel
theorem dX8_back_44 : decode cX8_back 44 = .ok (.aload_n 0, 1) := by decide +kernel
theorem dX8_back_45 : decode cX8_back 45 = .ok (.getfield 9, 3) := by decide +kernel
theorem dX8_back_48 : decode cX8_back 48 = .ok (.iconst 0, 1) := by decide +kernel
theorem dX8_back_49 : decode cX8_back 49 = .ok (.iaload, 1) := by decide +kernel
theorem dX8_back_50 : decode cX8_back 50 = .ok (.aload_n 0, 1) := by decide +kernel
theorem dX8_back_51 : decode cX8_back 51 = .ok (.iload_n 1, 1) := by decide +kernel
theorem dX8_back_52 : decode cX8_back 52 = .ok (.iconst 3, 1) := by decide +kernel
theorem dX8_back_53 : decode cX8_back 53 = .ok (.invokevirtual 229, 3) := by decide +kernel
theorem dX8_back_56 : decode cX8_back 56 = .ok (.iadd, 1) := by decide +kernel
theorem dX8_back_57 : decode cX8_back 57 = .ok (.invokevirtual 238, 3) := by decide +kernel
theorem dX8_back_60 : decode cX8_back 60 = .ok (.return_, 1) := by decide +kernel
theorem dX8_back_61 : decode cX8_back 61 = .ok (.aload_n 0, 1) := by decide +kernel
theorem dX8_back_62 : decode cX8_back 62 = .ok (.iload_n 1, 1) := by decide +kernel
theorem dX8_back_63 : decode cX8_back 63 = .ok (.bipush 15, 2) := by decide +kernel
theorem dX8_back_65 : decode cX8_back 65 = .ok (.iload_n 2, 1) := by decide +kernel
theorem dX8_back_66 : decode cX8_back 66 = .ok (.iadd, 1) := by decide +kernel
theorem dX8_back_67 : decode cX8_back 67 = .ok (.iconst 1, 1) := by decide +kernel
theorem dX8_back_68 : decode cX8_back 68 = .ok (.isub, 1) := by decide +kernel
theorem dX8_back_69 : decode cX8_back 69 = .ok (.invokevirtual 229, 3) := by decide +kernel
theorem dX8_back_72 : decode cX8_back 72 = .ok (.istore_n 3, 1) := by decide +kernel
theorem dX8_back_73 : decode cX8_back 73 = .ok (.aload_n 0, 1) := by decide +kernel
theorem dX8_back_74 : decode cX8_back 74 = .ok (.iload_n 1, 1) := by decide +kernel
theorem dX8_back_75 : decode cX8_back 75 = .ok (.iload_n 3, 1) := by decide +kernel
theorem dX8_back_76 : decode cX8_back 76 = .ok (.invokevirtual 254, 3) := by decide +kernel
theorem dX8_back_79 : decode cX8_back 79 = .ok (.istore 4, 2) := by decide +kernel
theorem dX8_back_81 : decode cX8_back 81 = .ok (.aload_n 0, 1) := by decide +kernel
theorem dX8_back_82 : decode cX8_back 82 = .ok (.iload 4, 2) := by decide +kernel
theorem dX8_back_84 : decode cX8_back 84 = .ok (.iconst 5, 1) := by decide +kernel
theorem dX8_back_85 : decode cX8_back 85 = .ok (.invokevirtual 197, 3) := by decide +kernel
theorem dX8_back_88 : decode cX8_back 88 = .ok (.ifCond .eq 10, 3) := by decide +kernel
theorem dX8_back_91 : decode cX8_back 91 = .ok (.aload_n 0, 1) := by decide +kernel
theorem dX8_back_92 : decode cX8_back 92 = .ok (.iload_n 1, 1) := by decide +kernel
theorem dX8_back_93 : decode cX8_back 93 = .ok (.iload_n 3, 1) := by decide +kernel
theorem dX8_back_94 : decode cX8_back 94 = .ok (.invokevirtual 245, 3) := by decide +kernel
theorem dX8_back_97 : decode cX8_back 97 = .ok (.return_, 1) := by decide +kernel
theorem dX8_back_98 : decode cX8_back 98 = .ok (.aload_n 0, 1) := by decide +kernel
theorem dX8_back_99 : decode cX8_back 99 = .ok (.iload 4, 2) := by decide +kernel
theorem dX8_back_101 : decode cX8_back 101 = .ok (.iconst 5, 1) := by decide +kernel
theorem dX8_back_102 : decode cX8_back 102 = .ok (.iconst 1, 1) := by decide +kernel
theorem dX8_back_103 : decode cX8_back 103 = .ok (.invokevirtual 242, 3) := by decide +kernel
theorem dX8_back_106 : decode cX8_back 106 = .ok (.aload_n 0, 1) := by decide +kernel
theorem dX8_back_107 : decode cX8_back 107 = .ok (.iload_n 1, 1) := by decide +kernel
theorem dX8_back_108 : decode cX8_back 108 = .ok (.iload_n 2, 1) := by decide +kernel
theorem dX8_back_109 : decode cX8_back 109 = .ok (.iconst 1, 1) := by decide +kernel
theorem dX8_back_110 : decode cX8_back 110 = .ok (.isub, 1) := by decide +kernel
theorem dX8_back_111 : decode cX8_back 111 = .ok (.iload_n 3, 1) := by decide +kernel
theorem dX8_back_112 : decode cX8_back 112 = .ok (.invokevirtual 251, 3) := by decide +kernel
theorem dX8_back_115 : decode cX8_back 115 = .ok (.return_, 1) := by decide +kernel
theorem dX8_failsAt_0 : decode cX8_failsAt 0 = .ok (.iconst 0, 1) := by decide +kernel
theorem dX8_failsAt_1 : decode cX8_failsAt 1 = .ok (.istore_n 3, 1) := by decide +kernel
theorem dX8_failsAt_2 : decode cX8_failsAt 2 = .ok (.iload_n 3, 1) := by decide +kernel
theorem dX8_failsAt_3 : decode cX8_failsAt 3 = .ok (.aload_n 0, 1) := by decide +kernel
theorem dX8_failsAt_4 : decode cX8_failsAt 4 = .ok (.getfield 9, 3) := by decide +kernel
theorem dX8_failsAt_7 : decode cX8_failsAt 7 = .ok (.bipush 9, 2) := by decide +kernel
theorem dX8_failsAt_9 : decode cX8_failsAt 9 = .ok (.iaload, 1) := by decide +kernel
theorem dX8_failsAt_10 : decode cX8_failsAt 10 = .ok (.if_icmp .ge 49, 3) := by decide +kernel
theorem dX8_failsAt_13 : decode cX8_failsAt 13 = .ok (.aload_n 0, 1) := by decide +kernel
theorem dX8_failsAt_14 : decode cX8_failsAt 14 = .ok (.iload_n 3, 1) := by decide +kernel
theorem dX8_failsAt_15 : decode cX8_failsAt 15 = .ok (.iconst 0, 1) := by decide +kernel
theorem dX8_failsAt_16 : decode cX8_failsAt 16 = .ok (.invokevirtual 197, 3) := by decide +kernel
theorem dX8_failsAt_19 : decode cX8_failsAt 19 = .ok (.iload_n 1, 1) := by decide +kernel
theorem dX8_failsAt_20 : decode cX8_failsAt 20 = .ok (.if_icmp .ne 33, 3) := by decide +kernel
theorem dX8_failsAt_23 : decode cX8_failsAt 23 = .ok (.aload_n 0, 1) := by decide +kernel
theorem dX8_failsAt_24 : decode cX8_failsAt 24 = .ok (.iload_n 3, 1) := by decide +kernel
theorem dX8_failsAt_25 : decode cX8_failsAt 25 = .ok (.invokevirtual 201, 3) := by decide +kernel
theorem dX8_failsAt_28 : decode cX8_failsAt 28 = .ok (.ifCond .ne 6, 3) := by decide +kernel
theorem dX8_failsAt_31 : decode cX8_failsAt 31 = .ok (.goto 22, 3) := by decide +kernel
theorem dX8_failsAt_34 : decode cX8_failsAt 34 = .ok (.aload_n 0, 1) := by decide +kernel
theorem dX8_failsAt_35 : decode cX8_failsAt 35 = .ok (.iload_n 3, 1) := by decide +kernel
theorem dX8_failsAt_36 : decode cX8_failsAt 36 = .ok (.iconst 5, 1) := by decide +kernel
theorem dX8_failsAt_37 : decode cX8_failsAt 37 = .ok (.iconst 3, 1) := by decide +kernel
theorem dX8_failsAt_38 : decode cX8_failsAt 38 = .ok (.invokevirtual 242, 3) := by decide +kernel
theorem dX8_failsAt_41 : decode cX8_failsAt 41 = .ok (.aload_n 0, 1) := by decide +kernel
theorem dX8_failsAt_42 : decode cX8_failsAt 42 = .ok (.iload_n 3, 1) := by decide +kernel
theorem dX8_failsAt_43 : decode cX8_failsAt 43 = .ok (.aload_n 0, 1) := by decide +kernel
theorem dX8_failsAt_44 : decode cX8_failsAt 44 = .ok (.iload_n 3, 1) := by decide +kernel
theorem dX8_failsAt_45 : decode cX8_failsAt 45 = .ok (.bipush 6, 2) := by decide +kernel
theorem dX8_failsAt_47 : decode cX8_failsAt 47 = .ok (.invokevirtual 197, 3) := by decide +kernel
theorem dX8_failsAt_50 : decode cX8_failsAt 50 = .ok (.invokevirtual 257, 3) := by decide +kernel
theorem dX8_failsAt_53 : decode cX8_failsAt 53 = .ok (.iinc 3 1, 3) := by decide +kernel
theorem dX8_failsAt_56 : decode cX8_failsAt 56 = .ok (.goto (-54), 3) := by decide +kernel
theorem dX8_failsAt_59 : decode cX8_failsAt 59 = .ok (.aload_n 0, 1) := by decide +kernel
theorem dX8_failsAt_60 : decode cX8_failsAt 60 = .ok (.iload_n 1, 1) := by decide +kernel
theorem dX8_failsAt_61 : decode cX8_failsAt 61 = .ok (.bipush 9, 2) := by decide +kernel
theorem dX8_failsAt_63 : decode cX8_failsAt 63 = .ok (.aload_n 0, 1) := by decide +kernel
theorem dX8_failsAt_64 : decode cX8_failsAt 64 = .ok (.iload_n 1, 1) := by decide +kernel
theorem dX8_failsAt_65 : decode cX8_failsAt 65 = .ok (.bipush 9, 2) := by decide +kernel
theorem dX8_failsAt_67 : decode cX8_failsAt 67 = .ok (.invokevirtual 229, 3) := by decide +kernel
theorem dX8_failsAt_70 : decode cX8_failsAt 70 = .ok (.iconst 1, 1) := by decide +kernel
theorem dX8_failsAt_71 : decode cX8_failsAt 71 = .ok (.iload_n 2, 1) := by decide +kernel
theorem dX8_failsAt_72 : decode cX8_failsAt 72 = .ok (.ishl, 1) := by decide +kernel
theorem dX8_failsAt_73 : decode cX8_failsAt 73 = .ok (.ior, 1) := by decide +kernel
theorem dX8_failsAt_74 : decode cX8_failsAt 74 = .ok (.invokevirtual 238, 3) := by decide +kernel
theorem dX8_failsAt_77 : decode cX8_failsAt 77 = .ok (.aload_n 0, 1) := by decide +kernel
theorem dX8_failsAt_78 : decode cX8_failsAt 78 = .ok (.iload_n 1, 1) := by decide +kernel
theorem dX8_failsAt_79 : decode cX8_failsAt 79 = .ok (.iconst 5, 1) := by decide +kernel
theorem dX8_failsAt_80 : decode cX8_failsAt 80 = .ok (.aload_n 0, 1) := by decide +kernel
theorem dX8_failsAt_81 : decode cX8_failsAt 81 = .ok (.iload_n 1, 1) := by decide +kernel
theorem dX8_failsAt_82 : decode cX8_failsAt 82 = .ok (.iconst 5, 1) := by decide +kernel
theorem dX8_failsAt_83 : decode cX8_failsAt 83 = .ok (.invokevirtual 229, 3) := by decide +kernel
theorem dX8_failsAt_86 : decode cX8_failsAt 86 = .ok (.iconst 1, 1) := by decide +kernel
theorem dX8_failsAt_87 : decode cX8_failsAt 87 = .ok (.iadd, 1) := by decide +kernel
theorem dX8_failsAt_88 : decode cX8_failsAt 88 = .ok (.invokevirtual 238, 3) := by decide +kernel
theorem dX8_failsAt_91 : decode cX8_failsAt 91 = .ok (.aload_n 0, 1) := by decide +kernel
theorem dX8_failsAt_92 : decode cX8_failsAt 92 = .ok (.iload_n 1, 1) := by decide +kernel
theorem dX8_failsAt_93 : decode cX8_failsAt 93 = .ok (.bipush 12, 2) := by decide +kernel
theorem dX8_failsAt_95 : decode cX8_failsAt 95 = .ok (.iload_n 2, 1) := by decide +kernel
theorem dX8_failsAt_96 : decode cX8_failsAt 96 = .ok (.invokevirtual 238, 3) := by decide +kernel
theorem dX8_failsAt_99 : decode cX8_failsAt 99 = .ok (.aload_n 0, 1) := by decide +kernel
theorem dX8_failsAt_100 : decode cX8_failsAt 100 = .ok (.getfield 9, 3) := by decide +kernel
theorem dX8_failsAt_103 : decode cX8_failsAt 103 = .ok (.bipush 96, 2) := by decide +kernel
theorem dX8_failsAt_105 : decode cX8_failsAt 105 = .ok (.bipush 7, 2) := by decide +kernel
theorem dX8_failsAt_107 : decode cX8_failsAt 107 = .ok (.iload_n 2, 1) := by decide +kernel
theorem dX8_failsAt_108 : decode cX8_failsAt 108 = .ok (.imul, 1) := by decide +kernel
theorem dX8_failsAt_109 : decode cX8_failsAt 109 = .ok (.iadd, 1) := by decide +kernel
theorem dX8_failsAt_110 : decode cX8_failsAt 110 = .ok (.bipush 6, 2) := by decide +kernel
theorem dX8_failsAt_112 : decode cX8_failsAt 112 = .ok (.iadd, 1) := by decide +kernel
theorem dX8_failsAt_113 : decode cX8_failsAt 113 = .ok (.dup2, 1) := by decide +kernel
theorem dX8_failsAt_114 : decode cX8_failsAt 114 = .ok (.iaload, 1) := by decide +kernel
theorem dX8_failsAt_115 : decode cX8_failsAt 115 = .ok (.iconst 1, 1) := by decide +kernel
theorem dX8_failsAt_116 : decode cX8_failsAt 116 = .ok (.iadd, 1) := by decide +kernel
theorem dX8_failsAt_117 : decode cX8_failsAt 117 = .ok (.iastore, 1) := by decide +kernel
theorem dX8_failsAt_118 : decode cX8_failsAt 118 = .ok (.aload_n 0, 1) := by decide +kernel
theorem dX8_failsAt_119 : decode cX8_failsAt 119 = .ok (.iload_n 1, 1) := by decide +kernel
theorem dX8_failsAt_120 : decode cX8_failsAt 120 = .ok (.iconst 5, 1) := by decide +kernel
theorem dX8_failsAt_121 : decode cX8_failsAt 121 = .ok (.invokevirtual 229, 3) := by decide +kernel
theorem dX8_failsAt_124 : decode cX8_failsAt 124 = .ok (.aload_n 0, 1) := by decide +kernel
theorem dX8_failsAt_125 : decode cX8_failsAt 125 = .ok (.getfield 9, 3) := by decide +kernel
theorem dX8_failsAt_128 : decode cX8_failsAt 128 = .ok (.iconst 3, 1) := by decide +kernel
theorem dX8_failsAt_129 : decode cX8_failsAt 129 = .ok (.iaload, 1) := by decide +kernel
theorem dX8_failsAt_130 : decode cX8_failsAt 130 = .ok (.if_icmp .lt 7, 3) := by decide +kernel
theorem dX8_failsAt_133 : decode cX8_failsAt 133 = .ok (.iconst 1, 1) := by decide +kernel
theorem dX8_failsAt_134 : decode cX8_failsAt 134 = .ok (.goto 4, 3) := by decide +kernel
theorem dX8_failsAt_137 : decode cX8_failsAt 137 = .ok (.iconst 0, 1) := by decide +kernel
theorem dX8_failsAt_138 : decode cX8_failsAt 138 = .ok (.istore_n 3, 1) := by decide +kernel
theorem dX8_failsAt_139 : decode cX8_failsAt 139 = .ok (.aload_n 0, 1) := by decide +kernel
theorem dX8_failsAt_140 : decode cX8_failsAt 140 = .ok (.iload_n 1, 1) := by decide +kernel
theorem dX8_failsAt_141 : decode cX8_failsAt 141 = .ok (.iconst 4, 1) := by decide +kernel
theorem dX8_failsAt_142 : decode cX8_failsAt 142 = .ok (.iload_n 3, 1) := by decide +kernel
theorem dX8_failsAt_143 : decode cX8_failsAt 143 = .ok (.ifCond .eq 7, 3) := by decide +kernel
theorem dX8_failsAt_146 : decode cX8_failsAt 146 = .ok (.iconst 4, 1) := by decide +kernel
theorem dX8_failsAt_147 : decode cX8_failsAt 147 = .ok (.goto 5, 3) := by decide +kernel
theorem dX8_failsAt_150 : decode cX8_failsAt 150 = .ok (.bipush 7, 2) := by decide +kernel
theorem dX8_failsAt_152 : decode cX8_failsAt 152 = .ok (.invokevirtual 238, 3) := by decide +kernel
theorem dX8_failsAt_155 : decode cX8_failsAt 155 = .ok (.aload_n 0, 1) := by decide +kernel
theorem dX8_failsAt_156 : decode cX8_failsAt 156 = .ok (.iload_n 1, 1) := by decide +kernel
theorem dX8_failsAt_157 : decode cX8_failsAt 157 = .ok (.bipush 6, 2) := by decide +kernel
theorem dX8_failsAt_159 : decode cX8_failsAt 159 = .ok (.iload_n 3, 1) := by decide +kernel
theorem dX8_failsAt_160 : decode cX8_failsAt 160 = .ok (.ifCond .eq 7, 3) := by decide +kernel
theorem dX8_failsAt_163 : decode cX8_failsAt 163 = .ok (.iconst (-1), 1) := by decide +kernel
theorem dX8_failsAt_164 : decode cX8_failsAt 164 = .ok (.goto 16, 3) := by decide +kernel
theorem dX8_failsAt_167 : decode cX8_failsAt 167 = .ok (.aload_n 0, 1) := by decide +kernel
theorem dX8_failsAt_168 : decode cX8_failsAt 168 = .ok (.getfield 9, 3) := by decide +kernel
theorem dX8_failsAt_171 : decode cX8_failsAt 171 = .ok (.iconst 0, 1) := by decide +kernel
theorem dX8_failsAt_172 : decode cX8_failsAt 172 = .ok (.iaload, 1) := by decide +kernel
theorem dX8_failsAt_173 : decode cX8_failsAt 173 = .ok (.aload_n 0, 1) := by decide +kernel
theorem dX8_failsAt_174 : decode cX8_failsAt 174 = .ok (.getfield 9, 3) := by decide +kernel
theorem dX8_failsAt_177 : decode cX8_failsAt 177 = .ok (.iconst 2, 1) := by decide +kernel
theorem dX8_failsAt_178 : decode cX8_failsAt 178 = .ok (.iaload, 1) := by decide +kernel
theorem dX8_failsAt_179 : decode cX8_failsAt 179 = .ok (.iadd, 1) := by decide +kernel
theorem dX8_failsAt_180 : decode cX8_failsAt 180 = .ok (.invokevirtual 238, 3) := by decide +kernel
theorem dX8_failsAt_183 : decode cX8_failsAt 183 = .ok (.return_, 1) := by decide +kernel
theorem dX8_treats_0 : decode cX8_treats 0 = .ok (.aload_n 0, 1) := by decide +kernel
theorem dX8_treats_1 : decode cX8_treats 1 = .ok (.iload_n 1, 1) := by decide +kernel
theorem dX8_treats_2 : decode cX8_treats 2 = .ok (.bipush 6, 2) := by decide +kernel
theorem dX8_treats_4 : decode cX8_treats 4 = .ok (.invokevirtual 229, 3) := by decide +kernel
theorem dX8_treats_7 : decode cX8_treats 7 = .ok (.aload_n 0, 1) := by decide +kernel
theorem dX8_treats_8 : decode cX8_treats 8 = .ok (.getfield 9, 3) := by decide +kernel
theorem dX8_treats_11 : decode cX8_treats 11 = .ok (.iconst 0, 1) := by decide +kernel
theorem dX8_treats_12 : decode cX8_treats 12 = .ok (.iaload, 1) := by decide +kernel
theorem dX8_treats_13 : decode cX8_treats 13 = .ok (.if_icmp .ne 47, 3) := by decide +kernel
theorem dX8_treats_16 : decode cX8_treats 16 = .ok (.aload_n 0, 1) := by decide +kernel
theorem dX8_treats_17 : decode cX8_treats 17 = .ok (.iload_n 1, 1) := by decide +kernel
theorem dX8_treats_18 : decode cX8_treats 18 = .ok (.iconst 4, 1) := by decide +kernel
theorem dX8_treats_19 : decode cX8_treats 19 = .ok (.invokevirtual 229, 3) := by decide +kernel
theorem dX8_treats_22 : decode cX8_treats 22 = .ok (.bipush 7, 2) := by decide +kernel
theorem dX8_treats_24 : decode cX8_treats 24 = .ok (.if_icmp .ne 11, 3) := by decide +kernel
theorem dX8_treats_27 : decode cX8_treats 27 = .ok (.aload_n 0, 1) := by decide +kernel
theorem dX8_treats_28 : decode cX8_treats 28 = .ok (.iload_n 1, 1) := by decide +kernel
theorem dX8_treats_29 : decode cX8_treats 29 = .ok (.invokevirtual 260, 3) := by decide +kernel
theorem dX8_treats_32 : decode cX8_treats 32 = .ok (.goto (-32), 3) := by decide +kernel
theorem dX8_treats_35 : decode cX8_treats 35 = .ok (.aload_n 0, 1) := by decide +kernel
theorem dX8_treats_36 : decode cX8_treats 36 = .ok (.iload_n 1, 1) := by decide +kernel
theorem dX8_treats_37 : decode cX8_treats 37 = .ok (.iconst 4, 1) := by decide +kernel
theorem dX8_treats_38 : decode cX8_treats 38 = .ok (.invokevirtual 229, 3) := by decide +kernel
theorem dX8_treats_41 : decode cX8_treats 41 = .ok (.ifCond .ne 11, 3) := by decide +kernel
theorem dX8_treats_44 : decode cX8_treats 44 = .ok (.aload_n 0, 1) := by decide +kernel
theorem dX8_treats_45 : decode cX8_treats 45 = .ok (.iload_n 1, 1) := by decide +kernel
theorem dX8_treats_46 : decode cX8_treats 46 = .ok (.invokevirtual 264, 3) := by decide +kernel
theorem dX8_treats_49 : decode cX8_treats 49 = .ok (.goto (-49), 3) := by decide +kernel
theorem dX8_treats_52 : decode cX8_treats 52 = .ok (.aload_n 0, 1) := by decide +kernel
theorem dX8_treats_53 : decode cX8_treats 53 = .ok (.iload_n 1, 1) := by decide +kernel
theorem dX8_treats_54 : decode cX8_treats 54 = .ok (.invokevirtual 267, 3) := by decide +kernel
theorem dX8_treats_57 : decode cX8_treats 57 = .ok (.goto (-57), 3) := by decide +kernel
theorem dX8_treats_60 : decode cX8_treats 60 = .ok (.return_, 1) := by decide +kernel
theorem dX8_expires_0 : decode cX8_expires 0 = .ok (.aload_n 0, 1) := by decide +kernel
theorem dX8_expires_1 : decode cX8_expires 1 = .ok (.iload_n 1, 1) := by decide +kernel
theorem dX8_expires_2 : decode cX8_expires 2 = .ok (.iconst 5, 1) := by decide +kernel
theorem dX8_expires_3 : decode cX8_expires 3 = .ok (.iconst 2, 1) := by decide +kernel
theorem dX8_expires_4 : decode cX8_expires 4 = .ok (.invokevirtual 242, 3) := by decide +kernel
theorem dX8_expires_7 : decode cX8_expires 7 = .ok (.aload_n 0, 1) := by decide +kernel
theorem dX8_expires_8 : decode cX8_expires 8 = .ok (.iload_n 1, 1) := by decide +kernel
theorem dX8_expires_9 : decode cX8_expires 9 = .ok (.aload_n 0, 1) := by decide +kernel
theorem dX8_expires_10 : decode cX8_expires 10 = .ok (.iload_n 1, 1) := by decide +kernel
theorem dX8_expires_11 : decode cX8_expires 11 = .ok (.bipush 6, 2) := by decide +kernel
theorem dX8_expires_13 : decode cX8_expires 13 = .ok (.invokevirtual 197, 3) := by decide +kernel
theorem dX8_expires_16 : decode cX8_expires 16 = .ok (.aload_n 0, 1) := by decide +kernel
theorem dX8_expires_17 : decode cX8_expires 17 = .ok (.getfield 9, 3) := by decide +kernel
theorem dX8_expires_20 : decode cX8_expires 20 = .ok (.iconst 4, 1) := by decide +kernel
theorem dX8_expires_21 : decode cX8_expires 21 = .ok (.iaload, 1) := by decide +kernel
theorem dX8_expires_22 : decode cX8_expires 22 = .ok (.imul, 1) := by decide +kernel
theorem dX8_expires_23 : decode cX8_expires 23 = .ok (.bipush 100, 2) := by decide +kernel
theorem dX8_expires_25 : decode cX8_expires 25 = .ok (.idiv, 1) := by decide +kernel
theorem dX8_expires_26 : decode cX8_expires 26 = .ok (.invokevirtual 257, 3) := by decide +kernel
theorem dX8_expires_29 : decode cX8_expires 29 = .ok (.return_, 1) := by decide +kernel
theorem dX8_ends_0 : decode cX8_ends 0 = .ok (.iconst 0, 1) := by decide +kernel
theorem dX8_ends_1 : decode cX8_ends 1 = .ok (.istore_n 2, 1) := by decide +kernel
theorem dX8_ends_2 : decode cX8_ends 2 = .ok (.iload_n 2, 1) := by decide +kernel
theorem dX8_ends_3 : decode cX8_ends 3 = .ok (.aload_n 0, 1) := by decide +kernel
theorem dX8_ends_4 : decode cX8_ends 4 = .ok (.getfield 9, 3) := by decide +kernel
theorem dX8_ends_7 : decode cX8_ends 7 = .ok (.bipush 9, 2) := by decide +kernel
theorem dX8_ends_9 : decode cX8_ends 9 = .ok (.iaload, 1) := by decide +kernel
theorem dX8_ends_10 : decode cX8_ends 10 = .ok (.if_icmp .ge 34, 3) := by decide +kernel
theorem dX8_ends_13 : decode cX8_ends 13 = .ok (.aload_n 0, 1) := by decide +kernel
theorem dX8_ends_14 : decode cX8_ends 14 = .ok (.iload_n 2, 1) := by decide +kernel
theorem dX8_ends_15 : decode cX8_ends 15 = .ok (.iconst 0, 1) := by decide +kernel
theorem dX8_ends_16 : decode cX8_ends 16 = .ok (.invokevirtual 197, 3) := by decide +kernel
theorem dX8_ends_19 : decode cX8_ends 19 = .ok (.iload_n 1, 1) := by decide +kernel
theorem dX8_ends_20 : decode cX8_ends 20 = .ok (.if_icmp .ne 18, 3) := by decide +kernel
theorem dX8_ends_23 : decode cX8_ends 23 = .ok (.aload_n 0, 1) := by decide +kernel
theorem dX8_ends_24 : decode cX8_ends 24 = .ok (.iload_n 2, 1) := by decide +kernel
theorem dX8_ends_25 : decode cX8_ends 25 = .ok (.invokevirtual 201, 3) := by decide +kernel
theorem dX8_ends_28 : decode cX8_ends 28 = .ok (.ifCond .eq 10, 3) := by decide +kernel
theorem dX8_ends_31 : decode cX8_ends 31 = .ok (.aload_n 0, 1) := by decide +kernel
theorem dX8_ends_32 : decode cX8_ends 32 = .ok (.iload_n 2, 1) := by decide +kernel
theorem dX8_ends_33 : decode cX8_ends 33 = .ok (.iconst 5, 1) := by decide +kernel
theorem dX8_ends_34 : decode cX8_ends 34 = .ok (.iconst 3, 1) := by decide +kernel
theorem dX8_ends_35 : decode cX8_ends 35 = .ok (.invokevirtual 242, 3) := by decide +kernel
theorem dX8_ends_38 : decode cX8_ends 38 = .ok (.iinc 2 1, 3) := by decide +kernel
theorem dX8_ends_41 : decode cX8_ends 41 = .ok (.goto (-39), 3) := by decide +kernel
theorem dX8_ends_44 : decode cX8_ends 44 = .ok (.aload_n 0, 1) := by decide +kernel
theorem dX8_ends_45 : decode cX8_ends 45 = .ok (.iload_n 1, 1) := by decide +kernel
theorem dX8_ends_46 : decode cX8_ends 46 = .ok (.iconst 4, 1) := by decide +kernel
theorem dX8_ends_47 : decode cX8_ends 47 = .ok (.iconst 3, 1) := by decide +kernel
theorem dX8_ends_48 : decode cX8_ends 48 = .ok (.invokevirtual 238, 3) := by decide +kernel
theorem dX8_ends_51 : decode cX8_ends 51 = .ok (.return_, 1) := by decide +kernel
theorem dX8_ticks_0 : decode cX8_ticks 0 = .ok (.aload_n 0, 1) := by decide +kernel
theorem dX8_ticks_1 : decode cX8_ticks 1 = .ok (.getfield 9, 3) := by decide +kernel
theorem dX8_ticks_4 : decode cX8_ticks 4 = .ok (.iconst 0, 1) := by decide +kernel
theorem dX8_ticks_5 : decode cX8_ticks 5 = .ok (.dup2, 1) := by decide +kernel
theorem dX8_ticks_6 : decode cX8_ticks 6 = .ok (.iaload, 1) := by decide +kernel
theorem dX8_ticks_7 : decode cX8_ticks 7 = .ok (.iconst 1, 1) := by decide +kernel
theorem dX8_ticks_8 : decode cX8_ticks 8 = .ok (.iadd, 1) := by decide +kernel
theorem dX8_ticks_9 : decode cX8_ticks 9 = .ok (.iastore, 1) := by decide +kernel
theorem dX8_ticks_10 : decode cX8_ticks 10 = .ok (.iconst 0, 1) := by decide +kernel
theorem dX8_ticks_11 : decode cX8_ticks 11 = .ok (.istore_n 1, 1) := by decide +kernel
theorem dX8_ticks_12 : decode cX8_ticks 12 = .ok (.iload_n 1, 1) := by decide +kernel
theorem dX8_ticks_13 : decode cX8_ticks 13 = .ok (.aload_n 0, 1) := by decide +kernel
theorem dX8_ticks_14 : decode cX8_ticks 14 = .ok (.getfield 9, 3) := by decide +kernel
theorem dX8_ticks_17 : decode cX8_ticks 17 = .ok (.bipush 9, 2) := by decide +kernel
theorem dX8_ticks_19 : decode cX8_ticks 19 = .ok (.iaload, 1) := by decide +kernel
theorem dX8_ticks_20 : decode cX8_ticks 20 = .ok (.if_icmp .ge 38, 3) := by decide +kernel
theorem dX8_ticks_23 : decode cX8_ticks 23 = .ok (.aload_n 0, 1) := by decide +kernel
theorem dX8_ticks_24 : decode cX8_ticks 24 = .ok (.iload_n 1, 1) := by decide +kernel
theorem dX8_ticks_25 : decode cX8_ticks 25 = .ok (.iconst 5, 1) := by decide +kernel
theorem dX8_ticks_26 : decode cX8_ticks 26 = .ok (.invokevirtual 197, 3) := by decide +kernel
theorem dX8_ticks_29 : decode cX8_ticks 29 = .ok (.ifCond .ne 23, 3) := by decide +kernel
theorem dX8_ticks_32 : decode cX8_ticks 32 = .ok (.aload_n 0, 1) := by decide +kernel
theorem dX8_ticks_33 : decode cX8_ticks 33 = .ok (.iload_n 1, 1) := by decide +kernel
theorem dX8_ticks_34 : decode cX8_ticks 34 = .ok (.iconst 4, 1) := by decide +kernel
theorem dX8_ticks_35 : decode cX8_ticks 35 = .ok (.invokevirtual 197, 3) := by decide +kernel
theorem dX8_ticks_38 : decode cX8_ticks 38 = .ok (.aload_n 0, 1) := by decide +kernel
theorem dX8_ticks_39 : decode cX8_ticks 39 = .ok (.getfield 9, 3) := by decide +kernel
theorem dX8_ticks_42 : decode cX8_ticks 42 = .ok (.iconst 0, 1) := by decide +kernel
theorem dX8_ticks_43 : decode cX8_ticks 43 = .ok (.iaload, 1) := by decide +kernel
theorem dX8_ticks_44 : decode cX8_ticks 44 = .ok (.if_icmp .ne 8, 3) := by decide +kernel
theorem dX8_ticks_47 : decode cX8_ticks 47 = .ok (.aload_n 0, 1) := by decide +kernel
theorem dX8_ticks_48 : decode cX8_ticks 48 = .ok (.iload_n 1, 1) := by decide +kernel
theorem dX8_ticks_49 : decode cX8_ticks 49 = .ok (.invokevirtual 270, 3) := by decide +kernel
theorem dX8_ticks_52 : decode cX8_ticks 52 = .ok (.iinc 1 1, 3) := by decide +kernel
theorem dX8_ticks_55 : decode cX8_ticks 55 = .ok (.goto (-43), 3) := by decide +kernel
theorem dX8_ticks_58 : decode cX8_ticks 58 = .ok (.iconst 0, 1) := by decide +kernel
theorem dX8_ticks_59 : decode cX8_ticks 59 = .ok (.istore_n 1, 1) := by decide +kernel
theorem dX8_ticks_60 : decode cX8_ticks 60 = .ok (.iload_n 1, 1) := by decide +kernel
theorem dX8_ticks_61 : decode cX8_ticks 61 = .ok (.aload_n 0, 1) := by decide +kernel
theorem dX8_ticks_62 : decode cX8_ticks 62 = .ok (.getfield 9, 3) := by decide +kernel
theorem dX8_ticks_65 : decode cX8_ticks 65 = .ok (.bipush 8, 2) := by decide +kernel
theorem dX8_ticks_67 : decode cX8_ticks 67 = .ok (.iaload, 1) := by decide +kernel
theorem dX8_ticks_68 : decode cX8_ticks 68 = .ok (.if_icmp .ge 40, 3) := by decide +kernel
theorem dX8_ticks_71 : decode cX8_ticks 71 = .ok (.aload_n 0, 1) := by decide +kernel
theorem dX8_ticks_72 : decode cX8_ticks 72 = .ok (.iload_n 1, 1) := by decide +kernel
theorem dX8_ticks_73 : decode cX8_ticks 73 = .ok (.iconst 4, 1) := by decide +kernel
theorem dX8_ticks_74 : decode cX8_ticks 74 = .ok (.invokevirtual 229, 3) := by decide +kernel
theorem dX8_ticks_77 : decode cX8_ticks 77 = .ok (.iconst 2, 1) := by decide +kernel
theorem dX8_ticks_78 : decode cX8_ticks 78 = .ok (.if_icmp .ne 24, 3) := by decide +kernel
theorem dX8_ticks_81 : decode cX8_ticks 81 = .ok (.aload_n 0, 1) := by decide +kernel
theorem dX8_ticks_82 : decode cX8_ticks 82 = .ok (.iload_n 1, 1) := by decide +kernel
theorem dX8_ticks_83 : decode cX8_ticks 83 = .ok (.bipush 11, 2) := by decide +kernel
theorem dX8_ticks_85 : decode cX8_ticks 85 = .ok (.invokevirtual 229, 3) := by decide +kernel
theorem dX8_ticks_88 : decode cX8_ticks 88 = .ok (.aload_n 0, 1) := by decide +kernel
theorem dX8_ticks_89 : decode cX8_ticks 89 = .ok (.getfield 9, 3) := by decide +kernel
theorem dX8_ticks_92 : decode cX8_ticks 92 = .ok (.iconst 0, 1) := by decide +kernel
theorem dX8_ticks_93 : decode cX8_ticks 93 = .ok (.iaload, 1) := by decide +kernel
theorem dX8_ticks_94 : decode cX8_ticks 94 = .ok (.if_icmp .ne 8, 3) := by decide +kernel
theorem dX8_ticks_97 : decode cX8_ticks 97 = .ok (.aload_n 0, 1) := by decide +kernel
theorem dX8_ticks_98 : decode cX8_ticks 98 = .ok (.iload_n 1, 1) := by decide +kernel
theorem dX8_ticks_99 : decode cX8_ticks 99 = .ok (.invokevirtual 273, 3) := by decide +kernel
theorem dX8_ticks_102 : decode cX8_ticks 102 = .ok (.iinc 1 1, 3) := by decide +kernel
theorem dX8_ticks_105 : decode cX8_ticks 105 = .ok (.goto (-45), 3) := by decide +kernel
theorem dX8_ticks_108 : decode cX8_ticks 108 = .ok (.iconst 0, 1) := by decide +kernel
theorem dX8_ticks_109 : decode cX8_ticks 109 = .ok (.istore_n 1, 1) := by decide +kernel
theorem dX8_ticks_110 : decode cX8_ticks 110 = .ok (.iload_n 1, 1) := by decide +kernel
theorem dX8_ticks_111 : decode cX8_ticks 111 = .ok (.aload_n 0, 1) := by decide +kernel
theorem dX8_ticks_112 : decode cX8_ticks 112 = .ok (.getfield 9, 3) := by decide +kernel
theorem dX8_ticks_115 : decode cX8_ticks 115 = .ok (.bipush 8, 2) := by decide +kernel
theorem dX8_ticks_117 : decode cX8_ticks 117 = .ok (.iaload, 1) := by decide +kernel
theorem dX8_ticks_118 : decode cX8_ticks 118 = .ok (.if_icmp .ge 14, 3) := by decide +kernel
theorem dX8_ticks_121 : decode cX8_ticks 121 = .ok (.aload_n 0, 1) := by decide +kernel
theorem dX8_ticks_122 : decode cX8_ticks 122 = .ok (.iload_n 1, 1) := by decide +kernel
theorem dX8_ticks_123 : decode cX8_ticks 123 = .ok (.invokevirtual 276, 3) := by decide +kernel
theorem dX8_ticks_126 : decode cX8_ticks 126 = .ok (.iinc 1 1, 3) := by decide +kernel
theorem dX8_ticks_129 : decode cX8_ticks 129 = .ok (.goto (-19), 3) := by decide +kernel
theorem dX8_ticks_132 : decode cX8_ticks 132 = .ok (.return_, 1) := by decide +kernel
theorem dX8_earlier_0 : decode cX8_earlier 0 = .ok (.iload_n 1, 1) := by decide +kernel
theorem dX8_earlier_1 : decode cX8_earlier 1 = .ok (.iconst (-1), 1) := by decide +kernel
theorem dX8_earlier_2 : decode cX8_earlier 2 = .ok (.if_icmp .ne 7, 3) := by decide +kernel
theorem dX8_earlier_5 : decode cX8_earlier 5 = .ok (.iload_n 2, 1) := by decide +kernel
theorem dX8_earlier_6 : decode cX8_earlier 6 = .ok (.goto 17, 3) := by decide +kernel
theorem dX8_earlier_9 : decode cX8_earlier 9 = .ok (.iload_n 2, 1) := by decide +kernel
theorem dX8_earlier_10 : decode cX8_earlier 10 = .ok (.iconst (-1), 1) := by decide +kernel
theorem dX8_earlier_11 : decode cX8_earlier 11 = .ok (.if_icmp .ne 7, 3) := by decide +kernel
theorem dX8_earlier_14 : decode cX8_earlier 14 = .ok (.iload_n 1, 1) := by decide +kernel
theorem dX8_earlier_15 : decode cX8_earlier 15 = .ok (.goto 8, 3) := by decide +kernel
theorem dX8_earlier_18 : decode cX8_earlier 18 = .ok (.iload_n 1, 1) := by decide +kernel
theorem dX8_earlier_19 : decode cX8_earlier 19 = .ok (.iload_n 2, 1) := by decide +kernel
theorem dX8_earlier_20 : decode cX8_earlier 20 = .ok (.invokestatic 279, 3) := by decide +kernel
theorem dX8_earlier_23 : decode cX8_earlier 23 = .ok (.ireturn, 1) := by decide +kernel
theorem dX8_nextExpiryNow_0 : decode cX8_nextExpiryNow 0 = .ok (.iconst (-1), 1) := by decide +kernel
theorem dX8_nextExpiryNow_1 : decode cX8_nextExpiryNow 1 = .ok (.istore_n 1, 1) := by decide +kernel
theorem dX8_nextExpiryNow_2 : decode cX8_nextExpiryNow 2 = .ok (.iconst 0, 1) := by decide +kernel
theorem dX8_nextExpiryNow_3 : decode cX8_nextExpiryNow 3 = .ok (.istore_n 2, 1) := by decide +kernel
theorem dX8_nextExpiryNow_4 : decode cX8_nextExpiryNow 4 = .ok (.iload_n 2, 1) := by decide +kernel
theorem dX8_nextExpiryNow_5 : decode cX8_nextExpiryNow 5 = .ok (.aload_n 0, 1) := by decide +kernel
theorem dX8_nextExpiryNow_6 : decode cX8_nextExpiryNow 6 = .ok (.getfield 9, 3) := by decide +kernel
theorem dX8_nextExpiryNow_9 : decode cX8_nextExpiryNow 9 = .ok (.bipush 9, 2) := by decide +kernel
theorem dX8_nextExpiryNow_11 : decode cX8_nextExpiryNow 11 = .ok (.iaload, 1) := by decide +kernel
theorem dX8_nextExpiryNow_12 : decode cX8_nextExpiryNow 12 = .ok (.if_icmp .ge 30, 3) := by decide +kernel
theorem dX8_nextExpiryNow_15 : decode cX8_nextExpiryNow 15 = .ok (.aload_n 0, 1) := by decide +kernel
theorem dX8_nextExpiryNow_16 : decode cX8_nextExpiryNow 16 = .ok (.iload_n 2, 1) := by decide +kernel
theorem dX8_nextExpiryNow_17 : decode cX8_nextExpiryNow 17 = .ok (.iconst 5, 1) := by decide +kernel
theorem dX8_nextExpiryNow_18 : decode cX8_nextExpiryNow 18 = .ok (.invokevirtual 197, 3) := by decide +kernel
theorem dX8_nextExpiryNow_21 : decode cX8_nextExpiryNow 21 = .ok (.ifCond .ne 15, 3) := by decide +kernel
theorem dX8_nextExpiryNow_24 : decode cX8_nextExpiryNow 24 = .ok (.aload_n 0, 1) := by decide +kernel
theorem dX8_nextExpiryNow_25 : decode cX8_nextExpiryNow 25 = .ok (.iload_n 1, 1) := by decide +kernel
theorem dX8_nextExpiryNow_26 : decode cX8_nextExpiryNow 26 = .ok (.aload_n 0, 1) := by decide +kernel
theorem dX8_nextExpiryNow_27 : decode cX8_nextExpiryNow 27 = .ok (.iload_n 2, 1) := by decide +kernel
theorem dX8_nextExpiryNow_28 : decode cX8_nextExpiryNow 28 = .ok (.iconst 4, 1) := by decide +kernel
theorem dX8_nextExpiryNow_29 : decode cX8_nextExpiryNow 29 = .ok (.invokevirtual 197, 3) := by decide +kernel
theorem dX8_nextExpiryNow_32 : decode cX8_nextExpiryNow 32 = .ok (.invokevirtual 281, 3) := by decide +kernel
theorem dX8_nextExpiryNow_35 : decode cX8_nextExpiryNow 35 = .ok (.istore_n 1, 1) := by decide +kernel
theorem dX8_nextExpiryNow_36 : decode cX8_nextExpiryNow 36 = .ok (.iinc 2 1, 3) := by decide +kernel
theorem dX8_nextExpiryNow_39 : decode cX8_nextExpiryNow 39 = .ok (.goto (-35), 3) := by decide +kernel
theorem dX8_nextExpiryNow_42 : decode cX8_nextExpiryNow 42 = .ok (.iload_n 1, 1) := by decide +kernel
theorem dX8_nextExpiryNow_43 : decode cX8_nextExpiryNow 43 = .ok (.ireturn, 1) := by decide +kernel
theorem dX8_nextEventNow_0 : decode cX8_nextEventNow 0 = .ok (.aload_n 0, 1) := by decide +kernel
theorem dX8_nextEventNow_1 : decode cX8_nextEventNow 1 = .ok (.invokevirtual 284, 3) := by decide +kernel
theorem dX8_nextEventNow_4 : decode cX8_nextEventNow 4 = .ok (.istore_n 1, 1) := by decide +kernel
theorem dX8_nextEventNow_5 : decode cX8_nextEventNow 5 = .ok (.iconst 0, 1) := by decide +kernel
theorem dX8_nextEventNow_6 : decode cX8_nextEventNow 6 = .ok (.istore_n 2, 1) := by decide +kernel
theorem dX8_nextEventNow_7 : decode cX8_nextEventNow 7 = .ok (.iload_n 2, 1) := by decide +kernel
theorem dX8_nextEventNow_8 : decode cX8_nextEventNow 8 = .ok (.aload_n 0, 1) := by decide +kernel
theorem dX8_nextEventNow_9 : decode cX8_nextEventNow 9 = .ok (.getfield 9, 3) := by decide +kernel
theorem dX8_nextEventNow_12 : decode cX8_nextEventNow 12 = .ok (.bipush 8, 2) := by decide +kernel
theorem dX8_nextEventNow_14 : decode cX8_nextEventNow 14 = .ok (.iaload, 1) := by decide +kernel
theorem dX8_nextEventNow_15 : decode cX8_nextEventNow 15 = .ok (.if_icmp .ge 45, 3) := by decide +kernel
theorem dX8_nextEventNow_18 : decode cX8_nextEventNow 18 = .ok (.aload_n 0, 1) := by decide +kernel
theorem dX8_nextEventNow_19 : decode cX8_nextEventNow 19 = .ok (.iload_n 1, 1) := by decide +kernel
theorem dX8_nextEventNow_20 : decode cX8_nextEventNow 20 = .ok (.aload_n 0, 1) := by decide +kernel
theorem dX8_nextEventNow_21 : decode cX8_nextEventNow 21 = .ok (.iload_n 2, 1) := by decide +kernel
theorem dX8_nextEventNow_22 : decode cX8_nextEventNow 22 = .ok (.bipush 6, 2) := by decide +kernel
theorem dX8_nextEventNow_24 : decode cX8_nextEventNow 24 = .ok (.invokevirtual 229, 3) := by decide +kernel
theorem dX8_nextEventNow_27 : decode cX8_nextEventNow 27 = .ok (.invokevirtual 281, 3) := by decide +kernel
theorem dX8_nextEventNow_30 : decode cX8_nextEventNow 30 = .ok (.istore_n 1, 1) := by decide +kernel
theorem dX8_nextEventNow_31 : decode cX8_nextEventNow 31 = .ok (.aload_n 0, 1) := by decide +kernel
theorem dX8_nextEventNow_32 : decode cX8_nextEventNow 32 = .ok (.iload_n 2, 1) := by decide +kernel
theorem dX8_nextEventNow_33 : decode cX8_nextEventNow 33 = .ok (.iconst 4, 1) := by decide +kernel
theorem dX8_nextEventNow_34 : decode cX8_nextEventNow 34 = .ok (.invokevirtual 229, 3) := by decide +kernel
theorem dX8_nextEventNow_37 : decode cX8_nextEventNow 37 = .ok (.iconst 2, 1) := by decide +kernel
theorem dX8_nextEventNow_38 : decode cX8_nextEventNow 38 = .ok (.if_icmp .ne 16, 3) := by decide +kernel
theorem dX8_nextEventNow_41 : decode cX8_nextEventNow 41 = .ok (.aload_n 0, 1) := by decide +kernel
theorem dX8_nextEventNow_42 : decode cX8_nextEventNow 42 = .ok (.iload_n 1, 1) := by decide +kernel
theorem dX8_nextEventNow_43 : decode cX8_nextEventNow 43 = .ok (.aload_n 0, 1) := by decide +kernel
theorem dX8_nextEventNow_44 : decode cX8_nextEventNow 44 = .ok (.iload_n 2, 1) := by decide +kernel
theorem dX8_nextEventNow_45 : decode cX8_nextEventNow 45 = .ok (.bipush 11, 2) := by decide +kernel
theorem dX8_nextEventNow_47 : decode cX8_nextEventNow 47 = .ok (.invokevirtual 229, 3) := by decide +kernel
theorem dX8_nextEventNow_50 : decode cX8_nextEventNow 50 = .ok (.invokevirtual 281, 3) := by decide +kernel
theorem dX8_nextEventNow_53 : decode cX8_nextEventNow 53 = .ok (.istore_n 1, 1) := by decide +kernel
theorem dX8_nextEventNow_54 : decode cX8_nextEventNow 54 = .ok (.iinc 2 1, 3) := by decide +kernel
theorem dX8_nextEventNow_57 : decode cX8_nextEventNow 57 = .ok (.goto (-50), 3) := by decide +kernel
theorem dX8_nextEventNow_60 : decode cX8_nextEventNow 60 = .ok (.iload_n 1, 1) := by decide +kernel
theorem dX8_nextEventNow_61 : decode cX8_nextEventNow 61 = .ok (.ireturn, 1) := by decide +kernel
theorem dX8_passesOver_0 : decode cX8_passesOver 0 = .ok (.aload_n 0, 1) := by decide +kernel
theorem dX8_passesOver_1 : decode cX8_passesOver 1 = .ok (.invokevirtual 287, 3) := by decide +kernel
theorem dX8_passesOver_4 : decode cX8_passesOver 4 = .ok (.istore_n 2, 1) := by decide +kernel
theorem dX8_passesOver_5 : decode cX8_passesOver 5 = .ok (.iload_n 2, 1) := by decide +kernel
theorem dX8_passesOver_6 : decode cX8_passesOver 6 = .ok (.iconst (-1), 1) := by decide +kernel
theorem dX8_passesOver_7 : decode cX8_passesOver 7 = .ok (.if_icmp .ne 7, 3) := by decide +kernel
theorem dX8_passesOver_10 : decode cX8_passesOver 10 = .ok (.iload_n 1, 1) := by decide +kernel
theorem dX8_passesOver_11 : decode cX8_passesOver 11 = .ok (.goto 21, 3) := by decide +kernel
theorem dX8_passesOver_14 : decode cX8_passesOver 14 = .ok (.iconst 0, 1) := by decide +kernel
theorem dX8_passesOver_15 : decode cX8_passesOver 15 = .ok (.iload_n 1, 1) := by decide +kernel
theorem dX8_passesOver_16 : decode cX8_passesOver 16 = .ok (.iload_n 2, 1) := by decide +kernel
theorem dX8_passesOver_17 : decode cX8_passesOver 17 = .ok (.aload_n 0, 1) := by decide +kernel
theorem dX8_passesOver_18 : decode cX8_passesOver 18 = .ok (.getfield 9, 3) := by decide +kernel
theorem dX8_passesOver_21 : decode cX8_passesOver 21 = .ok (.iconst 0, 1) := by decide +kernel
theorem dX8_passesOver_22 : decode cX8_passesOver 22 = .ok (.iaload, 1) := by decide +kernel
theorem dX8_passesOver_23 : decode cX8_passesOver 23 = .ok (.isub, 1) := by decide +kernel
theorem dX8_passesOver_24 : decode cX8_passesOver 24 = .ok (.iconst 1, 1) := by decide +kernel
theorem dX8_passesOver_25 : decode cX8_passesOver 25 = .ok (.isub, 1) := by decide +kernel
theorem dX8_passesOver_26 : decode cX8_passesOver 26 = .ok (.invokestatic 279, 3) := by decide +kernel
theorem dX8_passesOver_29 : decode cX8_passesOver 29 = .ok (.invokestatic 290, 3) := by decide +kernel
theorem dX8_passesOver_32 : decode cX8_passesOver 32 = .ok (.istore_n 3, 1) := by decide +kernel
theorem dX8_passesOver_33 : decode cX8_passesOver 33 = .ok (.aload_n 0, 1) := by decide +kernel
theorem dX8_passesOver_34 : decode cX8_passesOver 34 = .ok (.getfield 9, 3) := by decide +kernel
theorem dX8_passesOver_37 : decode cX8_passesOver 37 = .ok (.iconst 0, 1) := by decide +kernel
theorem dX8_passesOver_38 : decode cX8_passesOver 38 = .ok (.dup2, 1) := by decide +kernel
theorem dX8_passesOver_39 : decode cX8_passesOver 39 = .ok (.iaload, 1) := by decide +kernel
theorem dX8_passesOver_40 : decode cX8_passesOver 40 = .ok (.iload_n 3, 1) := by decide +kernel
theorem dX8_passesOver_41 : decode cX8_passesOver 41 = .ok (.iadd, 1) := by decide +kernel
theorem dX8_passesOver_42 : decode cX8_passesOver 42 = .ok (.iastore, 1) := by decide +kernel
theorem dX8_passesOver_43 : decode cX8_passesOver 43 = .ok (.iload_n 3, 1) := by decide +kernel
theorem dX8_passesOver_44 : decode cX8_passesOver 44 = .ok (.ireturn, 1) := by decide +kernel
theorem dX8_goesOn_0 : decode cX8_goesOn 0 = .ok (.iconst 0, 1) := by decide +kernel
theorem dX8_goesOn_1 : decode cX8_goesOn 1 = .ok (.istore_n 2, 1) := by decide +kernel
theorem dX8_goesOn_2 : decode cX8_goesOn 2 = .ok (.iload_n 2, 1) := by decide +kernel
theorem dX8_goesOn_3 : decode cX8_goesOn 3 = .ok (.iload_n 1, 1) := by decide +kernel
theorem dX8_goesOn_4 : decode cX8_goesOn 4 = .ok (.if_icmp .ge 29, 3) := by decide +kernel
theorem dX8_goesOn_7 : decode cX8_goesOn 7 = .ok (.iload_n 2, 1) := by decide +kernel
theorem dX8_goesOn_8 : decode cX8_goesOn 8 = .ok (.aload_n 0, 1) := by decide +kernel
theorem dX8_goesOn_9 : decode cX8_goesOn 9 = .ok (.iload_n 1, 1) := by decide +kernel
theorem dX8_goesOn_10 : decode cX8_goesOn 10 = .ok (.iload_n 2, 1) := by decide +kernel
theorem dX8_goesOn_11 : decode cX8_goesOn 11 = .ok (.isub, 1) := by decide +kernel
theorem dX8_goesOn_12 : decode cX8_goesOn 12 = .ok (.invokevirtual 293, 3) := by decide +kernel
theorem dX8_goesOn_15 : decode cX8_goesOn 15 = .ok (.iadd, 1) := by decide +kernel
theorem dX8_goesOn_16 : decode cX8_goesOn 16 = .ok (.istore_n 2, 1) := by decide +kernel
theorem dX8_goesOn_17 : decode cX8_goesOn 17 = .ok (.iload_n 2, 1) := by decide +kernel
theorem dX8_goesOn_18 : decode cX8_goesOn 18 = .ok (.iload_n 1, 1) := by decide +kernel
theorem dX8_goesOn_19 : decode cX8_goesOn 19 = .ok (.if_icmp .ne 4, 3) := by decide +kernel
theorem dX8_goesOn_22 : decode cX8_goesOn 22 = .ok (.return_, 1) := by decide +kernel
theorem dX8_goesOn_23 : decode cX8_goesOn 23 = .ok (.aload_n 0, 1) := by decide +kernel
theorem dX8_goesOn_24 : decode cX8_goesOn 24 = .ok (.invokevirtual 296, 3) := by decide +kernel
theorem dX8_goesOn_27 : decode cX8_goesOn 27 = .ok (.iinc 2 1, 3) := by decide +kernel
theorem dX8_goesOn_30 : decode cX8_goesOn 30 = .ok (.goto (-28), 3) := by decide +kernel
theorem dX8_goesOn_33 : decode cX8_goesOn 33 = .ok (.return_, 1) := by decide +kernel
theorem dX8_advance_0 : decode cX8_advance 0 = .ok (.aload_n 0, 1) := by decide +kernel
theorem dX8_advance_1 : decode cX8_advance 1 = .ok (.iconst 0, 1) := by decide +kernel
theorem dX8_advance_2 : decode cX8_advance 2 = .ok (.putfield 60, 3) := by decide +kernel
theorem dX8_advance_5 : decode cX8_advance 5 = .ok (.aload_n 0, 1) := by decide +kernel
theorem dX8_advance_6 : decode cX8_advance 6 = .ok (.iload_n 1, 1) := by decide +kernel
theorem dX8_advance_7 : decode cX8_advance 7 = .ok (.i2l, 1) := by decide +kernel
theorem dX8_advance_8 : decode cX8_advance 8 = .ok (.lconst 1, 1) := by decide +kernel
theorem dX8_advance_9 : decode cX8_advance 9 = .ok (.ldc2_w 299, 3) := by decide +kernel
theorem dX8_advance_12 : decode cX8_advance 12 = .ok (.invokestatic 80, 3) := by decide +kernel
theorem dX8_advance_15 : decode cX8_advance 15 = .ok (.ifCond .ne 7, 3) := by decide +kernel
theorem dX8_advance_18 : decode cX8_advance 18 = .ok (.iconst 1, 1) := by decide +kernel
theorem dX8_advance_19 : decode cX8_advance 19 = .ok (.goto 4, 3) := by decide +kernel
theorem dX8_advance_22 : decode cX8_advance 22 = .ok (.iconst 0, 1) := by decide +kernel
theorem dX8_advance_23 : decode cX8_advance 23 = .ok (.iconst 1, 1) := by decide +kernel
theorem dX8_advance_24 : decode cX8_advance 24 = .ok (.invokevirtual 301, 3) := by decide +kernel
theorem dX8_advance_27 : decode cX8_advance 27 = .ok (.ifCond .eq 5, 3) := by decide +kernel
theorem dX8_advance_30 : decode cX8_advance 30 = .ok (.iconst 0, 1) := by decide +kernel
theorem dX8_advance_31 : decode cX8_advance 31 = .ok (.ireturn, 1) := by decide +kernel
theorem dX8_advance_32 : decode cX8_advance 32 = .ok (.aload_n 0, 1) := by decide +kernel
theorem dX8_advance_33 : decode cX8_advance 33 = .ok (.getfield 9, 3) := by decide +kernel
theorem dX8_advance_36 : decode cX8_advance 36 = .ok (.iconst 0, 1) := by decide +kernel
theorem dX8_advance_37 : decode cX8_advance 37 = .ok (.iaload, 1) := by decide +kernel
theorem dX8_advance_38 : decode cX8_advance 38 = .ok (.iload_n 1, 1) := by decide +kernel
theorem dX8_advance_39 : decode cX8_advance 39 = .ok (.iadd, 1) := by decide +kernel
theorem dX8_advance_40 : decode cX8_advance 40 = .ok (.ldc_w 305, 3) := by decide +kernel
theorem dX8_advance_43 : decode cX8_advance 43 = .ok (.if_icmp .le 6, 3) := by decide +kernel
theorem dX8_advance_46 : decode cX8_advance 46 = .ok (.bipush (-2), 2) := by decide +kernel
theorem dX8_advance_48 : decode cX8_advance 48 = .ok (.ireturn, 1) := by decide +kernel
theorem dX8_advance_49 : decode cX8_advance 49 = .ok (.aload_n 0, 1) := by decide +kernel
theorem dX8_advance_50 : decode cX8_advance 50 = .ok (.iload_n 1, 1) := by decide +kernel
theorem dX8_advance_51 : decode cX8_advance 51 = .ok (.invokevirtual 306, 3) := by decide +kernel
theorem dX8_advance_54 : decode cX8_advance 54 = .ok (.aload_n 0, 1) := by decide +kernel
theorem dX8_advance_55 : decode cX8_advance 55 = .ok (.getfield 9, 3) := by decide +kernel
theorem dX8_advance_58 : decode cX8_advance 58 = .ok (.iconst 0, 1) := by decide +kernel
theorem dX8_advance_59 : decode cX8_advance 59 = .ok (.iaload, 1) := by decide +kernel
theorem dX8_advance_60 : decode cX8_advance 60 = .ok (.ireturn, 1) := by decide +kernel
theorem dX8_own_0 : decode cX8_own 0 = .ok (.aload_n 0, 1) := by decide +kernel
theorem dX8_own_1 : decode cX8_own 1 = .ok (.iconst 0, 1) := by decide +kernel
theorem dX8_own_2 : decode cX8_own 2 = .ok (.putfield 60, 3) := by decide +kernel
theorem dX8_own_5 : decode cX8_own 5 = .ok (.aload_n 0, 1) := by decide +kernel
theorem dX8_own_6 : decode cX8_own 6 = .ok (.getfield 9, 3) := by decide +kernel
theorem dX8_own_9 : decode cX8_own 9 = .ok (.iload_n 1, 1) := by decide +kernel
theorem dX8_own_10 : decode cX8_own 10 = .ok (.iaload, 1) := by decide +kernel
theorem dX8_own_11 : decode cX8_own 11 = .ok (.ireturn, 1) := by decide +kernel
theorem dX8_nodeCount_0 : decode cX8_nodeCount 0 = .ok (.aload_n 0, 1) := by decide +kernel
theorem dX8_nodeCount_1 : decode cX8_nodeCount 1 = .ok (.bipush 6, 2) := by decide +kernel
theorem dX8_nodeCount_3 : decode cX8_nodeCount 3 = .ok (.invokevirtual 309, 3) := by decide +kernel
theorem dX8_nodeCount_6 : decode cX8_nodeCount 6 = .ok (.ireturn, 1) := by decide +kernel
theorem dX8_linkCount_0 : decode cX8_linkCount 0 = .ok (.aload_n 0, 1) := by decide +kernel
theorem dX8_linkCount_1 : decode cX8_linkCount 1 = .ok (.bipush 7, 2) := by decide +kernel
theorem dX8_linkCount_3 : decode cX8_linkCount 3 = .ok (.invokevirtual 309, 3) := by decide +kernel
theorem dX8_linkCount_6 : decode cX8_linkCount 6 = .ok (.ireturn, 1) := by decide +kernel
theorem dX8_time_0 : decode cX8_time 0 = .ok (.aload_n 0, 1) := by decide +kernel
theorem dX8_time_1 : decode cX8_time 1 = .ok (.iconst 0, 1) := by decide +kernel
theorem dX8_time_2 : decode cX8_time 2 = .ok (.invokevirtual 309, 3) := by decide +kernel
theorem dX8_time_5 : decode cX8_time 5 = .ok (.ireturn, 1) := by decide +kernel
theorem dX8_requestCount_0 : decode cX8_requestCount 0 = .ok (.aload_n 0, 1) := by decide +kernel
theorem dX8_requestCount_1 : decode cX8_requestCount 1 = .ok (.bipush 8, 2) := by decide +kernel
theorem dX8_requestCount_3 : decode cX8_requestCount 3 = .ok (.invokevirtual 309, 3) := by decide +kernel
theorem dX8_requestCount_6 : decode cX8_requestCount 6 = .ok (.ireturn, 1) := by decide +kernel
theorem dX8_ticketCount_0 : decode cX8_ticketCount 0 = .ok (.aload_n 0, 1) := by decide +kernel
theorem dX8_ticketCount_1 : decode cX8_ticketCount 1 = .ok (.bipush 9, 2) := by decide +kernel
theorem dX8_ticketCount_3 : decode cX8_ticketCount 3 = .ok (.invokevirtual 309, 3) := by decide +kernel
theorem dX8_ticketCount_6 : decode cX8_ticketCount 6 = .ok (.ireturn, 1) := by decide +kernel
theorem dX8_isNode_0 : decode cX8_isNode 0 = .ok (.iload_n 1, 1) := by decide +kernel
theorem dX8_isNode_1 : decode cX8_isNode 1 = .ok (.i2l, 1) := by decide +kernel
theorem dX8_isNode_2 : decode cX8_isNode 2 = .ok (.lconst 0, 1) := by decide +kernel
theorem dX8_isNode_3 : decode cX8_isNode 3 = .ok (.aload_n 0, 1) := by decide +kernel
theorem dX8_isNode_4 : decode cX8_isNode 4 = .ok (.getfield 9, 3) := by decide +kernel
theorem dX8_isNode_7 : decode cX8_isNode 7 = .ok (.bipush 6, 2) := by decide +kernel
theorem dX8_isNode_9 : decode cX8_isNode 9 = .ok (.iaload, 1) := by decide +kernel
theorem dX8_isNode_10 : decode cX8_isNode 10 = .ok (.iconst 1, 1) := by decide +kernel
theorem dX8_isNode_11 : decode cX8_isNode 11 = .ok (.isub, 1) := by decide +kernel
theorem dX8_isNode_12 : decode cX8_isNode 12 = .ok (.i2l, 1) := by decide +kernel
theorem dX8_isNode_13 : decode cX8_isNode 13 = .ok (.invokestatic 80, 3) := by decide +kernel
theorem dX8_isNode_16 : decode cX8_isNode 16 = .ok (.ireturn, 1) := by decide +kernel
theorem dX8_nameLetter_0 : decode cX8_nameLetter 0 = .ok (.aload_n 0, 1) := by decide +kernel
theorem dX8_nameLetter_1 : decode cX8_nameLetter 1 = .ok (.iconst 0, 1) := by decide +kernel
theorem dX8_nameLetter_2 : decode cX8_nameLetter 2 = .ok (.putfield 60, 3) := by decide +kernel
theorem dX8_nameLetter_5 : decode cX8_nameLetter 5 = .ok (.aload_n 0, 1) := by decide +kernel
theorem dX8_nameLetter_6 : decode cX8_nameLetter 6 = .ok (.aload_n 0, 1) := by decide +kernel
theorem dX8_nameLetter_7 : decode cX8_nameLetter 7 = .ok (.iload_n 1, 1) := by decide +kernel
theorem dX8_nameLetter_8 : decode cX8_nameLetter 8 = .ok (.invokevirtual 312, 3) := by decide +kernel
theorem dX8_nameLetter_11 : decode cX8_nameLetter 11 = .ok (.ifCond .ne 7, 3) := by decide +kernel
theorem dX8_nameLetter_14 : decode cX8_nameLetter 14 = .ok (.iconst 1, 1) := by decide +kernel
theorem dX8_nameLetter_15 : decode cX8_nameLetter 15 = .ok (.goto 4, 3) := by decide +kernel
theorem dX8_nameLetter_18 : decode cX8_nameLetter 18 = .ok (.iconst 0, 1) := by decide +kernel
theorem dX8_nameLetter_19 : decode cX8_nameLetter 19 = .ok (.iconst 1, 1) := by decide +kernel
theorem dX8_nameLetter_20 : decode cX8_nameLetter 20 = .ok (.invokevirtual 301, 3) := by decide +kernel
theorem dX8_nameLetter_23 : decode cX8_nameLetter 23 = .ok (.ifCond .eq 5, 3) := by decide +kernel
theorem dX8_nameLetter_26 : decode cX8_nameLetter 26 = .ok (.iconst 0, 1) := by decide +kernel
theorem dX8_nameLetter_27 : decode cX8_nameLetter 27 = .ok (.ireturn, 1) := by decide +kernel
theorem dX8_nameLetter_28 : decode cX8_nameLetter 28 = .ok (.bipush 12, 2) := by decide +kernel
theorem dX8_nameLetter_30 : decode cX8_nameLetter 30 = .ok (.bipush 7, 2) := by decide +kernel
theorem dX8_nameLetter_32 : decode cX8_nameLetter 32 = .ok (.iload_n 1, 1) := by decide +kernel
theorem dX8_nameLetter_33 : decode cX8_nameLetter 33 = .ok (.imul, 1) := by decide +kernel
theorem dX8_nameLetter_34 : decode cX8_nameLetter 34 = .ok (.iadd, 1) := by decide +kernel
theorem dX8_nameLetter_35 : decode cX8_nameLetter 35 = .ok (.istore_n 3, 1) := by decide +kernel
theorem dX8_nameLetter_36 : decode cX8_nameLetter 36 = .ok (.iload_n 2, 1) := by decide +kernel
theorem dX8_nameLetter_37 : decode cX8_nameLetter 37 = .ok (.i2l, 1) := by decide +kernel
theorem dX8_nameLetter_38 : decode cX8_nameLetter 38 = .ok (.lconst 0, 1) := by decide +kernel
theorem dX8_nameLetter_39 : decode cX8_nameLetter 39 = .ok (.aload_n 0, 1) := by decide +kernel
theorem dX8_nameLetter_40 : decode cX8_nameLetter 40 = .ok (.getfield 9, 3) := by decide +kernel
theorem dX8_nameLetter_43 : decode cX8_nameLetter 43 = .ok (.iload_n 3, 1) := by decide +kernel
theorem dX8_nameLetter_44 : decode cX8_nameLetter 44 = .ok (.iaload, 1) := by decide +kernel
theorem dX8_nameLetter_45 : decode cX8_nameLetter 45 = .ok (.iconst 1, 1) := by decide +kernel
theorem dX8_nameLetter_46 : decode cX8_nameLetter 46 = .ok (.isub, 1) := by decide +kernel
theorem dX8_nameLetter_47 : decode cX8_nameLetter 47 = .ok (.i2l, 1) := by decide +kernel
theorem dX8_nameLetter_48 : decode cX8_nameLetter 48 = .ok (.invokestatic 80, 3) := by decide +kernel
theorem dX8_nameLetter_51 : decode cX8_nameLetter 51 = .ok (.ifCond .eq 16, 3) := by decide +kernel
theorem dX8_nameLetter_54 : decode cX8_nameLetter 54 = .ok (.aload_n 0, 1) := by decide +kernel
theorem dX8_nameLetter_55 : decode cX8_nameLetter 55 = .ok (.getfield 9, 3) := by decide +kernel
theorem dX8_nameLetter_58 : decode cX8_nameLetter 58 = .ok (.iload_n 3, 1) := by decide +kernel
theorem dX8_nameLetter_59 : decode cX8_nameLetter 59 = .ok (.iconst 1, 1) := by decide +kernel
theorem dX8_nameLetter_60 : decode cX8_nameLetter 60 = .ok (.iadd, 1) := by decide +kernel
theorem dX8_nameLetter_61 : decode cX8_nameLetter 61 = .ok (.iload_n 2, 1) := by decide +kernel
theorem dX8_nameLetter_62 : decode cX8_nameLetter 62 = .ok (.iadd, 1) := by decide +kernel
theorem dX8_nameLetter_63 : decode cX8_nameLetter 63 = .ok (.iaload, 1) := by decide +kernel
theorem dX8_nameLetter_64 : decode cX8_nameLetter 64 = .ok (.goto 4, 3) := by decide +kernel
theorem dX8_nameLetter_67 : decode cX8_nameLetter 67 = .ok (.iconst (-1), 1) := by decide +kernel
theorem dX8_nameLetter_68 : decode cX8_nameLetter 68 = .ok (.ireturn, 1) := by decide +kernel
theorem dX8_noLink_0 : decode cX8_noLink 0 = .ok (.aload_n 0, 1) := by decide +kernel
theorem dX8_noLink_1 : decode cX8_noLink 1 = .ok (.iconst 0, 1) := by decide +kernel
theorem dX8_noLink_2 : decode cX8_noLink 2 = .ok (.putfield 60, 3) := by decide +kernel
theorem dX8_noLink_5 : decode cX8_noLink 5 = .ok (.aload_n 0, 1) := by decide +kernel
theorem dX8_noLink_6 : decode cX8_noLink 6 = .ok (.iload_n 1, 1) := by decide +kernel
theorem dX8_noLink_7 : decode cX8_noLink 7 = .ok (.i2l, 1) := by decide +kernel
theorem dX8_noLink_8 : decode cX8_noLink 8 = .ok (.lconst 0, 1) := by decide +kernel
theorem dX8_noLink_9 : decode cX8_noLink 9 = .ok (.aload_n 0, 1) := by decide +kernel
theorem dX8_noLink_10 : decode cX8_noLink 10 = .ok (.getfield 9, 3) := by decide +kernel
theorem dX8_noLink_13 : decode cX8_noLink 13 = .ok (.bipush 7, 2) := by decide +kernel
theorem dX8_noLink_15 : decode cX8_noLink 15 = .ok (.iaload, 1) := by decide +kernel
theorem dX8_noLink_16 : decode cX8_noLink 16 = .ok (.iconst 1, 1) := by decide +kernel
theorem dX8_noLink_17 : decode cX8_noLink 17 = .ok (.isub, 1) := by decide +kernel
theorem dX8_noLink_18 : decode cX8_noLink 18 = .ok (.i2l, 1) := by decide +kernel
theorem dX8_noLink_19 : decode cX8_noLink 19 = .ok (.invokestatic 80, 3) := by decide +kernel
theorem dX8_noLink_22 : decode cX8_noLink 22 = .ok (.ifCond .ne 7, 3) := by decide +kernel
theorem dX8_noLink_25 : decode cX8_noLink 25 = .ok (.iconst 1, 1) := by decide +kernel
theorem dX8_noLink_26 : decode cX8_noLink 26 = .ok (.goto 4, 3) := by decide +kernel
theorem dX8_noLink_29 : decode cX8_noLink 29 = .ok (.iconst 0, 1) := by decide +kernel
theorem dX8_noLink_30 : decode cX8_noLink 30 = .ok (.iconst 1, 1) := by decide +kernel
theorem dX8_noLink_31 : decode cX8_noLink 31 = .ok (.invokevirtual 301, 3) := by decide +kernel
theorem dX8_noLink_34 : decode cX8_noLink 34 = .ok (.ireturn, 1) := by decide +kernel
theorem dX8_linkValue_0 : decode cX8_linkValue 0 = .ok (.aload_n 0, 1) := by decide +kernel
theorem dX8_linkValue_1 : decode cX8_linkValue 1 = .ok (.iload_n 1, 1) := by decide +kernel
theorem dX8_linkValue_2 : decode cX8_linkValue 2 = .ok (.invokevirtual 315, 3) := by decide +kernel
theorem dX8_linkValue_5 : decode cX8_linkValue 5 = .ok (.ifCond .ne 28, 3) := by decide +kernel
theorem dX8_linkValue_8 : decode cX8_linkValue 8 = .ok (.aload_n 0, 1) := by decide +kernel
theorem dX8_linkValue_9 : decode cX8_linkValue 9 = .ok (.iload_n 2, 1) := by decide +kernel
theorem dX8_linkValue_10 : decode cX8_linkValue 10 = .ok (.i2l, 1) := by decide +kernel
theorem dX8_linkValue_11 : decode cX8_linkValue 11 = .ok (.lconst 0, 1) := by decide +kernel
theorem dX8_linkValue_12 : decode cX8_linkValue 12 = .ok (.ldc2_w 318, 3) := by decide +kernel
theorem dX8_linkValue_15 : decode cX8_linkValue 15 = .ok (.invokestatic 80, 3) := by decide +kernel
theorem dX8_linkValue_18 : decode cX8_linkValue 18 = .ok (.ifCond .ne 7, 3) := by decide +kernel
theorem dX8_linkValue_21 : decode cX8_linkValue 21 = .ok (.iconst 1, 1) := by decide +kernel
theorem dX8_linkValue_22 : decode cX8_linkValue 22 = .ok (.goto 4, 3) := by decide +kernel
theorem dX8_linkValue_25 : decode cX8_linkValue 25 = .ok (.iconst 0, 1) := by decide +kernel
theorem dX8_linkValue_26 : decode cX8_linkValue 26 = .ok (.iconst 2, 1) := by decide +kernel
theorem dX8_linkValue_27 : decode cX8_linkValue 27 = .ok (.invokevirtual 301, 3) := by decide +kernel
theorem dX8_linkValue_30 : decode cX8_linkValue 30 = .ok (.ifCond .eq 5, 3) := by decide +kernel
theorem dX8_linkValue_33 : decode cX8_linkValue 33 = .ok (.iconst 0, 1) := by decide +kernel
theorem dX8_linkValue_34 : decode cX8_linkValue 34 = .ok (.ireturn, 1) := by decide +kernel
theorem dX8_linkValue_35 : decode cX8_linkValue 35 = .ok (.iload_n 2, 1) := by decide +kernel
theorem dX8_linkValue_36 : decode cX8_linkValue 36 = .ok (.tableswitch 59 5 8 #[32, 38, 44, 52], 32) := by decide +kernel
theorem dX8_linkValue_68 : decode cX8_linkValue 68 = .ok (.aload_n 0, 1) := by decide +kernel
theorem dX8_linkValue_69 : decode cX8_linkValue 69 = .ok (.iload_n 1, 1) := by decide +kernel
theorem dX8_linkValue_70 : decode cX8_linkValue 70 = .ok (.invokevirtual 206, 3) := by decide +kernel
theorem dX8_linkValue_73 : decode cX8_linkValue 73 = .ok (.ireturn, 1) := by decide +kernel
theorem dX8_linkValue_74 : decode cX8_linkValue 74 = .ok (.aload_n 0, 1) := by decide +kernel
theorem dX8_linkValue_75 : decode cX8_linkValue 75 = .ok (.iload_n 1, 1) := by decide +kernel
theorem dX8_linkValue_76 : decode cX8_linkValue 76 = .ok (.invokevirtual 209, 3) := by decide +kernel
theorem dX8_linkValue_79 : decode cX8_linkValue 79 = .ok (.ireturn, 1) := by decide +kernel
theorem dX8_linkValue_80 : decode cX8_linkValue 80 = .ok (.aload_n 0, 1) := by decide +kernel
theorem dX8_linkValue_81 : decode cX8_linkValue 81 = .ok (.iload_n 1, 1) := by decide +kernel
theorem dX8_linkValue_82 : decode cX8_linkValue 82 = .ok (.bipush 6, 2) := by decide +kernel
theorem dX8_linkValue_84 : decode cX8_linkValue 84 = .ok (.invokevirtual 204, 3) := by decide +kernel
theorem dX8_linkValue_87 : decode cX8_linkValue 87 = .ok (.ireturn, 1) := by decide +kernel
theorem dX8_linkValue_88 : decode cX8_linkValue 88 = .ok (.aload_n 0, 1) := by decide +kernel
theorem dX8_linkValue_89 : decode cX8_linkValue 89 = .ok (.iload_n 1, 1) := by decide +kernel
theorem dX8_linkValue_90 : decode cX8_linkValue 90 = .ok (.iconst 5, 1) := by decide +kernel
theorem dX8_linkValue_91 : decode cX8_linkValue 91 = .ok (.invokevirtual 204, 3) := by decide +kernel
theorem dX8_linkValue_94 : decode cX8_linkValue 94 = .ok (.ireturn, 1) := by decide +kernel
theorem dX8_linkValue_95 : decode cX8_linkValue 95 = .ok (.aload_n 0, 1) := by decide +kernel
theorem dX8_linkValue_96 : decode cX8_linkValue 96 = .ok (.iload_n 1, 1) := by decide +kernel
theorem dX8_linkValue_97 : decode cX8_linkValue 97 = .ok (.iload_n 2, 1) := by decide +kernel
theorem dX8_linkValue_98 : decode cX8_linkValue 98 = .ok (.invokevirtual 204, 3) := by decide +kernel
theorem dX8_linkValue_101 : decode cX8_linkValue 101 = .ok (.ireturn, 1) := by decide +kernel
theorem dX8_setting_0 : decode cX8_setting 0 = .ok (.aload_n 0, 1) := by decide +kernel
theorem dX8_setting_1 : decode cX8_setting 1 = .ok (.iconst 0, 1) := by decide +kernel
theorem dX8_setting_2 : decode cX8_setting 2 = .ok (.putfield 60, 3) := by decide +kernel
theorem dX8_setting_5 : decode cX8_setting 5 = .ok (.aload_n 0, 1) := by decide +kernel
theorem dX8_setting_6 : decode cX8_setting 6 = .ok (.iload_n 1, 1) := by decide +kernel
theorem dX8_setting_7 : decode cX8_setting 7 = .ok (.i2l, 1) := by decide +kernel
theorem dX8_setting_8 : decode cX8_setting 8 = .ok (.lconst 0, 1) := by decide +kernel
theorem dX8_setting_9 : decode cX8_setting 9 = .ok (.ldc2_w 320, 3) := by decide +kernel
theorem dX8_setting_12 : decode cX8_setting 12 = .ok (.invokestatic 80, 3) := by decide +kernel
theorem dX8_setting_15 : decode cX8_setting 15 = .ok (.ifCond .ne 7, 3) := by decide +kernel
theorem dX8_setting_18 : decode cX8_setting 18 = .ok (.iconst 1, 1) := by decide +kernel
theorem dX8_setting_19 : decode cX8_setting 19 = .ok (.goto 4, 3) := by decide +kernel
theorem dX8_setting_22 : decode cX8_setting 22 = .ok (.iconst 0, 1) := by decide +kernel
theorem dX8_setting_23 : decode cX8_setting 23 = .ok (.iconst 1, 1) := by decide +kernel
theorem dX8_setting_24 : decode cX8_setting 24 = .ok (.invokevirtual 301, 3) := by decide +kernel
theorem dX8_setting_27 : decode cX8_setting 27 = .ok (.ifCond .eq 7, 3) := by decide +kernel
theorem dX8_setting_30 : decode cX8_setting 30 = .ok (.iconst 0, 1) := by decide +kernel
theorem dX8_setting_31 : decode cX8_setting 31 = .ok (.goto 11, 3) := by decide +kernel
theorem dX8_setting_34 : decode cX8_setting 34 = .ok (.aload_n 0, 1) := by decide +kernel
theorem dX8_setting_35 : decode cX8_setting 35 = .ok (.getfield 9, 3) := by decide +kernel
theorem dX8_setting_38 : decode cX8_setting 38 = .ok (.iconst 1, 1) := by decide +kernel
theorem dX8_setting_39 : decode cX8_setting 39 = .ok (.iload_n 1, 1) := by decide +kernel
theorem dX8_setting_40 : decode cX8_setting 40 = .ok (.iadd, 1) := by decide +kernel
theorem dX8_setting_41 : decode cX8_setting 41 = .ok (.iaload, 1) := by decide +kernel
theorem dX8_setting_42 : decode cX8_setting 42 = .ok (.ireturn, 1) := by decide +kernel
theorem dX8_setSetting_0 : decode cX8_setSetting 0 = .ok (.aload_n 0, 1) := by decide +kernel
theorem dX8_setSetting_1 : decode cX8_setSetting 1 = .ok (.iconst 0, 1) := by decide +kernel
theorem dX8_setSetting_2 : decode cX8_setSetting 2 = .ok (.putfield 60, 3) := by decide +kernel
theorem dX8_setSetting_5 : decode cX8_setSetting 5 = .ok (.aload_n 0, 1) := by decide +kernel
theorem dX8_setSetting_6 : decode cX8_setSetting 6 = .ok (.iload_n 1, 1) := by decide +kernel
theorem dX8_setSetting_7 : decode cX8_setSetting 7 = .ok (.i2l, 1) := by decide +kernel
theorem dX8_setSetting_8 : decode cX8_setSetting 8 = .ok (.lconst 0, 1) := by decide +kernel
theorem dX8_setSetting_9 : decode cX8_setSetting 9 = .ok (.ldc2_w 320, 3) := by decide +kernel
theorem dX8_setSetting_12 : decode cX8_setSetting 12 = .ok (.invokestatic 80, 3) := by decide +kernel
theorem dX8_setSetting_15 : decode cX8_setSetting 15 = .ok (.ifCond .eq 25, 3) := by decide +kernel
theorem dX8_setSetting_18 : decode cX8_setSetting 18 = .ok (.iload_n 2, 1) := by decide +kernel
theorem dX8_setSetting_19 : decode cX8_setSetting 19 = .ok (.i2l, 1) := by decide +kernel
theorem dX8_setSetting_20 : decode cX8_setSetting 20 = .ok (.iconst 1, 1) := by decide +kernel
theorem dX8_setSetting_21 : decode cX8_setSetting 21 = .ok (.iload_n 1, 1) := by decide +kernel
theorem dX8_setSetting_22 : decode cX8_setSetting 22 = .ok (.iadd, 1) := by decide +kernel
theorem dX8_setSetting_23 : decode cX8_setSetting 23 = .ok (.invokestatic 154, 3) := by decide +kernel
theorem dX8_setSetting_26 : decode cX8_setSetting 26 = .ok (.i2l, 1) := by decide +kernel
theorem dX8_setSetting_27 : decode cX8_setSetting 27 = .ok (.iconst 1, 1) := by decide +kernel
theorem dX8_setSetting_28 : decode cX8_setSetting 28 = .ok (.iload_n 1, 1) := by decide +kernel
theorem dX8_setSetting_29 : decode cX8_setSetting 29 = .ok (.iadd, 1) := by decide +kernel
theorem dX8_setSetting_30 : decode cX8_setSetting 30 = .ok (.invokestatic 157, 3) := by decide +kernel
theorem dX8_setSetting_33 : decode cX8_setSetting 33 = .ok (.i2l, 1) := by decide +kernel
theorem dX8_setSetting_34 : decode cX8_setSetting 34 = .ok (.invokestatic 80, 3) := by decide +kernel
theorem dX8_setSetting_37 : decode cX8_setSetting 37 = .ok (.ifCond .ne 7, 3) := by decide +kernel
theorem dX8_setSetting_40 : decode cX8_setSetting 40 = .ok (.iconst 1, 1) := by decide +kernel
theorem dX8_setSetting_41 : decode cX8_setSetting 41 = .ok (.goto 4, 3) := by decide +kernel
theorem dX8_setSetting_44 : decode cX8_setSetting 44 = .ok (.iconst 0, 1) := by decide +kernel
theorem dX8_setSetting_45 : decode cX8_setSetting 45 = .ok (.iconst 1, 1) := by decide +kernel
theorem dX8_setSetting_46 : decode cX8_setSetting 46 = .ok (.invokevirtual 301, 3) := by decide +kernel
theorem dX8_setSetting_49 : decode cX8_setSetting 49 = .ok (.ifCond .eq 5, 3) := by decide +kernel
theorem dX8_setSetting_52 : decode cX8_setSetting 52 = .ok (.iconst 0, 1) := by decide +kernel
theorem dX8_setSetting_53 : decode cX8_setSetting 53 = .ok (.ireturn, 1) := by decide +kernel
theorem dX8_setSetting_54 : decode cX8_setSetting 54 = .ok (.aload_n 0, 1) := by decide +kernel
theorem dX8_setSetting_55 : decode cX8_setSetting 55 = .ok (.getfield 9, 3) := by decide +kernel
theorem dX8_setSetting_58 : decode cX8_setSetting 58 = .ok (.iconst 1, 1) := by decide +kernel
theorem dX8_setSetting_59 : decode cX8_setSetting 59 = .ok (.iload_n 1, 1) := by decide +kernel
theorem dX8_setSetting_60 : decode cX8_setSetting 60 = .ok (.iadd, 1) := by decide +kernel
theorem dX8_setSetting_61 : decode cX8_setSetting 61 = .ok (.iaload, 1) := by decide +kernel
theorem dX8_setSetting_62 : decode cX8_setSetting 62 = .ok (.istore_n 3, 1) := by decide +kernel
theorem dX8_setSetting_63 : decode cX8_setSetting 63 = .ok (.aload_n 0, 1) := by decide +kernel
theorem dX8_setSetting_64 : decode cX8_setSetting 64 = .ok (.getfield 9, 3) := by decide +kernel
theorem dX8_setSetting_67 : decode cX8_setSetting 67 = .ok (.iconst 1, 1) := by decide +kernel
theorem dX8_setSetting_68 : decode cX8_setSetting 68 = .ok (.iload_n 1, 1) := by decide +kernel
theorem dX8_setSetting_69 : decode cX8_setSetting 69 = .ok (.iadd, 1) := by decide +kernel
theorem dX8_setSetting_70 : decode cX8_setSetting 70 = .ok (.iload_n 2, 1) := by decide +kernel
theorem dX8_setSetting_71 : decode cX8_setSetting 71 = .ok (.iastore, 1) := by decide +kernel
theorem dX8_setSetting_72 : decode cX8_setSetting 72 = .ok (.iload_n 3, 1) := by decide +kernel
theorem dX8_setSetting_73 : decode cX8_setSetting 73 = .ok (.ireturn, 1) := by decide +kernel
theorem dX8_setCapacity_0 : decode cX8_setCapacity 0 = .ok (.aload_n 0, 1) := by decide +kernel
theorem dX8_setCapacity_1 : decode cX8_setCapacity 1 = .ok (.iload_n 1, 1) := by decide +kernel
theorem dX8_setCapacity_2 : decode cX8_setCapacity 2 = .ok (.invokevirtual 315, 3) := by decide +kernel
theorem dX8_setCapacity_5 : decode cX8_setCapacity 5 = .ok (.ifCond .ne 28, 3) := by decide +kernel
theorem dX8_setCapacity_8 : decode cX8_setCapacity 8 = .ok (.aload_n 0, 1) := by decide +kernel
theorem dX8_setCapacity_9 : decode cX8_setCapacity 9 = .ok (.iload_n 2, 1) := by decide +kernel
theorem dX8_setCapacity_10 : decode cX8_setCapacity 10 = .ok (.i2l, 1) := by decide +kernel
theorem dX8_setCapacity_11 : decode cX8_setCapacity 11 = .ok (.lconst 0, 1) := by decide +kernel
theorem dX8_setCapacity_12 : decode cX8_setCapacity 12 = .ok (.ldc2_w 299, 3) := by decide +kernel
theorem dX8_setCapacity_15 : decode cX8_setCapacity 15 = .ok (.invokestatic 80, 3) := by decide +kernel
theorem dX8_setCapacity_18 : decode cX8_setCapacity 18 = .ok (.ifCond .ne 7, 3) := by decide +kernel
theorem dX8_setCapacity_21 : decode cX8_setCapacity 21 = .ok (.iconst 1, 1) := by decide +kernel
theorem dX8_setCapacity_22 : decode cX8_setCapacity 22 = .ok (.goto 4, 3) := by decide +kernel
theorem dX8_setCapacity_25 : decode cX8_setCapacity 25 = .ok (.iconst 0, 1) := by decide +kernel
theorem dX8_setCapacity_26 : decode cX8_setCapacity 26 = .ok (.iconst 2, 1) := by decide +kernel
theorem dX8_setCapacity_27 : decode cX8_setCapacity 27 = .ok (.invokevirtual 301, 3) := by decide +kernel
theorem dX8_setCapacity_30 : decode cX8_setCapacity 30 = .ok (.ifCond .eq 5, 3) := by decide +kernel
theorem dX8_setCapacity_33 : decode cX8_setCapacity 33 = .ok (.iconst 0, 1) := by decide +kernel
theorem dX8_setCapacity_34 : decode cX8_setCapacity 34 = .ok (.ireturn, 1) := by decide +kernel
theorem dX8_setCapacity_35 : decode cX8_setCapacity 35 = .ok (.aload_n 0, 1) := by decide +kernel
theorem dX8_setCapacity_36 : decode cX8_setCapacity 36 = .ok (.iload_n 1, 1) := by decide +kernel
theorem dX8_setCapacity_37 : decode cX8_setCapacity 37 = .ok (.invokevirtual 206, 3) := by decide +kernel
theorem dX8_setCapacity_40 : decode cX8_setCapacity 40 = .ok (.iload_n 2, 1) := by decide +kernel
theorem dX8_setCapacity_41 : decode cX8_setCapacity 41 = .ok (.if_icmp .le 6, 3) := by decide +kernel
theorem dX8_setCapacity_44 : decode cX8_setCapacity 44 = .ok (.bipush (-3), 2) := by decide +kernel
theorem dX8_setCapacity_46 : decode cX8_setCapacity 46 = .ok (.ireturn, 1) := by decide +kernel
theorem dX8_setCapacity_47 : decode cX8_setCapacity 47 = .ok (.aload_n 0, 1) := by decide +kernel
theorem dX8_setCapacity_48 : decode cX8_setCapacity 48 = .ok (.iload_n 1, 1) := by decide +kernel
theorem dX8_setCapacity_49 : decode cX8_setCapacity 49 = .ok (.iconst 2, 1) := by decide +kernel
theorem dX8_setCapacity_50 : decode cX8_setCapacity 50 = .ok (.invokevirtual 204, 3) := by decide +kernel
theorem dX8_setCapacity_53 : decode cX8_setCapacity 53 = .ok (.istore_n 3, 1) := by decide +kernel
theorem dX8_setCapacity_54 : decode cX8_setCapacity 54 = .ok (.aload_n 0, 1) := by decide +kernel
theorem dX8_setCapacity_55 : decode cX8_setCapacity 55 = .ok (.getfield 9, 3) := by decide +kernel
theorem dX8_setCapacity_58 : decode cX8_setCapacity 58 = .ok (.bipush 96, 2) := by decide +kernel
theorem dX8_setCapacity_60 : decode cX8_setCapacity 60 = .ok (.bipush 7, 2) := by decide +kernel
theorem dX8_setCapacity_62 : decode cX8_setCapacity 62 = .ok (.iload_n 1, 1) := by decide +kernel
theorem dX8_setCapacity_63 : decode cX8_setCapacity 63 = .ok (.imul, 1) := by decide +kernel
theorem dX8_setCapacity_64 : decode cX8_setCapacity 64 = .ok (.iadd, 1) := by decide +kernel
theorem dX8_setCapacity_65 : decode cX8_setCapacity 65 = .ok (.iconst 2, 1) := by decide +kernel
theorem dX8_setCapacity_66 : decode cX8_setCapacity 66 = .ok (.iadd, 1) := by decide +kernel
theorem dX8_setCapacity_67 : decode cX8_setCapacity 67 = .ok (.iload_n 2, 1) := by decide +kernel
theorem dX8_setCapacity_68 : decode cX8_setCapacity 68 = .ok (.iastore, 1) := by decide +kernel
theorem dX8_setCapacity_69 : decode cX8_setCapacity 69 = .ok (.iload_n 3, 1) := by decide +kernel
theorem dX8_setCapacity_70 : decode cX8_setCapacity 70 = .ok (.ireturn, 1) := by decide +kernel
theorem dX8_hasTicketOn_0 : decode cX8_hasTicketOn 0 = .ok (.iconst 0, 1) := by decide +kernel
theorem dX8_hasTicketOn_1 : decode cX8_hasTicketOn 1 = .ok (.istore_n 3, 1) := by decide +kernel
theorem dX8_hasTicketOn_2 : decode cX8_hasTicketOn 2 = .ok (.iload_n 3, 1) := by decide +kernel
theorem dX8_hasTicketOn_3 : decode cX8_hasTicketOn 3 = .ok (.aload_n 0, 1) := by decide +kernel
theorem dX8_hasTicketOn_4 : decode cX8_hasTicketOn 4 = .ok (.getfield 9, 3) := by decide +kernel
theorem dX8_hasTicketOn_7 : decode cX8_hasTicketOn 7 = .ok (.bipush 9, 2) := by decide +kernel
theorem dX8_hasTicketOn_9 : decode cX8_hasTicketOn 9 = .ok (.iaload, 1) := by decide +kernel
theorem dX8_hasTicketOn_10 : decode cX8_hasTicketOn 10 = .ok (.if_icmp .ge 39, 3) := by decide +kernel
theorem dX8_hasTicketOn_13 : decode cX8_hasTicketOn 13 = .ok (.aload_n 0, 1) := by decide +kernel
theorem dX8_hasTicketOn_14 : decode cX8_hasTicketOn 14 = .ok (.iload_n 3, 1) := by decide +kernel
theorem dX8_hasTicketOn_15 : decode cX8_hasTicketOn 15 = .ok (.iconst 0, 1) := by decide +kernel
theorem dX8_hasTicketOn_16 : decode cX8_hasTicketOn 16 = .ok (.invokevirtual 197, 3) := by decide +kernel
theorem dX8_hasTicketOn_19 : decode cX8_hasTicketOn 19 = .ok (.iload_n 1, 1) := by decide +kernel
theorem dX8_hasTicketOn_20 : decode cX8_hasTicketOn 20 = .ok (.if_icmp .ne 23, 3) := by decide +kernel
theorem dX8_hasTicketOn_23 : decode cX8_hasTicketOn 23 = .ok (.aload_n 0, 1) := by decide +kernel
theorem dX8_hasTicketOn_24 : decode cX8_hasTicketOn 24 = .ok (.iload_n 3, 1) := by decide +kernel
theorem dX8_hasTicketOn_25 : decode cX8_hasTicketOn 25 = .ok (.iconst 1, 1) := by decide +kernel
theorem dX8_hasTicketOn_26 : decode cX8_hasTicketOn 26 = .ok (.invokevirtual 197, 3) := by decide +kernel
theorem dX8_hasTicketOn_29 : decode cX8_hasTicketOn 29 = .ok (.iload_n 2, 1) := by decide +kernel
theorem dX8_hasTicketOn_30 : decode cX8_hasTicketOn 30 = .ok (.if_icmp .ne 13, 3) := by decide +kernel
theorem dX8_hasTicketOn_33 : decode cX8_hasTicketOn 33 = .ok (.aload_n 0, 1) := by decide +kernel
theorem dX8_hasTicketOn_34 : decode cX8_hasTicketOn 34 = .ok (.iload_n 3, 1) := by decide +kernel
theorem dX8_hasTicketOn_35 : decode cX8_hasTicketOn 35 = .ok (.invokevirtual 201, 3) := by decide +kernel
theorem dX8_hasTicketOn_38 : decode cX8_hasTicketOn 38 = .ok (.ifCond .eq 5, 3) := by decide +kernel
theorem dX8_hasTicketOn_41 : decode cX8_hasTicketOn 41 = .ok (.iconst 1, 1) := by decide +kernel
theorem dX8_hasTicketOn_42 : decode cX8_hasTicketOn 42 = .ok (.ireturn, 1) := by decide +kernel
theorem dX8_hasTicketOn_43 : decode cX8_hasTicketOn 43 = .ok (.iinc 3 1, 3) := by decide +kernel
theorem dX8_hasTicketOn_46 : decode cX8_hasTicketOn 46 = .ok (.goto (-44), 3) := by decide +kernel
theorem dX8_hasTicketOn_49 : decode cX8_hasTicketOn 49 = .ok (.iconst 0, 1) := by decide +kernel
theorem dX8_hasTicketOn_50 : decode cX8_hasTicketOn 50 = .ok (.ireturn, 1) := by decide +kernel
theorem dX8_unused_0 : decode cX8_unused 0 = .ok (.aload_n 0, 1) := by decide +kernel
theorem dX8_unused_1 : decode cX8_unused 1 = .ok (.iload_n 2, 1) := by decide +kernel
theorem dX8_unused_2 : decode cX8_unused 2 = .ok (.bipush 6, 2) := by decide +kernel
theorem dX8_unused_4 : decode cX8_unused 4 = .ok (.invokevirtual 197, 3) := by decide +kernel
theorem dX8_unused_7 : decode cX8_unused 7 = .ok (.i2l, 1) := by decide +kernel
theorem dX8_unused_8 : decode cX8_unused 8 = .ok (.aload_n 0, 1) := by decide +kernel
theorem dX8_unused_9 : decode cX8_unused 9 = .ok (.iload_n 1, 1) := by decide +kernel
theorem dX8_unused_10 : decode cX8_unused 10 = .ok (.bipush 11, 2) := by decide +kernel
theorem dX8_unused_12 : decode cX8_unused 12 = .ok (.invokevirtual 229, 3) := by decide +kernel
theorem dX8_unused_15 : decode cX8_unused 15 = .ok (.aload_n 0, 1) := by decide +kernel
theorem dX8_unused_16 : decode cX8_unused 16 = .ok (.getfield 9, 3) := by decide +kernel
theorem dX8_unused_19 : decode cX8_unused 19 = .ok (.iconst 0, 1) := by decide +kernel
theorem dX8_unused_20 : decode cX8_unused 20 = .ok (.iaload, 1) := by decide +kernel
theorem dX8_unused_21 : decode cX8_unused 21 = .ok (.isub, 1) := by decide +kernel
theorem dX8_unused_22 : decode cX8_unused 22 = .ok (.i2l, 1) := by decide +kernel
theorem dX8_unused_23 : decode cX8_unused 23 = .ok (.lmul, 1) := by decide +kernel
theorem dX8_unused_24 : decode cX8_unused 24 = .ok (.aload_n 0, 1) := by decide +kernel
theorem dX8_unused_25 : decode cX8_unused 25 = .ok (.iload_n 1, 1) := by decide +kernel
theorem dX8_unused_26 : decode cX8_unused 26 = .ok (.iconst 3, 1) := by decide +kernel
theorem dX8_unused_27 : decode cX8_unused 27 = .ok (.invokevirtual 229, 3) := by decide +kernel
theorem dX8_unused_30 : decode cX8_unused 30 = .ok (.i2l, 1) := by decide +kernel
theorem dX8_unused_31 : decode cX8_unused 31 = .ok (.ldiv, 1) := by decide +kernel
theorem dX8_unused_32 : decode cX8_unused 32 = .ok (.l2i, 1) := by decide +kernel
theorem dX8_unused_33 : decode cX8_unused 33 = .ok (.ireturn, 1) := by decide +kernel
theorem dX8_stops_0 : decode cX8_stops 0 = .ok (.aload_n 0, 1) := by decide +kernel
theorem dX8_stops_1 : decode cX8_stops 1 = .ok (.iload_n 1, 1) := by decide +kernel
theorem dX8_stops_2 : decode cX8_stops 2 = .ok (.iconst 4, 1) := by decide +kernel
theorem dX8_stops_3 : decode cX8_stops 3 = .ok (.iload_n 2, 1) := by decide +kernel
theorem dX8_stops_4 : decode cX8_stops 4 = .ok (.invokevirtual 238, 3) := by decide +kernel
theorem dX8_stops_7 : decode cX8_stops 7 = .ok (.aload_n 0, 1) := by decide +kernel
theorem dX8_stops_8 : decode cX8_stops 8 = .ok (.iload_n 1, 1) := by decide +kernel
theorem dX8_stops_9 : decode cX8_stops 9 = .ok (.bipush 6, 2) := by decide +kernel
theorem dX8_stops_11 : decode cX8_stops 11 = .ok (.iconst (-1), 1) := by decide +kernel
theorem dX8_stops_12 : decode cX8_stops 12 = .ok (.invokevirtual 238, 3) := by decide +kernel
theorem dX8_stops_15 : decode cX8_stops 15 = .ok (.aload_n 0, 1) := by decide +kernel
theorem dX8_stops_16 : decode cX8_stops 16 = .ok (.iload_n 1, 1) := by decide +kernel
theorem dX8_stops_17 : decode cX8_stops 17 = .ok (.bipush 11, 2) := by decide +kernel
theorem dX8_stops_19 : decode cX8_stops 19 = .ok (.aload_n 0, 1) := by decide +kernel
theorem dX8_stops_20 : decode cX8_stops 20 = .ok (.getfield 9, 3) := by decide +kernel
theorem dX8_stops_23 : decode cX8_stops 23 = .ok (.iconst 0, 1) := by decide +kernel
theorem dX8_stops_24 : decode cX8_stops 24 = .ok (.iaload, 1) := by decide +kernel
theorem dX8_stops_25 : decode cX8_stops 25 = .ok (.invokevirtual 238, 3) := by decide +kernel
theorem dX8_stops_28 : decode cX8_stops 28 = .ok (.return_, 1) := by decide +kernel
theorem dX8_breaks_0 : decode cX8_breaks 0 = .ok (.iconst 0, 1) := by decide +kernel
theorem dX8_breaks_1 : decode cX8_breaks 1 = .ok (.istore_n 2, 1) := by decide +kernel
theorem dX8_breaks_2 : decode cX8_breaks 2 = .ok (.iload_n 2, 1) := by decide +kernel
theorem dX8_breaks_3 : decode cX8_breaks 3 = .ok (.aload_n 0, 1) := by decide +kernel
theorem dX8_breaks_4 : decode cX8_breaks 4 = .ok (.getfield 9, 3) := by decide +kernel
theorem dX8_breaks_7 : decode cX8_breaks 7 = .ok (.bipush 9, 2) := by decide +kernel
theorem dX8_breaks_9 : decode cX8_breaks 9 = .ok (.iaload, 1) := by decide +kernel
theorem dX8_breaks_10 : decode cX8_breaks 10 = .ok (.if_icmp .ge 48, 3) := by decide +kernel
theorem dX8_breaks_13 : decode cX8_breaks 13 = .ok (.aload_n 0, 1) := by decide +kernel
theorem dX8_breaks_14 : decode cX8_breaks 14 = .ok (.iload_n 2, 1) := by decide +kernel
theorem dX8_breaks_15 : decode cX8_breaks 15 = .ok (.iconst 0, 1) := by decide +kernel
theorem dX8_breaks_16 : decode cX8_breaks 16 = .ok (.invokevirtual 197, 3) := by decide +kernel
theorem dX8_breaks_19 : decode cX8_breaks 19 = .ok (.iload_n 1, 1) := by decide +kernel
theorem dX8_breaks_20 : decode cX8_breaks 20 = .ok (.if_icmp .ne 32, 3) := by decide +kernel
theorem dX8_breaks_23 : decode cX8_breaks 23 = .ok (.aload_n 0, 1) := by decide +kernel
theorem dX8_breaks_24 : decode cX8_breaks 24 = .ok (.iload_n 2, 1) := by decide +kernel
theorem dX8_breaks_25 : decode cX8_breaks 25 = .ok (.invokevirtual 201, 3) := by decide +kernel
theorem dX8_breaks_28 : decode cX8_breaks 28 = .ok (.ifCond .ne 6, 3) := by decide +kernel
theorem dX8_breaks_31 : decode cX8_breaks 31 = .ok (.goto 21, 3) := by decide +kernel
theorem dX8_breaks_34 : decode cX8_breaks 34 = .ok (.aload_n 0, 1) := by decide +kernel
theorem dX8_breaks_35 : decode cX8_breaks 35 = .ok (.iload_n 2, 1) := by decide +kernel
theorem dX8_breaks_36 : decode cX8_breaks 36 = .ok (.iconst 5, 1) := by decide +kernel
theorem dX8_breaks_37 : decode cX8_breaks 37 = .ok (.iconst 3, 1) := by decide +kernel
theorem dX8_breaks_38 : decode cX8_breaks 38 = .ok (.invokevirtual 242, 3) := by decide +kernel
theorem dX8_breaks_41 : decode cX8_breaks 41 = .ok (.aload_n 0, 1) := by decide +kernel
theorem dX8_breaks_42 : decode cX8_breaks 42 = .ok (.iload_n 2, 1) := by decide +kernel
theorem dX8_breaks_43 : decode cX8_breaks 43 = .ok (.aload_n 0, 1) := by decide +kernel
theorem dX8_breaks_44 : decode cX8_breaks 44 = .ok (.iload_n 1, 1) := by decide +kernel
theorem dX8_breaks_45 : decode cX8_breaks 45 = .ok (.iload_n 2, 1) := by decide +kernel
theorem dX8_breaks_46 : decode cX8_breaks 46 = .ok (.invokevirtual 322, 3) := by decide +kernel
theorem dX8_breaks_49 : decode cX8_breaks 49 = .ok (.invokevirtual 257, 3) := by decide +kernel
theorem dX8_breaks_52 : decode cX8_breaks 52 = .ok (.iinc 2 1, 3) := by decide +kernel
theorem dX8_breaks_55 : decode cX8_breaks 55 = .ok (.goto (-53), 3) := by decide +kernel
theorem dX8_breaks_58 : decode cX8_breaks 58 = .ok (.aload_n 0, 1) := by decide +kernel
theorem dX8_breaks_59 : decode cX8_breaks 59 = .ok (.iload_n 1, 1) := by decide +kernel
theorem dX8_breaks_60 : decode cX8_breaks 60 = .ok (.bipush 6, 2) := by decide +kernel
theorem dX8_breaks_62 : decode cX8_breaks 62 = .ok (.invokevirtual 325, 3) := by decide +kernel
theorem dX8_breaks_65 : decode cX8_breaks 65 = .ok (.return_, 1) := by decide +kernel
theorem dX8_downs_0 : decode cX8_downs 0 = .ok (.aload_n 0, 1) := by decide +kernel
theorem dX8_downs_1 : decode cX8_downs 1 = .ok (.getfield 9, 3) := by decide +kernel
theorem dX8_downs_4 : decode cX8_downs 4 = .ok (.bipush 96, 2) := by decide +kernel
theorem dX8_downs_6 : decode cX8_downs 6 = .ok (.bipush 7, 2) := by decide +kernel
theorem dX8_downs_8 : decode cX8_downs 8 = .ok (.iload_n 1, 1) := by decide +kernel
theorem dX8_downs_9 : decode cX8_downs 9 = .ok (.imul, 1) := by decide +kernel
theorem dX8_downs_10 : decode cX8_downs 10 = .ok (.iadd, 1) := by decide +kernel
theorem dX8_downs_11 : decode cX8_downs 11 = .ok (.iconst 5, 1) := by decide +kernel
theorem dX8_downs_12 : decode cX8_downs 12 = .ok (.iadd, 1) := by decide +kernel
theorem dX8_downs_13 : decode cX8_downs 13 = .ok (.iconst 0, 1) := by decide +kernel
theorem dX8_downs_14 : decode cX8_downs 14 = .ok (.iastore, 1) := by decide +kernel
theorem dX8_downs_15 : decode cX8_downs 15 = .ok (.iconst 0, 1) := by decide +kernel
theorem dX8_downs_16 : decode cX8_downs 16 = .ok (.istore_n 2, 1) := by decide +kernel
theorem dX8_downs_17 : decode cX8_downs 17 = .ok (.iconst 0, 1) := by decide +kernel
theorem dX8_downs_18 : decode cX8_downs 18 = .ok (.istore_n 3, 1) := by decide +kernel
theorem dX8_downs_19 : decode cX8_downs 19 = .ok (.iload_n 3, 1) := by decide +kernel
theorem dX8_downs_20 : decode cX8_downs 20 = .ok (.aload_n 0, 1) := by decide +kernel
theorem dX8_downs_21 : decode cX8_downs 21 = .ok (.getfield 9, 3) := by decide +kernel
theorem dX8_downs_24 : decode cX8_downs 24 = .ok (.bipush 8, 2) := by decide +kernel
theorem dX8_downs_26 : decode cX8_downs 26 = .ok (.iaload, 1) := by decide +kernel
theorem dX8_downs_27 : decode cX8_downs 27 = .ok (.if_icmp .ge 48, 3) := by decide +kernel
theorem dX8_downs_30 : decode cX8_downs 30 = .ok (.aload_n 0, 1) := by decide +kernel
theorem dX8_downs_31 : decode cX8_downs 31 = .ok (.iload_n 3, 1) := by decide +kernel
theorem dX8_downs_32 : decode cX8_downs 32 = .ok (.iload_n 1, 1) := by decide +kernel
theorem dX8_downs_33 : decode cX8_downs 33 = .ok (.invokevirtual 328, 3) := by decide +kernel
theorem dX8_downs_36 : decode cX8_downs 36 = .ok (.ifCond .ne 6, 3) := by decide +kernel
theorem dX8_downs_39 : decode cX8_downs 39 = .ok (.goto 30, 3) := by decide +kernel
theorem dX8_downs_42 : decode cX8_downs 42 = .ok (.aload_n 0, 1) := by decide +kernel
theorem dX8_downs_43 : decode cX8_downs 43 = .ok (.iload_n 3, 1) := by decide +kernel
theorem dX8_downs_44 : decode cX8_downs 44 = .ok (.iconst 4, 1) := by decide +kernel
theorem dX8_downs_45 : decode cX8_downs 45 = .ok (.invokevirtual 229, 3) := by decide +kernel
theorem dX8_downs_48 : decode cX8_downs 48 = .ok (.iconst 2, 1) := by decide +kernel
theorem dX8_downs_49 : decode cX8_downs 49 = .ok (.if_icmp .ne 11, 3) := by decide +kernel
theorem dX8_downs_52 : decode cX8_downs 52 = .ok (.aload_n 0, 1) := by decide +kernel
theorem dX8_downs_53 : decode cX8_downs 53 = .ok (.iload_n 3, 1) := by decide +kernel
theorem dX8_downs_54 : decode cX8_downs 54 = .ok (.invokevirtual 331, 3) := by decide +kernel
theorem dX8_downs_57 : decode cX8_downs 57 = .ok (.goto 9, 3) := by decide +kernel
theorem dX8_downs_60 : decode cX8_downs 60 = .ok (.aload_n 0, 1) := by decide +kernel
theorem dX8_downs_61 : decode cX8_downs 61 = .ok (.iload_n 3, 1) := by decide +kernel
theorem dX8_downs_62 : decode cX8_downs 62 = .ok (.iload_n 1, 1) := by decide +kernel
theorem dX8_downs_63 : decode cX8_downs 63 = .ok (.invokevirtual 245, 3) := by decide +kernel
theorem dX8_downs_66 : decode cX8_downs 66 = .ok (.iinc 2 1, 3) := by decide +kernel
theorem dX8_downs_69 : decode cX8_downs 69 = .ok (.iinc 3 1, 3) := by decide +kernel
theorem dX8_downs_72 : decode cX8_downs 72 = .ok (.goto (-53), 3) := by decide +kernel
theorem dX8_downs_75 : decode cX8_downs 75 = .ok (.iload_n 2, 1) := by decide +kernel
theorem dX8_downs_76 : decode cX8_downs 76 = .ok (.ireturn, 1) := by decide +kernel
theorem dX8_takeDown_0 : decode cX8_takeDown 0 = .ok (.aload_n 0, 1) := by decide +kernel
theorem dX8_takeDown_1 : decode cX8_takeDown 1 = .ok (.iload_n 1, 1) := by decide +kernel
theorem dX8_takeDown_2 : decode cX8_takeDown 2 = .ok (.invokevirtual 315, 3) := by decide +kernel
theorem dX8_takeDown_5 : decode cX8_takeDown 5 = .ok (.ifCond .eq 5, 3) := by decide +kernel
theorem dX8_takeDown_8 : decode cX8_takeDown 8 = .ok (.iconst 0, 1) := by decide +kernel
theorem dX8_takeDown_9 : decode cX8_takeDown 9 = .ok (.ireturn, 1) := by decide +kernel
theorem dX8_takeDown_10 : decode cX8_takeDown 10 = .ok (.aload_n 0, 1) := by decide +kernel
theorem dX8_takeDown_11 : decode cX8_takeDown 11 = .ok (.iload_n 1, 1) := by decide +kernel
theorem dX8_takeDown_12 : decode cX8_takeDown 12 = .ok (.iconst 5, 1) := by decide +kernel
theorem dX8_takeDown_13 : decode cX8_takeDown 13 = .ok (.invokevirtual 204, 3) := by decide +kernel
theorem dX8_takeDown_16 : decode cX8_takeDown 16 = .ok (.ifCond .ne 8, 3) := by decide +kernel
theorem dX8_takeDown_19 : decode cX8_takeDown 19 = .ok (.bipush (-3), 2) := by decide +kernel
theorem dX8_takeDown_21 : decode cX8_takeDown 21 = .ok (.goto 8, 3) := by decide +kernel
theorem dX8_takeDown_24 : decode cX8_takeDown 24 = .ok (.aload_n 0, 1) := by decide +kernel
theorem dX8_takeDown_25 : decode cX8_takeDown 25 = .ok (.iload_n 1, 1) := by decide +kernel
theorem dX8_takeDown_26 : decode cX8_takeDown 26 = .ok (.invokevirtual 334, 3) := by decide +kernel
theorem dX8_takeDown_29 : decode cX8_takeDown 29 = .ok (.ireturn, 1) := by decide +kernel
theorem dX8_bringUp_0 : decode cX8_bringUp 0 = .ok (.aload_n 0, 1) := by decide +kernel
theorem dX8_bringUp_1 : decode cX8_bringUp 1 = .ok (.iload_n 1, 1) := by decide +kernel
theorem dX8_bringUp_2 : decode cX8_bringUp 2 = .ok (.invokevirtual 315, 3) := by decide +kernel
theorem dX8_bringUp_5 : decode cX8_bringUp 5 = .ok (.ifCond .eq 5, 3) := by decide +kernel
theorem dX8_bringUp_8 : decode cX8_bringUp 8 = .ok (.iconst 0, 1) := by decide +kernel
theorem dX8_bringUp_9 : decode cX8_bringUp 9 = .ok (.ireturn, 1) := by decide +kernel
theorem dX8_bringUp_10 : decode cX8_bringUp 10 = .ok (.aload_n 0, 1) := by decide +kernel
theorem dX8_bringUp_11 : decode cX8_bringUp 11 = .ok (.iload_n 1, 1) := by decide +kernel
theorem dX8_bringUp_12 : decode cX8_bringUp 12 = .ok (.iconst 5, 1) := by decide +kernel
theorem dX8_bringUp_13 : decode cX8_bringUp 13 = .ok (.invokevirtual 204, 3) := by decide +kernel
theorem dX8_bringUp_16 : decode cX8_bringUp 16 = .ok (.iconst 1, 1) := by decide +kernel
theorem dX8_bringUp_17 : decode cX8_bringUp 17 = .ok (.if_icmp .ne 6, 3) := by decide +kernel
theorem dX8_bringUp_20 : decode cX8_bringUp 20 = .ok (.bipush (-3), 2) := by decide +kernel
theorem dX8_bringUp_22 : decode cX8_bringUp 22 = .ok (.ireturn, 1) := by decide +kernel
theorem dX8_bringUp_23 : decode cX8_bringUp 23 = .ok (.aload_n 0, 1) := by decide +kernel
theorem dX8_bringUp_24 : decode cX8_bringUp 24 = .ok (.getfield 9, 3) := by decide +kernel
theorem dX8_bringUp_27 : decode cX8_bringUp 27 = .ok (.bipush 96, 2) := by decide +kernel
theorem dX8_bringUp_29 : decode cX8_bringUp 29 = .ok (.bipush 7, 2) := by decide +kernel
theorem dX8_bringUp_31 : decode cX8_bringUp 31 = .ok (.iload_n 1, 1) := by decide +kernel
theorem dX8_bringUp_32 : decode cX8_bringUp 32 = .ok (.imul, 1) := by decide +kernel
theorem dX8_bringUp_33 : decode cX8_bringUp 33 = .ok (.iadd, 1) := by decide +kernel
theorem dX8_bringUp_34 : decode cX8_bringUp 34 = .ok (.iconst 5, 1) := by decide +kernel
theorem dX8_bringUp_35 : decode cX8_bringUp 35 = .ok (.iadd, 1) := by decide +kernel
theorem dX8_bringUp_36 : decode cX8_bringUp 36 = .ok (.iconst 1, 1) := by decide +kernel
theorem dX8_bringUp_37 : decode cX8_bringUp 37 = .ok (.iastore, 1) := by decide +kernel
theorem dX8_bringUp_38 : decode cX8_bringUp 38 = .ok (.aload_n 0, 1) := by decide +kernel
theorem dX8_bringUp_39 : decode cX8_bringUp 39 = .ok (.getfield 9, 3) := by decide +kernel
theorem dX8_bringUp_42 : decode cX8_bringUp 42 = .ok (.iconst 0, 1) := by decide +kernel
theorem dX8_bringUp_43 : decode cX8_bringUp 43 = .ok (.iaload, 1) := by decide +kernel
theorem dX8_bringUp_44 : decode cX8_bringUp 44 = .ok (.ireturn, 1) := by decide +kernel
theorem dX8_areNoNodes_0 : decode cX8_areNoNodes 0 = .ok (.aload_n 0, 1) := by decide +kernel
theorem dX8_areNoNodes_1 : decode cX8_areNoNodes 1 = .ok (.iconst 0, 1) := by decide +kernel
theorem dX8_areNoNodes_2 : decode cX8_areNoNodes 2 = .ok (.putfield 60, 3) := by decide +kernel
theorem dX8_areNoNodes_5 : decode cX8_areNoNodes 5 = .ok (.aload_n 0, 1) := by decide +kernel
theorem dX8_areNoNodes_6 : decode cX8_areNoNodes 6 = .ok (.aload_n 0, 1) := by decide +kernel
theorem dX8_areNoNodes_7 : decode cX8_areNoNodes 7 = .ok (.iload_n 1, 1) := by decide +kernel
theorem dX8_areNoNodes_8 : decode cX8_areNoNodes 8 = .ok (.invokevirtual 312, 3) := by decide +kernel
theorem dX8_areNoNodes_11 : decode cX8_areNoNodes 11 = .ok (.ifCond .eq 11, 3) := by decide +kernel
theorem dX8_areNoNodes_14 : decode cX8_areNoNodes 14 = .ok (.aload_n 0, 1) := by decide +kernel
theorem dX8_areNoNodes_15 : decode cX8_areNoNodes 15 = .ok (.iload_n 2, 1) := by decide +kernel
theorem dX8_areNoNodes_16 : decode cX8_areNoNodes 16 = .ok (.invokevirtual 312, 3) := by decide +kernel
theorem dX8_areNoNodes_19 : decode cX8_areNoNodes 19 = .ok (.ifCond .ne 7, 3) := by decide +kernel
theorem dX8_areNoNodes_22 : decode cX8_areNoNodes 22 = .ok (.iconst 1, 1) := by decide +kernel
theorem dX8_areNoNodes_23 : decode cX8_areNoNodes 23 = .ok (.goto 4, 3) := by decide +kernel
theorem dX8_areNoNodes_26 : decode cX8_areNoNodes 26 = .ok (.iconst 0, 1) := by decide +kernel
theorem dX8_areNoNodes_27 : decode cX8_areNoNodes 27 = .ok (.iconst 1, 1) := by decide +kernel
theorem dX8_areNoNodes_28 : decode cX8_areNoNodes 28 = .ok (.invokevirtual 301, 3) := by decide +kernel
theorem dX8_areNoNodes_31 : decode cX8_areNoNodes 31 = .ok (.ifCond .ne 21, 3) := by decide +kernel
theorem dX8_areNoNodes_34 : decode cX8_areNoNodes 34 = .ok (.aload_n 0, 1) := by decide +kernel
theorem dX8_areNoNodes_35 : decode cX8_areNoNodes 35 = .ok (.iload_n 1, 1) := by decide +kernel
theorem dX8_areNoNodes_36 : decode cX8_areNoNodes 36 = .ok (.iload_n 2, 1) := by decide +kernel
theorem dX8_areNoNodes_37 : decode cX8_areNoNodes 37 = .ok (.if_icmp .ne 7, 3) := by decide +kernel
theorem dX8_areNoNodes_40 : decode cX8_areNoNodes 40 = .ok (.iconst 1, 1) := by decide +kernel
theorem dX8_areNoNodes_41 : decode cX8_areNoNodes 41 = .ok (.goto 4, 3) := by decide +kernel
theorem dX8_areNoNodes_44 : decode cX8_areNoNodes 44 = .ok (.iconst 0, 1) := by decide +kernel
theorem dX8_areNoNodes_45 : decode cX8_areNoNodes 45 = .ok (.iconst 2, 1) := by decide +kernel
theorem dX8_areNoNodes_46 : decode cX8_areNoNodes 46 = .ok (.invokevirtual 301, 3) := by decide +kernel
theorem dX8_areNoNodes_49 : decode cX8_areNoNodes 49 = .ok (.ifCond .eq 7, 3) := by decide +kernel
theorem dX8_areNoNodes_52 : decode cX8_areNoNodes 52 = .ok (.iconst 1, 1) := by decide +kernel
theorem dX8_areNoNodes_53 : decode cX8_areNoNodes 53 = .ok (.goto 4, 3) := by decide +kernel
theorem dX8_areNoNodes_56 : decode cX8_areNoNodes 56 = .ok (.iconst 0, 1) := by decide +kernel
theorem dX8_areNoNodes_57 : decode cX8_areNoNodes 57 = .ok (.ireturn, 1) := by decide +kernel
theorem dX8_makes_0 : decode cX8_makes 0 = .ok (.aload_n 0, 1) := by decide +kernel
theorem dX8_makes_1 : decode cX8_makes 1 = .ok (.getfield 9, 3) := by decide +kernel
theorem dX8_makes_4 : decode cX8_makes 4 = .ok (.bipush 8, 2) := by decide +kernel
theorem dX8_makes_6 : decode cX8_makes 6 = .ok (.iaload, 1) := by decide +kernel
theorem dX8_makes_7 : decode cX8_makes 7 = .ok (.istore 5, 2) := by decide +kernel
theorem dX8_makes_9 : decode cX8_makes 9 = .ok (.iconst 0, 1) := by decide +kernel
theorem dX8_makes_10 : decode cX8_makes 10 = .ok (.istore 6, 2) := by decide +kernel
theorem dX8_makes_12 : decode cX8_makes 12 = .ok (.iload 6, 2) := by decide +kernel
theorem dX8_makes_14 : decode cX8_makes 14 = .ok (.bipush 28, 2) := by decide +kernel
theorem dX8_makes_16 : decode cX8_makes 16 = .ok (.if_icmp .ge 18, 3) := by decide +kernel
theorem dX8_makes_19 : decode cX8_makes 19 = .ok (.aload_n 0, 1) := by decide +kernel
theorem dX8_makes_20 : decode cX8_makes 20 = .ok (.iload 5, 2) := by decide +kernel
theorem dX8_makes_22 : decode cX8_makes 22 = .ok (.iload 6, 2) := by decide +kernel
theorem dX8_makes_24 : decode cX8_makes 24 = .ok (.iconst 0, 1) := by decide +kernel
theorem dX8_makes_25 : decode cX8_makes 25 = .ok (.invokevirtual 238, 3) := by decide +kernel
theorem dX8_makes_28 : decode cX8_makes 28 = .ok (.iinc 6 1, 3) := by decide +kernel
theorem dX8_makes_31 : decode cX8_makes 31 = .ok (.goto (-19), 3) := by decide +kernel
theorem dX8_makes_34 : decode cX8_makes 34 = .ok (.aload_n 0, 1) := by decide +kernel
theorem dX8_makes_35 : decode cX8_makes 35 = .ok (.iload 5, 2) := by decide +kernel
theorem dX8_makes_37 : decode cX8_makes 37 = .ok (.iconst 0, 1) := by decide +kernel
theorem dX8_makes_38 : decode cX8_makes 38 = .ok (.iload_n 1, 1) := by decide +kernel
theorem dX8_makes_39 : decode cX8_makes 39 = .ok (.invokevirtual 238, 3) := by decide +kernel
theorem dX8_makes_42 : decode cX8_makes 42 = .ok (.aload_n 0, 1) := by decide +kernel
theorem dX8_makes_43 : decode cX8_makes 43 = .ok (.iload 5, 2) := by decide +kernel
theorem dX8_makes_45 : decode cX8_makes 45 = .ok (.iconst 1, 1) := by decide +kernel
theorem dX8_makes_46 : decode cX8_makes 46 = .ok (.iload_n 2, 1) := by decide +kernel
theorem dX8_makes_47 : decode cX8_makes 47 = .ok (.invokevirtual 238, 3) := by decide +kernel
theorem dX8_makes_50 : decode cX8_makes 50 = .ok (.aload_n 0, 1) := by decide +kernel
theorem dX8_makes_51 : decode cX8_makes 51 = .ok (.iload 5, 2) := by decide +kernel
theorem dX8_makes_53 : decode cX8_makes 53 = .ok (.iconst 2, 1) := by decide +kernel
theorem dX8_makes_54 : decode cX8_makes 54 = .ok (.iload_n 3, 1) := by decide +kernel
theorem dX8_makes_55 : decode cX8_makes 55 = .ok (.invokevirtual 238, 3) := by decide +kernel
theorem dX8_makes_58 : decode cX8_makes 58 = .ok (.aload_n 0, 1) := by decide +kernel
theorem dX8_makes_59 : decode cX8_makes 59 = .ok (.iload 5, 2) := by decide +kernel
theorem dX8_makes_61 : decode cX8_makes 61 = .ok (.iconst 3, 1) := by decide +kernel
theorem dX8_makes_62 : decode cX8_makes 62 = .ok (.iload 4, 2) := by decide +kernel
theorem dX8_makes_64 : decode cX8_makes 64 = .ok (.invokevirtual 238, 3) := by decide +kernel
theorem dX8_makes_67 : decode cX8_makes 67 = .ok (.aload_n 0, 1) := by decide +kernel
theorem dX8_makes_68 : decode cX8_makes 68 = .ok (.iload 5, 2) := by decide +kernel
theorem dX8_makes_70 : decode cX8_makes 70 = .ok (.bipush 10, 2) := by decide +kernel
theorem dX8_makes_72 : decode cX8_makes 72 = .ok (.iconst (-1), 1) := by decide +kernel
theorem dX8_makes_73 : decode cX8_makes 73 = .ok (.invokevirtual 238, 3) := by decide +kernel
theorem dX8_makes_76 : decode cX8_makes 76 = .ok (.aload_n 0, 1) := by decide +kernel
theorem dX8_makes_77 : decode cX8_makes 77 = .ok (.iload 5, 2) := by decide +kernel
theorem dX8_makes_79 : decode cX8_makes 79 = .ok (.bipush 11, 2) := by decide +kernel
theorem dX8_makes_81 : decode cX8_makes 81 = .ok (.iconst (-1), 1) := by decide +kernel
theorem dX8_makes_82 : decode cX8_makes 82 = .ok (.invokevirtual 238, 3) := by decide +kernel
theorem dX8_makes_85 : decode cX8_makes 85 = .ok (.aload_n 0, 1) := by decide +kernel
theorem dX8_makes_86 : decode cX8_makes 86 = .ok (.iload 5, 2) := by decide +kernel
theorem dX8_makes_88 : decode cX8_makes 88 = .ok (.bipush 12, 2) := by decide +kernel
theorem dX8_makes_90 : decode cX8_makes 90 = .ok (.iconst (-1), 1) := by decide +kernel
theorem dX8_makes_91 : decode cX8_makes 91 = .ok (.invokevirtual 238, 3) := by decide +kernel
theorem dX8_makes_94 : decode cX8_makes 94 = .ok (.aload_n 0, 1) := by decide +kernel
theorem dX8_makes_95 : decode cX8_makes 95 = .ok (.getfield 9, 3) := by decide +kernel
theorem dX8_makes_98 : decode cX8_makes 98 = .ok (.bipush 8, 2) := by decide +kernel
theorem dX8_makes_100 : decode cX8_makes 100 = .ok (.dup2, 1) := by decide +kernel
theorem dX8_makes_101 : decode cX8_makes 101 = .ok (.iaload, 1) := by decide +kernel
theorem dX8_makes_102 : decode cX8_makes 102 = .ok (.iconst 1, 1) := by decide +kernel
theorem dX8_makes_103 : decode cX8_makes 103 = .ok (.iadd, 1) := by decide +kernel
theorem dX8_makes_104 : decode cX8_makes 104 = .ok (.iastore, 1) := by decide +kernel
theorem dX8_makes_105 : decode cX8_makes 105 = .ok (.aload_n 0, 1) := by decide +kernel
theorem dX8_makes_106 : decode cX8_makes 106 = .ok (.iload 5, 2) := by decide +kernel
theorem dX8_makes_108 : decode cX8_makes 108 = .ok (.invokevirtual 260, 3) := by decide +kernel
theorem dX8_makes_111 : decode cX8_makes 111 = .ok (.aload_n 0, 1) := by decide +kernel
theorem dX8_makes_112 : decode cX8_makes 112 = .ok (.iload 5, 2) := by decide +kernel
theorem dX8_makes_114 : decode cX8_makes 114 = .ok (.invokevirtual 276, 3) := by decide +kernel
theorem dX8_makes_117 : decode cX8_makes 117 = .ok (.iload 5, 2) := by decide +kernel
theorem dX8_makes_119 : decode cX8_makes 119 = .ok (.ireturn, 1) := by decide +kernel
theorem dX8_request_0 : decode cX8_request 0 = .ok (.aload_n 0, 1) := by decide +kernel
theorem dX8_request_1 : decode cX8_request 1 = .ok (.iload_n 1, 1) := by decide +kernel
theorem dX8_request_2 : decode cX8_request 2 = .ok (.iload_n 2, 1) := by decide +kernel
theorem dX8_request_3 : decode cX8_request 3 = .ok (.invokevirtual 337, 3) := by decide +kernel
theorem dX8_request_6 : decode cX8_request 6 = .ok (.ifCond .ne 41, 3) := by decide +kernel
theorem dX8_request_9 : decode cX8_request 9 = .ok (.aload_n 0, 1) := by decide +kernel
theorem dX8_request_10 : decode cX8_request 10 = .ok (.iload_n 3, 1) := by decide +kernel
theorem dX8_request_11 : decode cX8_request 11 = .ok (.i2l, 1) := by decide +kernel
theorem dX8_request_12 : decode cX8_request 12 = .ok (.lconst 1, 1) := by decide +kernel
theorem dX8_request_13 : decode cX8_request 13 = .ok (.ldc2_w 299, 3) := by decide +kernel
theorem dX8_request_16 : decode cX8_request 16 = .ok (.invokestatic 80, 3) := by decide +kernel
theorem dX8_request_19 : decode cX8_request 19 = .ok (.ifCond .eq 16, 3) := by decide +kernel
theorem dX8_request_22 : decode cX8_request 22 = .ok (.iload 4, 2) := by decide +kernel
theorem dX8_request_24 : decode cX8_request 24 = .ok (.i2l, 1) := by decide +kernel
theorem dX8_request_25 : decode cX8_request 25 = .ok (.lconst 1, 1) := by decide +kernel
theorem dX8_request_26 : decode cX8_request 26 = .ok (.ldc2_w 340, 3) := by decide +kernel
theorem dX8_request_29 : decode cX8_request 29 = .ok (.invokestatic 80, 3) := by decide +kernel
theorem dX8_request_32 : decode cX8_request 32 = .ok (.ifCond .ne 7, 3) := by decide +kernel
theorem dX8_request_35 : decode cX8_request 35 = .ok (.iconst 1, 1) := by decide +kernel
theorem dX8_request_36 : decode cX8_request 36 = .ok (.goto 4, 3) := by decide +kernel
theorem dX8_request_39 : decode cX8_request 39 = .ok (.iconst 0, 1) := by decide +kernel
theorem dX8_request_40 : decode cX8_request 40 = .ok (.iconst 2, 1) := by decide +kernel
theorem dX8_request_41 : decode cX8_request 41 = .ok (.invokevirtual 301, 3) := by decide +kernel
theorem dX8_request_44 : decode cX8_request 44 = .ok (.ifCond .eq 5, 3) := by decide +kernel
theorem dX8_request_47 : decode cX8_request 47 = .ok (.iconst 0, 1) := by decide +kernel
theorem dX8_request_48 : decode cX8_request 48 = .ok (.ireturn, 1) := by decide +kernel
theorem dX8_request_49 : decode cX8_request 49 = .ok (.aload_n 0, 1) := by decide +kernel
theorem dX8_request_50 : decode cX8_request 50 = .ok (.getfield 9, 3) := by decide +kernel
theorem dX8_request_53 : decode cX8_request 53 = .ok (.bipush 8, 2) := by decide +kernel
theorem dX8_request_55 : decode cX8_request 55 = .ok (.iaload, 1) := by decide +kernel
theorem dX8_request_56 : decode cX8_request 56 = .ok (.bipush 40, 2) := by decide +kernel
theorem dX8_request_58 : decode cX8_request 58 = .ok (.if_icmp .ne 8, 3) := by decide +kernel
theorem dX8_request_61 : decode cX8_request 61 = .ok (.bipush (-2), 2) := by decide +kernel
theorem dX8_request_63 : decode cX8_request 63 = .ok (.goto 12, 3) := by decide +kernel
theorem dX8_request_66 : decode cX8_request 66 = .ok (.aload_n 0, 1) := by decide +kernel
theorem dX8_request_67 : decode cX8_request 67 = .ok (.iload_n 1, 1) := by decide +kernel
theorem dX8_request_68 : decode cX8_request 68 = .ok (.iload_n 2, 1) := by decide +kernel
theorem dX8_request_69 : decode cX8_request 69 = .ok (.iload_n 3, 1) := by decide +kernel
theorem dX8_request_70 : decode cX8_request 70 = .ok (.iload 4, 2) := by decide +kernel
theorem dX8_request_72 : decode cX8_request 72 = .ok (.invokevirtual 342, 3) := by decide +kernel
theorem dX8_request_75 : decode cX8_request 75 = .ok (.ireturn, 1) := by decide +kernel
theorem dX8_noRequest_0 : decode cX8_noRequest 0 = .ok (.aload_n 0, 1) := by decide +kernel
theorem dX8_noRequest_1 : decode cX8_noRequest 1 = .ok (.iconst 0, 1) := by decide +kernel
theorem dX8_noRequest_2 : decode cX8_noRequest 2 = .ok (.putfield 60, 3) := by decide +kernel
theorem dX8_noRequest_5 : decode cX8_noRequest 5 = .ok (.aload_n 0, 1) := by decide +kernel
theorem dX8_noRequest_6 : decode cX8_noRequest 6 = .ok (.iload_n 1, 1) := by decide +kernel
theorem dX8_noRequest_7 : decode cX8_noRequest 7 = .ok (.i2l, 1) := by decide +kernel
theorem dX8_noRequest_8 : decode cX8_noRequest 8 = .ok (.lconst 0, 1) := by decide +kernel
theorem dX8_noRequest_9 : decode cX8_noRequest 9 = .ok (.aload_n 0, 1) := by decide +kernel
theorem dX8_noRequest_10 : decode cX8_noRequest 10 = .ok (.getfield 9, 3) := by decide +kernel
theorem dX8_noRequest_13 : decode cX8_noRequest 13 = .ok (.bipush 8, 2) := by decide +kernel
theorem dX8_noRequest_15 : decode cX8_noRequest 15 = .ok (.iaload, 1) := by decide +kernel
theorem dX8_noRequest_16 : decode cX8_noRequest 16 = .ok (.iconst 1, 1) := by decide +kernel
theorem dX8_noRequest_17 : decode cX8_noRequest 17 = .ok (.isub, 1) := by decide +kernel
theorem dX8_noRequest_18 : decode cX8_noRequest 18 = .ok (.i2l, 1) := by decide +kernel
theorem dX8_noRequest_19 : decode cX8_noRequest 19 = .ok (.invokestatic 80, 3) := by decide +kernel
theorem dX8_noRequest_22 : decode cX8_noRequest 22 = .ok (.ifCond .ne 7, 3) := by decide +kernel
theorem dX8_noRequest_25 : decode cX8_noRequest 25 = .ok (.iconst 1, 1) := by decide +kernel
theorem dX8_noRequest_26 : decode cX8_noRequest 26 = .ok (.goto 4, 3) := by decide +kernel
theorem dX8_noRequest_29 : decode cX8_noRequest 29 = .ok (.iconst 0, 1) := by decide +kernel
theorem dX8_noRequest_30 : decode cX8_noRequest 30 = .ok (.iconst 1, 1) := by decide +kernel
theorem dX8_noRequest_31 : decode cX8_noRequest 31 = .ok (.invokevirtual 301, 3) := by decide +kernel
theorem dX8_noRequest_34 : decode cX8_noRequest 34 = .ok (.ireturn, 1) := by decide +kernel
theorem dX8_cancel_0 : decode cX8_cancel 0 = .ok (.aload_n 0, 1) := by decide +kernel
theorem dX8_cancel_1 : decode cX8_cancel 1 = .ok (.iload_n 1, 1) := by decide +kernel
theorem dX8_cancel_2 : decode cX8_cancel 2 = .ok (.invokevirtual 346, 3) := by decide +kernel
theorem dX8_cancel_5 : decode cX8_cancel 5 = .ok (.ifCond .eq 5, 3) := by decide +kernel
theorem dX8_cancel_8 : decode cX8_cancel 8 = .ok (.iconst 0, 1) := by decide +kernel
theorem dX8_cancel_9 : decode cX8_cancel 9 = .ok (.ireturn, 1) := by decide +kernel
theorem dX8_cancel_10 : decode cX8_cancel 10 = .ok (.aload_n 0, 1) := by decide +kernel
theorem dX8_cancel_11 : decode cX8_cancel 11 = .ok (.iload_n 1, 1) := by decide +kernel
theorem dX8_cancel_12 : decode cX8_cancel 12 = .ok (.iconst 4, 1) := by decide +kernel
theorem dX8_cancel_13 : decode cX8_cancel 13 = .ok (.invokevirtual 229, 3) := by decide +kernel
theorem dX8_cancel_16 : decode cX8_cancel 16 = .ok (.istore_n 2, 1) := by decide +kernel
theorem dX8_cancel_17 : decode cX8_cancel 17 = .ok (.iload_n 2, 1) := by decide +kernel
theorem dX8_cancel_18 : decode cX8_cancel 18 = .ok (.ifCond .eq 22, 3) := by decide +kernel
theorem dX8_cancel_21 : decode cX8_cancel 21 = .ok (.iload_n 2, 1) := by decide +kernel
theorem dX8_cancel_22 : decode cX8_cancel 22 = .ok (.iconst 1, 1) := by decide +kernel
theorem dX8_cancel_23 : decode cX8_cancel 23 = .ok (.if_icmp .eq 17, 3) := by decide +kernel
theorem dX8_cancel_26 : decode cX8_cancel 26 = .ok (.iload_n 2, 1) := by decide +kernel
theorem dX8_cancel_27 : decode cX8_cancel 27 = .ok (.iconst 2, 1) := by decide +kernel
theorem dX8_cancel_28 : decode cX8_cancel 28 = .ok (.if_icmp .eq 12, 3) := by decide +kernel
theorem dX8_cancel_31 : decode cX8_cancel 31 = .ok (.iload_n 2, 1) := by decide +kernel
theorem dX8_cancel_32 : decode cX8_cancel 32 = .ok (.bipush 7, 2) := by decide +kernel
theorem dX8_cancel_34 : decode cX8_cancel 34 = .ok (.if_icmp .eq 6, 3) := by decide +kernel
theorem dX8_cancel_37 : decode cX8_cancel 37 = .ok (.bipush (-3), 2) := by decide +kernel
theorem dX8_cancel_39 : decode cX8_cancel 39 = .ok (.ireturn, 1) := by decide +kernel
theorem dX8_cancel_40 : decode cX8_cancel 40 = .ok (.iconst 0, 1) := by decide +kernel
theorem dX8_cancel_41 : decode cX8_cancel 41 = .ok (.istore_n 3, 1) := by decide +kernel
theorem dX8_cancel_42 : decode cX8_cancel 42 = .ok (.iconst 0, 1) := by decide +kernel
theorem dX8_cancel_43 : decode cX8_cancel 43 = .ok (.istore 4, 2) := by decide +kernel
theorem dX8_cancel_45 : decode cX8_cancel 45 = .ok (.iload 4, 2) := by decide +kernel
theorem dX8_cancel_47 : decode cX8_cancel 47 = .ok (.aload_n 0, 1) := by decide +kernel
theorem dX8_cancel_48 : decode cX8_cancel 48 = .ok (.getfield 9, 3) := by decide +kernel
theorem dX8_cancel_51 : decode cX8_cancel 51 = .ok (.bipush 9, 2) := by decide +kernel
theorem dX8_cancel_53 : decode cX8_cancel 53 = .ok (.iaload, 1) := by decide +kernel
theorem dX8_cancel_54 : decode cX8_cancel 54 = .ok (.if_icmp .ge 98, 3) := by decide +kernel
theorem dX8_cancel_57 : decode cX8_cancel 57 = .ok (.aload_n 0, 1) := by decide +kernel
theorem dX8_cancel_58 : decode cX8_cancel 58 = .ok (.iload 4, 2) := by decide +kernel
theorem dX8_cancel_60 : decode cX8_cancel 60 = .ok (.iconst 0, 1) := by decide +kernel
theorem dX8_cancel_61 : decode cX8_cancel 61 = .ok (.invokevirtual 197, 3) := by decide +kernel
theorem dX8_cancel_64 : decode cX8_cancel 64 = .ok (.iload_n 1, 1) := by decide +kernel
theorem dX8_cancel_65 : decode cX8_cancel 65 = .ok (.if_icmp .ne 81, 3) := by decide +kernel
theorem dX8_cancel_68 : decode cX8_cancel 68 = .ok (.aload_n 0, 1) := by decide +kernel
theorem dX8_cancel_69 : decode cX8_cancel 69 = .ok (.iload 4, 2) := by decide +kernel
theorem dX8_cancel_71 : decode cX8_cancel 71 = .ok (.invokevirtual 201, 3) := by decide +kernel
theorem dX8_cancel_74 : decode cX8_cancel 74 = .ok (.ifCond .ne 6, 3) := by decide +kernel
theorem dX8_cancel_77 : decode cX8_cancel 77 = .ok (.goto 69, 3) := by decide +kernel
theorem dX8_cancel_80 : decode cX8_cancel 80 = .ok (.iload_n 2, 1) := by decide +kernel
theorem dX8_cancel_81 : decode cX8_cancel 81 = .ok (.iconst 2, 1) := by decide +kernel
theorem dX8_cancel_82 : decode cX8_cancel 82 = .ok (.if_icmp .ne 13, 3) := by decide +kernel
theorem dX8_cancel_85 : decode cX8_cancel 85 = .ok (.aload_n 0, 1) := by decide +kernel
theorem dX8_cancel_86 : decode cX8_cancel 86 = .ok (.iload_n 1, 1) := by decide +kernel
theorem dX8_cancel_87 : decode cX8_cancel 87 = .ok (.iload 4, 2) := by decide +kernel
theorem dX8_cancel_89 : decode cX8_cancel 89 = .ok (.invokevirtual 322, 3) := by decide +kernel
theorem dX8_cancel_92 : decode cX8_cancel 92 = .ok (.goto 11, 3) := by decide +kernel
theorem dX8_cancel_95 : decode cX8_cancel 95 = .ok (.aload_n 0, 1) := by decide +kernel
theorem dX8_cancel_96 : decode cX8_cancel 96 = .ok (.iload 4, 2) := by decide +kernel
theorem dX8_cancel_98 : decode cX8_cancel 98 = .ok (.bipush 6, 2) := by decide +kernel
theorem dX8_cancel_100 : decode cX8_cancel 100 = .ok (.invokevirtual 197, 3) := by decide +kernel
theorem dX8_cancel_103 : decode cX8_cancel 103 = .ok (.istore 5, 2) := by decide +kernel
theorem dX8_cancel_105 : decode cX8_cancel 105 = .ok (.aload_n 0, 1) := by decide +kernel
theorem dX8_cancel_106 : decode cX8_cancel 106 = .ok (.iload 4, 2) := by decide +kernel
theorem dX8_cancel_108 : decode cX8_cancel 108 = .ok (.iconst 5, 1) := by decide +kernel
theorem dX8_cancel_109 : decode cX8_cancel 109 = .ok (.iconst 3, 1) := by decide +kernel
theorem dX8_cancel_110 : decode cX8_cancel 110 = .ok (.invokevirtual 242, 3) := by decide +kernel
theorem dX8_cancel_113 : decode cX8_cancel 113 = .ok (.aload_n 0, 1) := by decide +kernel
theorem dX8_cancel_114 : decode cX8_cancel 114 = .ok (.iload 4, 2) := by decide +kernel
theorem dX8_cancel_116 : decode cX8_cancel 116 = .ok (.iload 5, 2) := by decide +kernel
theorem dX8_cancel_118 : decode cX8_cancel 118 = .ok (.aload_n 0, 1) := by decide +kernel
theorem dX8_cancel_119 : decode cX8_cancel 119 = .ok (.getfield 9, 3) := by decide +kernel
theorem dX8_cancel_122 : decode cX8_cancel 122 = .ok (.iconst 5, 1) := by decide +kernel
theorem dX8_cancel_123 : decode cX8_cancel 123 = .ok (.iaload, 1) := by decide +kernel
theorem dX8_cancel_124 : decode cX8_cancel 124 = .ok (.imul, 1) := by decide +kernel
theorem dX8_cancel_125 : decode cX8_cancel 125 = .ok (.bipush 100, 2) := by decide +kernel
theorem dX8_cancel_127 : decode cX8_cancel 127 = .ok (.idiv, 1) := by decide +kernel
theorem dX8_cancel_128 : decode cX8_cancel 128 = .ok (.invokevirtual 257, 3) := by decide +kernel
theorem dX8_cancel_131 : decode cX8_cancel 131 = .ok (.iload_n 3, 1) := by decide +kernel
theorem dX8_cancel_132 : decode cX8_cancel 132 = .ok (.iload 5, 2) := by decide +kernel
theorem dX8_cancel_134 : decode cX8_cancel 134 = .ok (.aload_n 0, 1) := by decide +kernel
theorem dX8_cancel_135 : decode cX8_cancel 135 = .ok (.getfield 9, 3) := by decide +kernel
theorem dX8_cancel_138 : decode cX8_cancel 138 = .ok (.iconst 5, 1) := by decide +kernel
theorem dX8_cancel_139 : decode cX8_cancel 139 = .ok (.iaload, 1) := by decide +kernel
theorem dX8_cancel_140 : decode cX8_cancel 140 = .ok (.imul, 1) := by decide +kernel
theorem dX8_cancel_141 : decode cX8_cancel 141 = .ok (.bipush 100, 2) := by decide +kernel
theorem dX8_cancel_143 : decode cX8_cancel 143 = .ok (.idiv, 1) := by decide +kernel
theorem dX8_cancel_144 : decode cX8_cancel 144 = .ok (.iadd, 1) := by decide +kernel
theorem dX8_cancel_145 : decode cX8_cancel 145 = .ok (.istore_n 3, 1) := by decide +kernel
theorem dX8_cancel_146 : decode cX8_cancel 146 = .ok (.iinc 4 1, 3) := by decide +kernel
theorem dX8_cancel_149 : decode cX8_cancel 149 = .ok (.goto (-104), 3) := by decide +kernel
theorem dX8_cancel_152 : decode cX8_cancel 152 = .ok (.aload_n 0, 1) := by decide +kernel
theorem dX8_cancel_153 : decode cX8_cancel 153 = .ok (.iload_n 1, 1) := by decide +kernel
theorem dX8_cancel_154 : decode cX8_cancel 154 = .ok (.iconst 5, 1) := by decide +kernel
theorem dX8_cancel_155 : decode cX8_cancel 155 = .ok (.invokevirtual 325, 3) := by decide +kernel
theorem dX8_cancel_158 : decode cX8_cancel 158 = .ok (.iload_n 3, 1) := by decide +kernel
theorem dX8_cancel_159 : decode cX8_cancel 159 = .ok (.ireturn, 1) := by decide +kernel
theorem dX8_extend_0 : decode cX8_extend 0 = .ok (.aload_n 0, 1) := by decide +kernel
theorem dX8_extend_1 : decode cX8_extend 1 = .ok (.iload_n 1, 1) := by decide +kernel
theorem dX8_extend_2 : decode cX8_extend 2 = .ok (.invokevirtual 346, 3) := by decide +kernel
theorem dX8_extend_5 : decode cX8_extend 5 = .ok (.ifCond .eq 5, 3) := by decide +kernel
theorem dX8_extend_8 : decode cX8_extend 8 = .ok (.iconst 0, 1) := by decide +kernel
theorem dX8_extend_9 : decode cX8_extend 9 = .ok (.ireturn, 1) := by decide +kernel
theorem dX8_extend_10 : decode cX8_extend 10 = .ok (.iconst 0, 1) := by decide +kernel
theorem dX8_extend_11 : decode cX8_extend 11 = .ok (.istore_n 2, 1) := by decide +kernel
theorem dX8_extend_12 : decode cX8_extend 12 = .ok (.iconst 0, 1) := by decide +kernel
theorem dX8_extend_13 : decode cX8_extend 13 = .ok (.istore_n 3, 1) := by decide +kernel
theorem dX8_extend_14 : decode cX8_extend 14 = .ok (.iload_n 3, 1) := by decide +kernel
theorem dX8_extend_15 : decode cX8_extend 15 = .ok (.aload_n 0, 1) := by decide +kernel
theorem dX8_extend_16 : decode cX8_extend 16 = .ok (.getfield 9, 3) := by decide +kernel
theorem dX8_extend_19 : decode cX8_extend 19 = .ok (.bipush 9, 2) := by decide +kernel
theorem dX8_extend_21 : decode cX8_extend 21 = .ok (.iaload, 1) := by decide +kernel
theorem dX8_extend_22 : decode cX8_extend 22 = .ok (.if_icmp .ge 62, 3) := by decide +kernel
theorem dX8_extend_25 : decode cX8_extend 25 = .ok (.aload_n 0, 1) := by decide +kernel
theorem dX8_extend_26 : decode cX8_extend 26 = .ok (.iload_n 3, 1) := by decide +kernel
theorem dX8_extend_27 : decode cX8_extend 27 = .ok (.iconst 0, 1) := by decide +kernel
theorem dX8_extend_28 : decode cX8_extend 28 = .ok (.invokevirtual 197, 3) := by decide +kernel
theorem dX8_extend_31 : decode cX8_extend 31 = .ok (.iload_n 1, 1) := by decide +kernel
theorem dX8_extend_32 : decode cX8_extend 32 = .ok (.if_icmp .ne 46, 3) := by decide +kernel
theorem dX8_extend_35 : decode cX8_extend 35 = .ok (.aload_n 0, 1) := by decide +kernel
theorem dX8_extend_36 : decode cX8_extend 36 = .ok (.iload_n 3, 1) := by decide +kernel
theorem dX8_extend_37 : decode cX8_extend 37 = .ok (.iconst 5, 1) := by decide +kernel
theorem dX8_extend_38 : decode cX8_extend 38 = .ok (.invokevirtual 197, 3) := by decide +kernel
theorem dX8_extend_41 : decode cX8_extend 41 = .ok (.ifCond .eq 6, 3) := by decide +kernel
theorem dX8_extend_44 : decode cX8_extend 44 = .ok (.goto 34, 3) := by decide +kernel
theorem dX8_extend_47 : decode cX8_extend 47 = .ok (.aload_n 0, 1) := by decide +kernel
theorem dX8_extend_48 : decode cX8_extend 48 = .ok (.iload_n 3, 1) := by decide +kernel
theorem dX8_extend_49 : decode cX8_extend 49 = .ok (.iconst 4, 1) := by decide +kernel
theorem dX8_extend_50 : decode cX8_extend 50 = .ok (.aload_n 0, 1) := by decide +kernel
theorem dX8_extend_51 : decode cX8_extend 51 = .ok (.iload_n 3, 1) := by decide +kernel
theorem dX8_extend_52 : decode cX8_extend 52 = .ok (.iconst 4, 1) := by decide +kernel
theorem dX8_extend_53 : decode cX8_extend 53 = .ok (.invokevirtual 197, 3) := by decide +kernel
theorem dX8_extend_56 : decode cX8_extend 56 = .ok (.aload_n 0, 1) := by decide +kernel
theorem dX8_extend_57 : decode cX8_extend 57 = .ok (.getfield 9, 3) := by decide +kernel
theorem dX8_extend_60 : decode cX8_extend 60 = .ok (.iconst 0, 1) := by decide +kernel
theorem dX8_extend_61 : decode cX8_extend 61 = .ok (.iaload, 1) := by decide +kernel
theorem dX8_extend_62 : decode cX8_extend 62 = .ok (.aload_n 0, 1) := by decide +kernel
theorem dX8_extend_63 : decode cX8_extend 63 = .ok (.getfield 9, 3) := by decide +kernel
theorem dX8_extend_66 : decode cX8_extend 66 = .ok (.iconst 1, 1) := by decide +kernel
theorem dX8_extend_67 : decode cX8_extend 67 = .ok (.iaload, 1) := by decide +kernel
theorem dX8_extend_68 : decode cX8_extend 68 = .ok (.iadd, 1) := by decide +kernel
theorem dX8_extend_69 : decode cX8_extend 69 = .ok (.invokestatic 290, 3) := by decide +kernel
theorem dX8_extend_72 : decode cX8_extend 72 = .ok (.invokevirtual 242, 3) := by decide +kernel
theorem dX8_extend_75 : decode cX8_extend 75 = .ok (.iinc 2 1, 3) := by decide +kernel
theorem dX8_extend_78 : decode cX8_extend 78 = .ok (.iinc 3 1, 3) := by decide +kernel
theorem dX8_extend_81 : decode cX8_extend 81 = .ok (.goto (-67), 3) := by decide +kernel
theorem dX8_extend_84 : decode cX8_extend 84 = .ok (.iload_n 2, 1) := by decide +kernel
theorem dX8_extend_85 : decode cX8_extend 85 = .ok (.ireturn, 1) := by decide +kernel
theorem dX8_requestValue_0 : decode cX8_requestValue 0 = .ok (.aload_n 0, 1) := by decide +kernel
theorem dX8_requestValue_1 : decode cX8_requestValue 1 = .ok (.iload_n 1, 1) := by decide +kernel
theorem dX8_requestValue_2 : decode cX8_requestValue 2 = .ok (.invokevirtual 346, 3) := by decide +kernel
theorem dX8_requestValue_5 : decode cX8_requestValue 5 = .ok (.ifCond .ne 28, 3) := by decide +kernel
theorem dX8_requestValue_8 : decode cX8_requestValue 8 = .ok (.aload_n 0, 1) := by decide +kernel
theorem dX8_requestValue_9 : decode cX8_requestValue 9 = .ok (.iload_n 2, 1) := by decide +kernel
theorem dX8_requestValue_10 : decode cX8_requestValue 10 = .ok (.i2l, 1) := by decide +kernel
theorem dX8_requestValue_11 : decode cX8_requestValue 11 = .ok (.lconst 0, 1) := by decide +kernel
theorem dX8_requestValue_12 : decode cX8_requestValue 12 = .ok (.ldc2_w 349, 3) := by decide +kernel
theorem dX8_requestValue_15 : decode cX8_requestValue 15 = .ok (.invokestatic 80, 3) := by decide +kernel
theorem dX8_requestValue_18 : decode cX8_requestValue 18 = .ok (.ifCond .ne 7, 3) := by decide +kernel
theorem dX8_requestValue_21 : decode cX8_requestValue 21 = .ok (.iconst 1, 1) := by decide +kernel
theorem dX8_requestValue_22 : decode cX8_requestValue 22 = .ok (.goto 4, 3) := by decide +kernel
theorem dX8_requestValue_25 : decode cX8_requestValue 25 = .ok (.iconst 0, 1) := by decide +kernel
theorem dX8_requestValue_26 : decode cX8_requestValue 26 = .ok (.iconst 2, 1) := by decide +kernel
theorem dX8_requestValue_27 : decode cX8_requestValue 27 = .ok (.invokevirtual 301, 3) := by decide +kernel
theorem dX8_requestValue_30 : decode cX8_requestValue 30 = .ok (.ifCond .eq 7, 3) := by decide +kernel
theorem dX8_requestValue_33 : decode cX8_requestValue 33 = .ok (.iconst 0, 1) := by decide +kernel
theorem dX8_requestValue_34 : decode cX8_requestValue 34 = .ok (.goto 9, 3) := by decide +kernel
theorem dX8_requestValue_37 : decode cX8_requestValue 37 = .ok (.aload_n 0, 1) := by decide +kernel
theorem dX8_requestValue_38 : decode cX8_requestValue 38 = .ok (.iload_n 1, 1) := by decide +kernel
theorem dX8_requestValue_39 : decode cX8_requestValue 39 = .ok (.iload_n 2, 1) := by decide +kernel
theorem dX8_requestValue_40 : decode cX8_requestValue 40 = .ok (.invokevirtual 229, 3) := by decide +kernel
theorem dX8_requestValue_43 : decode cX8_requestValue 43 = .ok (.ireturn, 1) := by decide +kernel
theorem dX8_pathLength_0 : decode cX8_pathLength 0 = .ok (.aload_n 0, 1) := by decide +kernel
theorem dX8_pathLength_1 : decode cX8_pathLength 1 = .ok (.iload_n 1, 1) := by decide +kernel
theorem dX8_pathLength_2 : decode cX8_pathLength 2 = .ok (.invokevirtual 346, 3) := by decide +kernel
theorem dX8_pathLength_5 : decode cX8_pathLength 5 = .ok (.ifCond .eq 7, 3) := by decide +kernel
theorem dX8_pathLength_8 : decode cX8_pathLength 8 = .ok (.iconst 0, 1) := by decide +kernel
theorem dX8_pathLength_9 : decode cX8_pathLength 9 = .ok (.goto 10, 3) := by decide +kernel
theorem dX8_pathLength_12 : decode cX8_pathLength 12 = .ok (.aload_n 0, 1) := by decide +kernel
theorem dX8_pathLength_13 : decode cX8_pathLength 13 = .ok (.iload_n 1, 1) := by decide +kernel
theorem dX8_pathLength_14 : decode cX8_pathLength 14 = .ok (.bipush 13, 2) := by decide +kernel
theorem dX8_pathLength_16 : decode cX8_pathLength 16 = .ok (.invokevirtual 229, 3) := by decide +kernel
theorem dX8_pathLength_19 : decode cX8_pathLength 19 = .ok (.ireturn, 1) := by decide +kernel
theorem dX8_pathLink_0 : decode cX8_pathLink 0 = .ok (.aload_n 0, 1) := by decide +kernel
theorem dX8_pathLink_1 : decode cX8_pathLink 1 = .ok (.iload_n 1, 1) := by decide +kernel
theorem dX8_pathLink_2 : decode cX8_pathLink 2 = .ok (.invokevirtual 346, 3) := by decide +kernel
theorem dX8_pathLink_5 : decode cX8_pathLink 5 = .ok (.ifCond .eq 5, 3) := by decide +kernel
theorem dX8_pathLink_8 : decode cX8_pathLink 8 = .ok (.iconst 0, 1) := by decide +kernel
theorem dX8_pathLink_9 : decode cX8_pathLink 9 = .ok (.ireturn, 1) := by decide +kernel
theorem dX8_pathLink_10 : decode cX8_pathLink 10 = .ok (.iload_n 2, 1) := by decide +kernel
theorem dX8_pathLink_11 : decode cX8_pathLink 11 = .ok (.i2l, 1) := by decide +kernel
theorem dX8_pathLink_12 : decode cX8_pathLink 12 = .ok (.lconst 0, 1) := by decide +kernel
theorem dX8_pathLink_13 : decode cX8_pathLink 13 = .ok (.aload_n 0, 1) := by decide +kernel
theorem dX8_pathLink_14 : decode cX8_pathLink 14 = .ok (.iload_n 1, 1) := by decide +kernel
theorem dX8_pathLink_15 : decode cX8_pathLink 15 = .ok (.bipush 13, 2) := by decide +kernel
theorem dX8_pathLink_17 : decode cX8_pathLink 17 = .ok (.invokevirtual 229, 3) := by decide +kernel
theorem dX8_pathLink_20 : decode cX8_pathLink 20 = .ok (.iconst 1, 1) := by decide +kernel
theorem dX8_pathLink_21 : decode cX8_pathLink 21 = .ok (.isub, 1) := by decide +kernel
theorem dX8_pathLink_22 : decode cX8_pathLink 22 = .ok (.i2l, 1) := by decide +kernel
theorem dX8_pathLink_23 : decode cX8_pathLink 23 = .ok (.invokestatic 80, 3) := by decide +kernel
theorem dX8_pathLink_26 : decode cX8_pathLink 26 = .ok (.ifCond .eq 15, 3) := by decide +kernel
theorem dX8_pathLink_29 : decode cX8_pathLink 29 = .ok (.aload_n 0, 1) := by decide +kernel
theorem dX8_pathLink_30 : decode cX8_pathLink 30 = .ok (.iload_n 1, 1) := by decide +kernel
theorem dX8_pathLink_31 : decode cX8_pathLink 31 = .ok (.bipush 15, 2) := by decide +kernel
theorem dX8_pathLink_33 : decode cX8_pathLink 33 = .ok (.iload_n 2, 1) := by decide +kernel
theorem dX8_pathLink_34 : decode cX8_pathLink 34 = .ok (.iadd, 1) := by decide +kernel
theorem dX8_pathLink_35 : decode cX8_pathLink 35 = .ok (.invokevirtual 229, 3) := by decide +kernel
theorem dX8_pathLink_38 : decode cX8_pathLink 38 = .ok (.goto 4, 3) := by decide +kernel
theorem dX8_pathLink_41 : decode cX8_pathLink 41 = .ok (.iconst (-1), 1) := by decide +kernel
theorem dX8_pathLink_42 : decode cX8_pathLink 42 = .ok (.ireturn, 1) := by decide +kernel
theorem dX8_placeOf_0 : decode cX8_placeOf 0 = .ok (.aload_n 0, 1) := by decide +kernel
theorem dX8_placeOf_1 : decode cX8_placeOf 1 = .ok (.iload_n 1, 1) := by decide +kernel
theorem dX8_placeOf_2 : decode cX8_placeOf 2 = .ok (.invokevirtual 346, 3) := by decide +kernel
theorem dX8_placeOf_5 : decode cX8_placeOf 5 = .ok (.ifCond .eq 5, 3) := by decide +kernel
theorem dX8_placeOf_8 : decode cX8_placeOf 8 = .ok (.iconst 0, 1) := by decide +kernel
theorem dX8_placeOf_9 : decode cX8_placeOf 9 = .ok (.ireturn, 1) := by decide +kernel
theorem dX8_placeOf_10 : decode cX8_placeOf 10 = .ok (.aload_n 0, 1) := by decide +kernel
theorem dX8_placeOf_11 : decode cX8_placeOf 11 = .ok (.iload_n 1, 1) := by decide +kernel
theorem dX8_placeOf_12 : decode cX8_placeOf 12 = .ok (.iconst 4, 1) := by decide +kernel
theorem dX8_placeOf_13 : decode cX8_placeOf 13 = .ok (.invokevirtual 229, 3) := by decide +kernel
theorem dX8_placeOf_16 : decode cX8_placeOf 16 = .ok (.iconst 1, 1) := by decide +kernel
theorem dX8_placeOf_17 : decode cX8_placeOf 17 = .ok (.if_icmp .gt 13, 3) := by decide +kernel
theorem dX8_placeOf_20 : decode cX8_placeOf 20 = .ok (.aload_n 0, 1) := by decide +kernel
theorem dX8_placeOf_21 : decode cX8_placeOf 21 = .ok (.iload_n 1, 1) := by decide +kernel
theorem dX8_placeOf_22 : decode cX8_placeOf 22 = .ok (.bipush 14, 2) := by decide +kernel
theorem dX8_placeOf_24 : decode cX8_placeOf 24 = .ok (.invokevirtual 229, 3) := by decide +kernel
theorem dX8_placeOf_27 : decode cX8_placeOf 27 = .ok (.goto 4, 3) := by decide +kernel
theorem dX8_placeOf_30 : decode cX8_placeOf 30 = .ok (.iconst (-1), 1) := by decide +kernel
theorem dX8_placeOf_31 : decode cX8_placeOf 31 = .ok (.ireturn, 1) := by decide +kernel
theorem dX8_manyIn_0 : decode cX8_manyIn 0 = .ok (.iconst 0, 1) := by decide +kernel
theorem dX8_manyIn_1 : decode cX8_manyIn 1 = .ok (.istore_n 2, 1) := by decide +kernel
theorem dX8_manyIn_2 : decode cX8_manyIn 2 = .ok (.iconst 0, 1) := by decide +kernel
theorem dX8_manyIn_3 : decode cX8_manyIn 3 = .ok (.istore_n 3, 1) := by decide +kernel
theorem dX8_manyIn_4 : decode cX8_manyIn 4 = .ok (.iload_n 3, 1) := by decide +kernel
theorem dX8_manyIn_5 : decode cX8_manyIn 5 = .ok (.aload_n 0, 1) := by decide +kernel
theorem dX8_manyIn_6 : decode cX8_manyIn 6 = .ok (.getfield 9, 3) := by decide +kernel
theorem dX8_manyIn_9 : decode cX8_manyIn 9 = .ok (.bipush 8, 2) := by decide +kernel
theorem dX8_manyIn_11 : decode cX8_manyIn 11 = .ok (.iaload, 1) := by decide +kernel
theorem dX8_manyIn_12 : decode cX8_manyIn 12 = .ok (.if_icmp .ge 27, 3) := by decide +kernel
theorem dX8_manyIn_15 : decode cX8_manyIn 15 = .ok (.iload_n 2, 1) := by decide +kernel
theorem dX8_manyIn_16 : decode cX8_manyIn 16 = .ok (.aload_n 0, 1) := by decide +kernel
theorem dX8_manyIn_17 : decode cX8_manyIn 17 = .ok (.iload_n 3, 1) := by decide +kernel
theorem dX8_manyIn_18 : decode cX8_manyIn 18 = .ok (.iconst 4, 1) := by decide +kernel
theorem dX8_manyIn_19 : decode cX8_manyIn 19 = .ok (.invokevirtual 229, 3) := by decide +kernel
theorem dX8_manyIn_22 : decode cX8_manyIn 22 = .ok (.iload_n 1, 1) := by decide +kernel
theorem dX8_manyIn_23 : decode cX8_manyIn 23 = .ok (.if_icmp .ne 7, 3) := by decide +kernel
theorem dX8_manyIn_26 : decode cX8_manyIn 26 = .ok (.iconst 1, 1) := by decide +kernel
theorem dX8_manyIn_27 : decode cX8_manyIn 27 = .ok (.goto 4, 3) := by decide +kernel
theorem dX8_manyIn_30 : decode cX8_manyIn 30 = .ok (.iconst 0, 1) := by decide +kernel
theorem dX8_manyIn_31 : decode cX8_manyIn 31 = .ok (.iadd, 1) := by decide +kernel
theorem dX8_manyIn_32 : decode cX8_manyIn 32 = .ok (.istore_n 2, 1) := by decide +kernel
theorem dX8_manyIn_33 : decode cX8_manyIn 33 = .ok (.iinc 3 1, 3) := by decide +kernel
theorem dX8_manyIn_36 : decode cX8_manyIn 36 = .ok (.goto (-32), 3) := by decide +kernel
theorem dX8_manyIn_39 : decode cX8_manyIn 39 = .ok (.iload_n 2, 1) := by decide +kernel
theorem dX8_manyIn_40 : decode cX8_manyIn 40 = .ok (.ireturn, 1) := by decide +kernel
theorem dX8_inState_0 : decode cX8_inState 0 = .ok (.aload_n 0, 1) := by decide +kernel
theorem dX8_inState_1 : decode cX8_inState 1 = .ok (.iconst 0, 1) := by decide +kernel
theorem dX8_inState_2 : decode cX8_inState 2 = .ok (.putfield 60, 3) := by decide +kernel
theorem dX8_inState_5 : decode cX8_inState 5 = .ok (.aload_n 0, 1) := by decide +kernel
theorem dX8_inState_6 : decode cX8_inState 6 = .ok (.iload_n 1, 1) := by decide +kernel
theorem dX8_inState_7 : decode cX8_inState 7 = .ok (.i2l, 1) := by decide +kernel
theorem dX8_inState_8 : decode cX8_inState 8 = .ok (.lconst 0, 1) := by decide +kernel
theorem dX8_inState_9 : decode cX8_inState 9 = .ok (.ldc2_w 351, 3) := by decide +kernel
theorem dX8_inState_12 : decode cX8_inState 12 = .ok (.invokestatic 80, 3) := by decide +kernel
theorem dX8_inState_15 : decode cX8_inState 15 = .ok (.ifCond .ne 7, 3) := by decide +kernel
theorem dX8_inState_18 : decode cX8_inState 18 = .ok (.iconst 1, 1) := by decide +kernel
theorem dX8_inState_19 : decode cX8_inState 19 = .ok (.goto 4, 3) := by decide +kernel
theorem dX8_inState_22 : decode cX8_inState 22 = .ok (.iconst 0, 1) := by decide +kernel
theorem dX8_inState_23 : decode cX8_inState 23 = .ok (.iconst 1, 1) := by decide +kernel
theorem dX8_inState_24 : decode cX8_inState 24 = .ok (.invokevirtual 301, 3) := by decide +kernel
theorem dX8_inState_27 : decode cX8_inState 27 = .ok (.ifCond .eq 7, 3) := by decide +kernel
theorem dX8_inState_30 : decode cX8_inState 30 = .ok (.iconst 0, 1) := by decide +kernel
theorem dX8_inState_31 : decode cX8_inState 31 = .ok (.goto 8, 3) := by decide +kernel
theorem dX8_inState_34 : decode cX8_inState 34 = .ok (.aload_n 0, 1) := by decide +kernel
theorem dX8_inState_35 : decode cX8_inState 35 = .ok (.iload_n 1, 1) := by decide +kernel
theorem dX8_inState_36 : decode cX8_inState 36 = .ok (.invokevirtual 353, 3) := by decide +kernel
theorem dX8_inState_39 : decode cX8_inState 39 = .ok (.ireturn, 1) := by decide +kernel
theorem dX8_requestInState_0 : decode cX8_requestInState 0 = .ok (.aload_n 0, 1) := by decide +kernel
theorem dX8_requestInState_1 : decode cX8_requestInState 1 = .ok (.iconst 0, 1) := by decide +kernel
theorem dX8_requestInState_2 : decode cX8_requestInState 2 = .ok (.putfield 60, 3) := by decide +kernel
theorem dX8_requestInState_5 : decode cX8_requestInState 5 = .ok (.aload_n 0, 1) := by decide +kernel
theorem dX8_requestInState_6 : decode cX8_requestInState 6 = .ok (.iload_n 1, 1) := by decide +kernel
theorem dX8_requestInState_7 : decode cX8_requestInState 7 = .ok (.i2l, 1) := by decide +kernel
theorem dX8_requestInState_8 : decode cX8_requestInState 8 = .ok (.lconst 0, 1) := by decide +kernel
theorem dX8_requestInState_9 : decode cX8_requestInState 9 = .ok (.ldc2_w 351, 3) := by decide +kernel
theorem dX8_requestInState_12 : decode cX8_requestInState 12 = .ok (.invokestatic 80, 3) := by decide +kernel
theorem dX8_requestInState_15 : decode cX8_requestInState 15 = .ok (.ifCond .ne 7, 3) := by decide +kernel
theorem dX8_requestInState_18 : decode cX8_requestInState 18 = .ok (.iconst 1, 1) := by decide +kernel
theorem dX8_requestInState_19 : decode cX8_requestInState 19 = .ok (.goto 4, 3) := by decide +kernel
theorem dX8_requestInState_22 : decode cX8_requestInState 22 = .ok (.iconst 0, 1) := by decide +kernel
theorem dX8_requestInState_23 : decode cX8_requestInState 23 = .ok (.iconst 1, 1) := by decide +kernel
theorem dX8_requestInState_24 : decode cX8_requestInState 24 = .ok (.invokevirtual 301, 3) := by decide +kernel
theorem dX8_requestInState_27 : decode cX8_requestInState 27 = .ok (.ifCond .eq 5, 3) := by decide +kernel
theorem dX8_requestInState_30 : decode cX8_requestInState 30 = .ok (.iconst 0, 1) := by decide +kernel
theorem dX8_requestInState_31 : decode cX8_requestInState 31 = .ok (.ireturn, 1) := by decide +kernel
theorem dX8_requestInState_32 : decode cX8_requestInState 32 = .ok (.iload_n 2, 1) := by decide +kernel
theorem dX8_requestInState_33 : decode cX8_requestInState 33 = .ok (.istore_n 3, 1) := by decide +kernel
theorem dX8_requestInState_34 : decode cX8_requestInState 34 = .ok (.iconst 0, 1) := by decide +kernel
theorem dX8_requestInState_35 : decode cX8_requestInState 35 = .ok (.istore 4, 2) := by decide +kernel
theorem dX8_requestInState_37 : decode cX8_requestInState 37 = .ok (.iload 4, 2) := by decide +kernel
theorem dX8_requestInState_39 : decode cX8_requestInState 39 = .ok (.aload_n 0, 1) := by decide +kernel
theorem dX8_requestInState_40 : decode cX8_requestInState 40 = .ok (.getfield 9, 3) := by decide +kernel
theorem dX8_requestInState_43 : decode cX8_requestInState 43 = .ok (.bipush 8, 2) := by decide +kernel
theorem dX8_requestInState_45 : decode cX8_requestInState 45 = .ok (.iaload, 1) := by decide +kernel
theorem dX8_requestInState_46 : decode cX8_requestInState 46 = .ok (.if_icmp .ge 33, 3) := by decide +kernel
theorem dX8_requestInState_49 : decode cX8_requestInState 49 = .ok (.aload_n 0, 1) := by decide +kernel
theorem dX8_requestInState_50 : decode cX8_requestInState 50 = .ok (.iload 4, 2) := by decide +kernel
theorem dX8_requestInState_52 : decode cX8_requestInState 52 = .ok (.iconst 4, 1) := by decide +kernel
theorem dX8_requestInState_53 : decode cX8_requestInState 53 = .ok (.invokevirtual 229, 3) := by decide +kernel
theorem dX8_requestInState_56 : decode cX8_requestInState 56 = .ok (.iload_n 1, 1) := by decide +kernel
theorem dX8_requestInState_57 : decode cX8_requestInState 57 = .ok (.if_icmp .eq 6, 3) := by decide +kernel
theorem dX8_requestInState_60 : decode cX8_requestInState 60 = .ok (.goto 13, 3) := by decide +kernel
theorem dX8_requestInState_63 : decode cX8_requestInState 63 = .ok (.iload_n 3, 1) := by decide +kernel
theorem dX8_requestInState_64 : decode cX8_requestInState 64 = .ok (.ifCond .ne 6, 3) := by decide +kernel
theorem dX8_requestInState_67 : decode cX8_requestInState 67 = .ok (.iload 4, 2) := by decide +kernel
theorem dX8_requestInState_69 : decode cX8_requestInState 69 = .ok (.ireturn, 1) := by decide +kernel
theorem dX8_requestInState_70 : decode cX8_requestInState 70 = .ok (.iinc 3 (-1), 3) := by decide +kernel
theorem dX8_requestInState_73 : decode cX8_requestInState 73 = .ok (.iinc 4 1, 3) := by decide +kernel
theorem dX8_requestInState_76 : decode cX8_requestInState 76 = .ok (.goto (-39), 3) := by decide +kernel
theorem dX8_requestInState_79 : decode cX8_requestInState 79 = .ok (.iconst (-1), 1) := by decide +kernel
theorem dX8_requestInState_80 : decode cX8_requestInState 80 = .ok (.ireturn, 1) := by decide +kernel
theorem dX8_ticketValue_0 : decode cX8_ticketValue 0 = .ok (.aload_n 0, 1) := by decide +kernel
theorem dX8_ticketValue_1 : decode cX8_ticketValue 1 = .ok (.iconst 0, 1) := by decide +kernel
theorem dX8_ticketValue_2 : decode cX8_ticketValue 2 = .ok (.putfield 60, 3) := by decide +kernel
theorem dX8_ticketValue_5 : decode cX8_ticketValue 5 = .ok (.aload_n 0, 1) := by decide +kernel
theorem dX8_ticketValue_6 : decode cX8_ticketValue 6 = .ok (.iload_n 1, 1) := by decide +kernel
theorem dX8_ticketValue_7 : decode cX8_ticketValue 7 = .ok (.i2l, 1) := by decide +kernel
theorem dX8_ticketValue_8 : decode cX8_ticketValue 8 = .ok (.lconst 0, 1) := by decide +kernel
theorem dX8_ticketValue_9 : decode cX8_ticketValue 9 = .ok (.aload_n 0, 1) := by decide +kernel
theorem dX8_ticketValue_10 : decode cX8_ticketValue 10 = .ok (.getfield 9, 3) := by decide +kernel
theorem dX8_ticketValue_13 : decode cX8_ticketValue 13 = .ok (.bipush 9, 2) := by decide +kernel
theorem dX8_ticketValue_15 : decode cX8_ticketValue 15 = .ok (.iaload, 1) := by decide +kernel
theorem dX8_ticketValue_16 : decode cX8_ticketValue 16 = .ok (.iconst 1, 1) := by decide +kernel
theorem dX8_ticketValue_17 : decode cX8_ticketValue 17 = .ok (.isub, 1) := by decide +kernel
theorem dX8_ticketValue_18 : decode cX8_ticketValue 18 = .ok (.i2l, 1) := by decide +kernel
theorem dX8_ticketValue_19 : decode cX8_ticketValue 19 = .ok (.invokestatic 80, 3) := by decide +kernel
theorem dX8_ticketValue_22 : decode cX8_ticketValue 22 = .ok (.ifCond .ne 7, 3) := by decide +kernel
theorem dX8_ticketValue_25 : decode cX8_ticketValue 25 = .ok (.iconst 1, 1) := by decide +kernel
theorem dX8_ticketValue_26 : decode cX8_ticketValue 26 = .ok (.goto 4, 3) := by decide +kernel
theorem dX8_ticketValue_29 : decode cX8_ticketValue 29 = .ok (.iconst 0, 1) := by decide +kernel
theorem dX8_ticketValue_30 : decode cX8_ticketValue 30 = .ok (.iconst 1, 1) := by decide +kernel
theorem dX8_ticketValue_31 : decode cX8_ticketValue 31 = .ok (.invokevirtual 301, 3) := by decide +kernel
theorem dX8_ticketValue_34 : decode cX8_ticketValue 34 = .ok (.ifCond .ne 28, 3) := by decide +kernel
theorem dX8_ticketValue_37 : decode cX8_ticketValue 37 = .ok (.aload_n 0, 1) := by decide +kernel
theorem dX8_ticketValue_38 : decode cX8_ticketValue 38 = .ok (.iload_n 2, 1) := by decide +kernel
theorem dX8_ticketValue_39 : decode cX8_ticketValue 39 = .ok (.i2l, 1) := by decide +kernel
theorem dX8_ticketValue_40 : decode cX8_ticketValue 40 = .ok (.lconst 0, 1) := by decide +kernel
theorem dX8_ticketValue_41 : decode cX8_ticketValue 41 = .ok (.ldc2_w 351, 3) := by decide +kernel
theorem dX8_ticketValue_44 : decode cX8_ticketValue 44 = .ok (.invokestatic 80, 3) := by decide +kernel
theorem dX8_ticketValue_47 : decode cX8_ticketValue 47 = .ok (.ifCond .ne 7, 3) := by decide +kernel
theorem dX8_ticketValue_50 : decode cX8_ticketValue 50 = .ok (.iconst 1, 1) := by decide +kernel
theorem dX8_ticketValue_51 : decode cX8_ticketValue 51 = .ok (.goto 4, 3) := by decide +kernel
theorem dX8_ticketValue_54 : decode cX8_ticketValue 54 = .ok (.iconst 0, 1) := by decide +kernel
theorem dX8_ticketValue_55 : decode cX8_ticketValue 55 = .ok (.iconst 2, 1) := by decide +kernel
theorem dX8_ticketValue_56 : decode cX8_ticketValue 56 = .ok (.invokevirtual 301, 3) := by decide +kernel
theorem dX8_ticketValue_59 : decode cX8_ticketValue 59 = .ok (.ifCond .eq 5, 3) := by decide +kernel
theorem dX8_ticketValue_62 : decode cX8_ticketValue 62 = .ok (.iconst 0, 1) := by decide +kernel
theorem dX8_ticketValue_63 : decode cX8_ticketValue 63 = .ok (.ireturn, 1) := by decide +kernel
theorem dX8_ticketValue_64 : decode cX8_ticketValue 64 = .ok (.aload_n 0, 1) := by decide +kernel
theorem dX8_ticketValue_65 : decode cX8_ticketValue 65 = .ok (.iload_n 1, 1) := by decide +kernel
theorem dX8_ticketValue_66 : decode cX8_ticketValue 66 = .ok (.iload_n 2, 1) := by decide +kernel
theorem dX8_ticketValue_67 : decode cX8_ticketValue 67 = .ok (.invokevirtual 197, 3) := by decide +kernel
theorem dX8_ticketValue_70 : decode cX8_ticketValue 70 = .ok (.ireturn, 1) := by decide +kernel
theorem dX8_ticketOn_0 : decode cX8_ticketOn 0 = .ok (.aload_n 0, 1) := by decide +kernel
theorem dX8_ticketOn_1 : decode cX8_ticketOn 1 = .ok (.iload_n 1, 1) := by decide +kernel
theorem dX8_ticketOn_2 : decode cX8_ticketOn 2 = .ok (.invokevirtual 315, 3) := by decide +kernel
theorem dX8_ticketOn_5 : decode cX8_ticketOn 5 = .ok (.ifCond .eq 5, 3) := by decide +kernel
theorem dX8_ticketOn_8 : decode cX8_ticketOn 8 = .ok (.iconst 0, 1) := by decide +kernel
theorem dX8_ticketOn_9 : decode cX8_ticketOn 9 = .ok (.ireturn, 1) := by decide +kernel
theorem dX8_ticketOn_10 : decode cX8_ticketOn 10 = .ok (.iload_n 2, 1) := by decide +kernel
theorem dX8_ticketOn_11 : decode cX8_ticketOn 11 = .ok (.istore_n 3, 1) := by decide +kernel
theorem dX8_ticketOn_12 : decode cX8_ticketOn 12 = .ok (.iconst 0, 1) := by decide +kernel
theorem dX8_ticketOn_13 : decode cX8_ticketOn 13 = .ok (.istore 4, 2) := by decide +kernel
theorem dX8_ticketOn_15 : decode cX8_ticketOn 15 = .ok (.iload 4, 2) := by decide +kernel
theorem dX8_ticketOn_17 : decode cX8_ticketOn 17 = .ok (.aload_n 0, 1) := by decide +kernel
theorem dX8_ticketOn_18 : decode cX8_ticketOn 18 = .ok (.getfield 9, 3) := by decide +kernel
theorem dX8_ticketOn_21 : decode cX8_ticketOn 21 = .ok (.bipush 9, 2) := by decide +kernel
theorem dX8_ticketOn_23 : decode cX8_ticketOn 23 = .ok (.iaload, 1) := by decide +kernel
theorem dX8_ticketOn_24 : decode cX8_ticketOn 24 = .ok (.if_icmp .ge 42, 3) := by decide +kernel
theorem dX8_ticketOn_27 : decode cX8_ticketOn 27 = .ok (.aload_n 0, 1) := by decide +kernel
theorem dX8_ticketOn_28 : decode cX8_ticketOn 28 = .ok (.iload 4, 2) := by decide +kernel
theorem dX8_ticketOn_30 : decode cX8_ticketOn 30 = .ok (.iconst 1, 1) := by decide +kernel
theorem dX8_ticketOn_31 : decode cX8_ticketOn 31 = .ok (.invokevirtual 197, 3) := by decide +kernel
theorem dX8_ticketOn_34 : decode cX8_ticketOn 34 = .ok (.iload_n 1, 1) := by decide +kernel
theorem dX8_ticketOn_35 : decode cX8_ticketOn 35 = .ok (.if_icmp .ne 25, 3) := by decide +kernel
theorem dX8_ticketOn_38 : decode cX8_ticketOn 38 = .ok (.aload_n 0, 1) := by decide +kernel
theorem dX8_ticketOn_39 : decode cX8_ticketOn 39 = .ok (.iload 4, 2) := by decide +kernel
theorem dX8_ticketOn_41 : decode cX8_ticketOn 41 = .ok (.invokevirtual 201, 3) := by decide +kernel
theorem dX8_ticketOn_44 : decode cX8_ticketOn 44 = .ok (.ifCond .ne 6, 3) := by decide +kernel
theorem dX8_ticketOn_47 : decode cX8_ticketOn 47 = .ok (.goto 13, 3) := by decide +kernel
theorem dX8_ticketOn_50 : decode cX8_ticketOn 50 = .ok (.iload_n 3, 1) := by decide +kernel
theorem dX8_ticketOn_51 : decode cX8_ticketOn 51 = .ok (.ifCond .ne 6, 3) := by decide +kernel
theorem dX8_ticketOn_54 : decode cX8_ticketOn 54 = .ok (.iload 4, 2) := by decide +kernel
theorem dX8_ticketOn_56 : decode cX8_ticketOn 56 = .ok (.ireturn, 1) := by decide +kernel
theorem dX8_ticketOn_57 : decode cX8_ticketOn 57 = .ok (.iinc 3 (-1), 3) := by decide +kernel
theorem dX8_ticketOn_60 : decode cX8_ticketOn 60 = .ok (.iinc 4 1, 3) := by decide +kernel
theorem dX8_ticketOn_63 : decode cX8_ticketOn 63 = .ok (.goto (-48), 3) := by decide +kernel
theorem dX8_ticketOn_66 : decode cX8_ticketOn 66 = .ok (.iconst (-1), 1) := by decide +kernel
theorem dX8_ticketOn_67 : decode cX8_ticketOn 67 = .ok (.ireturn, 1) := by decide +kernel
theorem dX8_ticketsInState_0 : decode cX8_ticketsInState 0 = .ok (.aload_n 0, 1) := by decide +kernel
theorem dX8_ticketsInState_1 : decode cX8_ticketsInState 1 = .ok (.iconst 0, 1) := by decide +kernel
theorem dX8_ticketsInState_2 : decode cX8_ticketsInState 2 = .ok (.putfield 60, 3) := by decide +kernel
theorem dX8_ticketsInState_5 : decode cX8_ticketsInState 5 = .ok (.aload_n 0, 1) := by decide +kernel
theorem dX8_ticketsInState_6 : decode cX8_ticketsInState 6 = .ok (.iload_n 1, 1) := by decide +kernel
theorem dX8_ticketsInState_7 : decode cX8_ticketsInState 7 = .ok (.i2l, 1) := by decide +kernel
theorem dX8_ticketsInState_8 : decode cX8_ticketsInState 8 = .ok (.lconst 0, 1) := by decide +kernel
theorem dX8_ticketsInState_9 : decode cX8_ticketsInState 9 = .ok (.ldc2_w 356, 3) := by decide +kernel
theorem dX8_ticketsInState_12 : decode cX8_ticketsInState 12 = .ok (.invokestatic 80, 3) := by decide +kernel
theorem dX8_ticketsInState_15 : decode cX8_ticketsInState 15 = .ok (.ifCond .ne 7, 3) := by decide +kernel
theorem dX8_ticketsInState_18 : decode cX8_ticketsInState 18 = .ok (.iconst 1, 1) := by decide +kernel
theorem dX8_ticketsInState_19 : decode cX8_ticketsInState 19 = .ok (.goto 4, 3) := by decide +kernel
theorem dX8_ticketsInState_22 : decode cX8_ticketsInState 22 = .ok (.iconst 0, 1) := by decide +kernel
theorem dX8_ticketsInState_23 : decode cX8_ticketsInState 23 = .ok (.iconst 1, 1) := by decide +kernel
theorem dX8_ticketsInState_24 : decode cX8_ticketsInState 24 = .ok (.invokevirtual 301, 3) := by decide +kernel
theorem dX8_ticketsInState_27 : decode cX8_ticketsInState 27 = .ok (.ifCond .eq 5, 3) := by decide +kernel
theorem dX8_ticketsInState_30 : decode cX8_ticketsInState 30 = .ok (.iconst 0, 1) := by decide +kernel
theorem dX8_ticketsInState_31 : decode cX8_ticketsInState 31 = .ok (.ireturn, 1) := by decide +kernel
theorem dX8_ticketsInState_32 : decode cX8_ticketsInState 32 = .ok (.iconst 0, 1) := by decide +kernel
theorem dX8_ticketsInState_33 : decode cX8_ticketsInState 33 = .ok (.istore_n 2, 1) := by decide +kernel
theorem dX8_ticketsInState_34 : decode cX8_ticketsInState 34 = .ok (.iconst 0, 1) := by decide +kernel
theorem dX8_ticketsInState_35 : decode cX8_ticketsInState 35 = .ok (.istore_n 3, 1) := by decide +kernel
theorem dX8_ticketsInState_36 : decode cX8_ticketsInState 36 = .ok (.iload_n 3, 1) := by decide +kernel
theorem dX8_ticketsInState_37 : decode cX8_ticketsInState 37 = .ok (.aload_n 0, 1) := by decide +kernel
theorem dX8_ticketsInState_38 : decode cX8_ticketsInState 38 = .ok (.getfield 9, 3) := by decide +kernel
theorem dX8_ticketsInState_41 : decode cX8_ticketsInState 41 = .ok (.bipush 9, 2) := by decide +kernel
theorem dX8_ticketsInState_43 : decode cX8_ticketsInState 43 = .ok (.iaload, 1) := by decide +kernel
theorem dX8_ticketsInState_44 : decode cX8_ticketsInState 44 = .ok (.if_icmp .ge 27, 3) := by decide +kernel
theorem dX8_ticketsInState_47 : decode cX8_ticketsInState 47 = .ok (.iload_n 2, 1) := by decide +kernel
theorem dX8_ticketsInState_48 : decode cX8_ticketsInState 48 = .ok (.aload_n 0, 1) := by decide +kernel
theorem dX8_ticketsInState_49 : decode cX8_ticketsInState 49 = .ok (.iload_n 3, 1) := by decide +kernel
theorem dX8_ticketsInState_50 : decode cX8_ticketsInState 50 = .ok (.iconst 5, 1) := by decide +kernel
theorem dX8_ticketsInState_51 : decode cX8_ticketsInState 51 = .ok (.invokevirtual 197, 3) := by decide +kernel
theorem dX8_ticketsInState_54 : decode cX8_ticketsInState 54 = .ok (.iload_n 1, 1) := by decide +kernel
theorem dX8_ticketsInState_55 : decode cX8_ticketsInState 55 = .ok (.if_icmp .ne 7, 3) := by decide +kernel
theorem dX8_ticketsInState_58 : decode cX8_ticketsInState 58 = .ok (.iconst 1, 1) := by decide +kernel
theorem dX8_ticketsInState_59 : decode cX8_ticketsInState 59 = .ok (.goto 4, 3) := by decide +kernel
theorem dX8_ticketsInState_62 : decode cX8_ticketsInState 62 = .ok (.iconst 0, 1) := by decide +kernel
theorem dX8_ticketsInState_63 : decode cX8_ticketsInState 63 = .ok (.iadd, 1) := by decide +kernel
theorem dX8_ticketsInState_64 : decode cX8_ticketsInState 64 = .ok (.istore_n 2, 1) := by decide +kernel
theorem dX8_ticketsInState_65 : decode cX8_ticketsInState 65 = .ok (.iinc 3 1, 3) := by decide +kernel
theorem dX8_ticketsInState_68 : decode cX8_ticketsInState 68 = .ok (.goto (-32), 3) := by decide +kernel
theorem dX8_ticketsInState_71 : decode cX8_ticketsInState 71 = .ok (.iload_n 2, 1) := by decide +kernel
theorem dX8_ticketsInState_72 : decode cX8_ticketsInState 72 = .ok (.ireturn, 1) := by decide +kernel
theorem dX8_ticketsOf_0 : decode cX8_ticketsOf 0 = .ok (.aload_n 0, 1) := by decide +kernel
theorem dX8_ticketsOf_1 : decode cX8_ticketsOf 1 = .ok (.iload_n 1, 1) := by decide +kernel
theorem dX8_ticketsOf_2 : decode cX8_ticketsOf 2 = .ok (.invokevirtual 346, 3) := by decide +kernel
theorem dX8_ticketsOf_5 : decode cX8_ticketsOf 5 = .ok (.ifCond .ne 28, 3) := by decide +kernel
theorem dX8_ticketsOf_8 : decode cX8_ticketsOf 8 = .ok (.aload_n 0, 1) := by decide +kernel
theorem dX8_ticketsOf_9 : decode cX8_ticketsOf 9 = .ok (.iload_n 2, 1) := by decide +kernel
theorem dX8_ticketsOf_10 : decode cX8_ticketsOf 10 = .ok (.i2l, 1) := by decide +kernel
theorem dX8_ticketsOf_11 : decode cX8_ticketsOf 11 = .ok (.lconst 0, 1) := by decide +kernel
theorem dX8_ticketsOf_12 : decode cX8_ticketsOf 12 = .ok (.ldc2_w 356, 3) := by decide +kernel
theorem dX8_ticketsOf_15 : decode cX8_ticketsOf 15 = .ok (.invokestatic 80, 3) := by decide +kernel
theorem dX8_ticketsOf_18 : decode cX8_ticketsOf 18 = .ok (.ifCond .ne 7, 3) := by decide +kernel
theorem dX8_ticketsOf_21 : decode cX8_ticketsOf 21 = .ok (.iconst 1, 1) := by decide +kernel
theorem dX8_ticketsOf_22 : decode cX8_ticketsOf 22 = .ok (.goto 4, 3) := by decide +kernel
theorem dX8_ticketsOf_25 : decode cX8_ticketsOf 25 = .ok (.iconst 0, 1) := by decide +kernel
theorem dX8_ticketsOf_26 : decode cX8_ticketsOf 26 = .ok (.iconst 2, 1) := by decide +kernel
theorem dX8_ticketsOf_27 : decode cX8_ticketsOf 27 = .ok (.invokevirtual 301, 3) := by decide +kernel
theorem dX8_ticketsOf_30 : decode cX8_ticketsOf 30 = .ok (.ifCond .eq 5, 3) := by decide +kernel
theorem dX8_ticketsOf_33 : decode cX8_ticketsOf 33 = .ok (.iconst 0, 1) := by decide +kernel
theorem dX8_ticketsOf_34 : decode cX8_ticketsOf 34 = .ok (.ireturn, 1) := by decide +kernel
theorem dX8_ticketsOf_35 : decode cX8_ticketsOf 35 = .ok (.iconst 0, 1) := by decide +kernel
theorem dX8_ticketsOf_36 : decode cX8_ticketsOf 36 = .ok (.istore_n 3, 1) := by decide +kernel
theorem dX8_ticketsOf_37 : decode cX8_ticketsOf 37 = .ok (.iconst 0, 1) := by decide +kernel
theorem dX8_ticketsOf_38 : decode cX8_ticketsOf 38 = .ok (.istore 4, 2) := by decide +kernel
theorem dX8_ticketsOf_40 : decode cX8_ticketsOf 40 = .ok (.iload 4, 2) := by decide +kernel
theorem dX8_ticketsOf_42 : decode cX8_ticketsOf 42 = .ok (.aload_n 0, 1) := by decide +kernel
theorem dX8_ticketsOf_43 : decode cX8_ticketsOf 43 = .ok (.getfield 9, 3) := by decide +kernel
theorem dX8_ticketsOf_46 : decode cX8_ticketsOf 46 = .ok (.bipush 9, 2) := by decide +kernel
theorem dX8_ticketsOf_48 : decode cX8_ticketsOf 48 = .ok (.iaload, 1) := by decide +kernel
theorem dX8_ticketsOf_49 : decode cX8_ticketsOf 49 = .ok (.if_icmp .ge 39, 3) := by decide +kernel
theorem dX8_ticketsOf_52 : decode cX8_ticketsOf 52 = .ok (.iload_n 3, 1) := by decide +kernel
theorem dX8_ticketsOf_53 : decode cX8_ticketsOf 53 = .ok (.aload_n 0, 1) := by decide +kernel
theorem dX8_ticketsOf_54 : decode cX8_ticketsOf 54 = .ok (.iload 4, 2) := by decide +kernel
theorem dX8_ticketsOf_56 : decode cX8_ticketsOf 56 = .ok (.iconst 0, 1) := by decide +kernel
theorem dX8_ticketsOf_57 : decode cX8_ticketsOf 57 = .ok (.invokevirtual 197, 3) := by decide +kernel
theorem dX8_ticketsOf_60 : decode cX8_ticketsOf 60 = .ok (.iload_n 1, 1) := by decide +kernel
theorem dX8_ticketsOf_61 : decode cX8_ticketsOf 61 = .ok (.if_icmp .ne 18, 3) := by decide +kernel
theorem dX8_ticketsOf_64 : decode cX8_ticketsOf 64 = .ok (.aload_n 0, 1) := by decide +kernel
theorem dX8_ticketsOf_65 : decode cX8_ticketsOf 65 = .ok (.iload 4, 2) := by decide +kernel
theorem dX8_ticketsOf_67 : decode cX8_ticketsOf 67 = .ok (.iconst 5, 1) := by decide +kernel
theorem dX8_ticketsOf_68 : decode cX8_ticketsOf 68 = .ok (.invokevirtual 197, 3) := by decide +kernel
theorem dX8_ticketsOf_71 : decode cX8_ticketsOf 71 = .ok (.iload_n 2, 1) := by decide +kernel
theorem dX8_ticketsOf_72 : decode cX8_ticketsOf 72 = .ok (.if_icmp .ne 7, 3) := by decide +kernel
theorem dX8_ticketsOf_75 : decode cX8_ticketsOf 75 = .ok (.iconst 1, 1) := by decide +kernel
theorem dX8_ticketsOf_76 : decode cX8_ticketsOf 76 = .ok (.goto 4, 3) := by decide +kernel
theorem dX8_ticketsOf_79 : decode cX8_ticketsOf 79 = .ok (.iconst 0, 1) := by decide +kernel
theorem dX8_ticketsOf_80 : decode cX8_ticketsOf 80 = .ok (.iadd, 1) := by decide +kernel
theorem dX8_ticketsOf_81 : decode cX8_ticketsOf 81 = .ok (.istore_n 3, 1) := by decide +kernel
theorem dX8_ticketsOf_82 : decode cX8_ticketsOf 82 = .ok (.iinc 4 1, 3) := by decide +kernel
theorem dX8_ticketsOf_85 : decode cX8_ticketsOf 85 = .ok (.goto (-45), 3) := by decide +kernel
theorem dX8_ticketsOf_88 : decode cX8_ticketsOf 88 = .ok (.iload_n 3, 1) := by decide +kernel
theorem dX8_ticketsOf_89 : decode cX8_ticketsOf 89 = .ok (.ireturn, 1) := by decide +kernel
theorem dX8_sum_0 : decode cX8_sum 0 = .ok (.lconst 0, 1) := by decide +kernel
theorem dX8_sum_1 : decode cX8_sum 1 = .ok (.lstore_n 2, 1) := by decide +kernel
theorem dX8_sum_2 : decode cX8_sum 2 = .ok (.iconst 0, 1) := by decide +kernel
theorem dX8_sum_3 : decode cX8_sum 3 = .ok (.istore 4, 2) := by decide +kernel
theorem dX8_sum_5 : decode cX8_sum 5 = .ok (.iload 4, 2) := by decide +kernel
theorem dX8_sum_7 : decode cX8_sum 7 = .ok (.aload_n 0, 1) := by decide +kernel
theorem dX8_sum_8 : decode cX8_sum 8 = .ok (.getfield 9, 3) := by decide +kernel
theorem dX8_sum_11 : decode cX8_sum 11 = .ok (.bipush 8, 2) := by decide +kernel
theorem dX8_sum_13 : decode cX8_sum 13 = .ok (.iaload, 1) := by decide +kernel
theorem dX8_sum_14 : decode cX8_sum 14 = .ok (.if_icmp .ge 20, 3) := by decide +kernel
theorem dX8_sum_17 : decode cX8_sum 17 = .ok (.lload_n 2, 1) := by decide +kernel
theorem dX8_sum_18 : decode cX8_sum 18 = .ok (.aload_n 0, 1) := by decide +kernel
theorem dX8_sum_19 : decode cX8_sum 19 = .ok (.iload 4, 2) := by decide +kernel
theorem dX8_sum_21 : decode cX8_sum 21 = .ok (.iload_n 1, 1) := by decide +kernel
theorem dX8_sum_22 : decode cX8_sum 22 = .ok (.invokevirtual 229, 3) := by decide +kernel
theorem dX8_sum_25 : decode cX8_sum 25 = .ok (.i2l, 1) := by decide +kernel
theorem dX8_sum_26 : decode cX8_sum 26 = .ok (.ladd, 1) := by decide +kernel
theorem dX8_sum_27 : decode cX8_sum 27 = .ok (.lstore_n 2, 1) := by decide +kernel
theorem dX8_sum_28 : decode cX8_sum 28 = .ok (.iinc 4 1, 3) := by decide +kernel
theorem dX8_sum_31 : decode cX8_sum 31 = .ok (.goto (-26), 3) := by decide +kernel
theorem dX8_sum_34 : decode cX8_sum 34 = .ok (.lload_n 2, 1) := by decide +kernel
theorem dX8_sum_35 : decode cX8_sum 35 = .ok (.lreturn, 1) := by decide +kernel
theorem dX8_revenue_0 : decode cX8_revenue 0 = .ok (.aload_n 0, 1) := by decide +kernel
theorem dX8_revenue_1 : decode cX8_revenue 1 = .ok (.iconst 0, 1) := by decide +kernel
theorem dX8_revenue_2 : decode cX8_revenue 2 = .ok (.putfield 60, 3) := by decide +kernel
theorem dX8_revenue_5 : decode cX8_revenue 5 = .ok (.aload_n 0, 1) := by decide +kernel
theorem dX8_revenue_6 : decode cX8_revenue 6 = .ok (.bipush 7, 2) := by decide +kernel
theorem dX8_revenue_8 : decode cX8_revenue 8 = .ok (.invokevirtual 358, 3) := by decide +kernel
theorem dX8_revenue_11 : decode cX8_revenue 11 = .ok (.aload_n 0, 1) := by decide +kernel
theorem dX8_revenue_12 : decode cX8_revenue 12 = .ok (.bipush 8, 2) := by decide +kernel
theorem dX8_revenue_14 : decode cX8_revenue 14 = .ok (.invokevirtual 358, 3) := by decide +kernel
theorem dX8_revenue_17 : decode cX8_revenue 17 = .ok (.lsub, 1) := by decide +kernel
theorem dX8_revenue_18 : decode cX8_revenue 18 = .ok (.lreturn, 1) := by decide +kernel
theorem dX8_refunds_0 : decode cX8_refunds 0 = .ok (.aload_n 0, 1) := by decide +kernel
theorem dX8_refunds_1 : decode cX8_refunds 1 = .ok (.iconst 0, 1) := by decide +kernel
theorem dX8_refunds_2 : decode cX8_refunds 2 = .ok (.putfield 60, 3) := by decide +kernel
theorem dX8_refunds_5 : decode cX8_refunds 5 = .ok (.aload_n 0, 1) := by decide +kernel
theorem dX8_refunds_6 : decode cX8_refunds 6 = .ok (.bipush 8, 2) := by decide +kernel
theorem dX8_refunds_8 : decode cX8_refunds 8 = .ok (.invokevirtual 358, 3) := by decide +kernel
theorem dX8_refunds_11 : decode cX8_refunds 11 = .ok (.lreturn, 1) := by decide +kernel
theorem dX8_nextExpiry_0 : decode cX8_nextExpiry 0 = .ok (.aload_n 0, 1) := by decide +kernel
theorem dX8_nextExpiry_1 : decode cX8_nextExpiry 1 = .ok (.iconst 0, 1) := by decide +kernel
theorem dX8_nextExpiry_2 : decode cX8_nextExpiry 2 = .ok (.putfield 60, 3) := by decide +kernel
theorem dX8_nextExpiry_5 : decode cX8_nextExpiry 5 = .ok (.aload_n 0, 1) := by decide +kernel
theorem dX8_nextExpiry_6 : decode cX8_nextExpiry 6 = .ok (.invokevirtual 284, 3) := by decide +kernel
theorem dX8_nextExpiry_9 : decode cX8_nextExpiry 9 = .ok (.ireturn, 1) := by decide +kernel
theorem dX8_nextEvent_0 : decode cX8_nextEvent 0 = .ok (.aload_n 0, 1) := by decide +kernel
theorem dX8_nextEvent_1 : decode cX8_nextEvent 1 = .ok (.iconst 0, 1) := by decide +kernel
theorem dX8_nextEvent_2 : decode cX8_nextEvent 2 = .ok (.putfield 60, 3) := by decide +kernel
theorem dX8_nextEvent_5 : decode cX8_nextEvent 5 = .ok (.aload_n 0, 1) := by decide +kernel
theorem dX8_nextEvent_6 : decode cX8_nextEvent 6 = .ok (.invokevirtual 287, 3) := by decide +kernel
theorem dX8_nextEvent_9 : decode cX8_nextEvent 9 = .ok (.ireturn, 1) := by decide +kernel
theorem dX8_isSafe_0 : decode cX8_isSafe 0 = .ok (.aload_n 0, 1) := by decide +kernel
theorem dX8_isSafe_1 : decode cX8_isSafe 1 = .ok (.iconst 0, 1) := by decide +kernel
theorem dX8_isSafe_2 : decode cX8_isSafe 2 = .ok (.putfield 60, 3) := by decide +kernel
theorem dX8_isSafe_5 : decode cX8_isSafe 5 = .ok (.iconst 0, 1) := by decide +kernel
theorem dX8_isSafe_6 : decode cX8_isSafe 6 = .ok (.istore_n 1, 1) := by decide +kernel
theorem dX8_isSafe_7 : decode cX8_isSafe 7 = .ok (.iload_n 1, 1) := by decide +kernel
theorem dX8_isSafe_8 : decode cX8_isSafe 8 = .ok (.aload_n 0, 1) := by decide +kernel
theorem dX8_isSafe_9 : decode cX8_isSafe 9 = .ok (.getfield 9, 3) := by decide +kernel
theorem dX8_isSafe_12 : decode cX8_isSafe 12 = .ok (.bipush 7, 2) := by decide +kernel
theorem dX8_isSafe_14 : decode cX8_isSafe 14 = .ok (.iaload, 1) := by decide +kernel
theorem dX8_isSafe_15 : decode cX8_isSafe 15 = .ok (.if_icmp .ge 19, 3) := by decide +kernel
theorem dX8_isSafe_18 : decode cX8_isSafe 18 = .ok (.aload_n 0, 1) := by decide +kernel
theorem dX8_isSafe_19 : decode cX8_isSafe 19 = .ok (.iload_n 1, 1) := by decide +kernel
theorem dX8_isSafe_20 : decode cX8_isSafe 20 = .ok (.invokevirtual 209, 3) := by decide +kernel
theorem dX8_isSafe_23 : decode cX8_isSafe 23 = .ok (.ifCond .ge 5, 3) := by decide +kernel
theorem dX8_isSafe_26 : decode cX8_isSafe 26 = .ok (.iconst 0, 1) := by decide +kernel
theorem dX8_isSafe_27 : decode cX8_isSafe 27 = .ok (.ireturn, 1) := by decide +kernel
theorem dX8_isSafe_28 : decode cX8_isSafe 28 = .ok (.iinc 1 1, 3) := by decide +kernel
theorem dX8_isSafe_31 : decode cX8_isSafe 31 = .ok (.goto (-24), 3) := by decide +kernel
theorem dX8_isSafe_34 : decode cX8_isSafe 34 = .ok (.iconst 1, 1) := by decide +kernel
theorem dX8_isSafe_35 : decode cX8_isSafe 35 = .ok (.ireturn, 1) := by decide +kernel
theorem dX8_areNoEnds_0 : decode cX8_areNoEnds 0 = .ok (.aload_n 0, 1) := by decide +kernel
theorem dX8_areNoEnds_1 : decode cX8_areNoEnds 1 = .ok (.iload_n 1, 1) := by decide +kernel
theorem dX8_areNoEnds_2 : decode cX8_areNoEnds 2 = .ok (.iload_n 2, 1) := by decide +kernel
theorem dX8_areNoEnds_3 : decode cX8_areNoEnds 3 = .ok (.invokevirtual 337, 3) := by decide +kernel
theorem dX8_areNoEnds_6 : decode cX8_areNoEnds 6 = .ok (.ifCond .ne 28, 3) := by decide +kernel
theorem dX8_areNoEnds_9 : decode cX8_areNoEnds 9 = .ok (.aload_n 0, 1) := by decide +kernel
theorem dX8_areNoEnds_10 : decode cX8_areNoEnds 10 = .ok (.iload_n 3, 1) := by decide +kernel
theorem dX8_areNoEnds_11 : decode cX8_areNoEnds 11 = .ok (.i2l, 1) := by decide +kernel
theorem dX8_areNoEnds_12 : decode cX8_areNoEnds 12 = .ok (.lconst 0, 1) := by decide +kernel
theorem dX8_areNoEnds_13 : decode cX8_areNoEnds 13 = .ok (.ldc2_w 299, 3) := by decide +kernel
theorem dX8_areNoEnds_16 : decode cX8_areNoEnds 16 = .ok (.invokestatic 80, 3) := by decide +kernel
theorem dX8_areNoEnds_19 : decode cX8_areNoEnds 19 = .ok (.ifCond .ne 7, 3) := by decide +kernel
theorem dX8_areNoEnds_22 : decode cX8_areNoEnds 22 = .ok (.iconst 1, 1) := by decide +kernel
theorem dX8_areNoEnds_23 : decode cX8_areNoEnds 23 = .ok (.goto 4, 3) := by decide +kernel
theorem dX8_areNoEnds_26 : decode cX8_areNoEnds 26 = .ok (.iconst 0, 1) := by decide +kernel
theorem dX8_areNoEnds_27 : decode cX8_areNoEnds 27 = .ok (.iconst 2, 1) := by decide +kernel
theorem dX8_areNoEnds_28 : decode cX8_areNoEnds 28 = .ok (.invokevirtual 301, 3) := by decide +kernel
theorem dX8_areNoEnds_31 : decode cX8_areNoEnds 31 = .ok (.ifCond .eq 7, 3) := by decide +kernel
theorem dX8_areNoEnds_34 : decode cX8_areNoEnds 34 = .ok (.iconst 1, 1) := by decide +kernel
theorem dX8_areNoEnds_35 : decode cX8_areNoEnds 35 = .ok (.goto 4, 3) := by decide +kernel
theorem dX8_areNoEnds_38 : decode cX8_areNoEnds 38 = .ok (.iconst 0, 1) := by decide +kernel
theorem dX8_areNoEnds_39 : decode cX8_areNoEnds 39 = .ok (.ireturn, 1) := by decide +kernel
theorem dX8_cheapest_0 : decode cX8_cheapest 0 = .ok (.aload_n 0, 1) := by decide +kernel
theorem dX8_cheapest_1 : decode cX8_cheapest 1 = .ok (.iload_n 1, 1) := by decide +kernel
theorem dX8_cheapest_2 : decode cX8_cheapest 2 = .ok (.iload_n 2, 1) := by decide +kernel
theorem dX8_cheapest_3 : decode cX8_cheapest 3 = .ok (.iload_n 3, 1) := by decide +kernel
theorem dX8_cheapest_4 : decode cX8_cheapest 4 = .ok (.invokevirtual 362, 3) := by decide +kernel
theorem dX8_cheapest_7 : decode cX8_cheapest 7 = .ok (.ifCond .eq 5, 3) := by decide +kernel
theorem dX8_cheapest_10 : decode cX8_cheapest 10 = .ok (.iconst 0, 1) := by decide +kernel
theorem dX8_cheapest_11 : decode cX8_cheapest 11 = .ok (.ireturn, 1) := by decide +kernel
theorem dX8_cheapest_12 : decode cX8_cheapest 12 = .ok (.aload_n 0, 1) := by decide +kernel
theorem dX8_cheapest_13 : decode cX8_cheapest 13 = .ok (.iload_n 1, 1) := by decide +kernel
theorem dX8_cheapest_14 : decode cX8_cheapest 14 = .ok (.iload_n 2, 1) := by decide +kernel
theorem dX8_cheapest_15 : decode cX8_cheapest 15 = .ok (.aload_n 0, 1) := by decide +kernel
theorem dX8_cheapest_16 : decode cX8_cheapest 16 = .ok (.iload_n 3, 1) := by decide +kernel
theorem dX8_cheapest_17 : decode cX8_cheapest 17 = .ok (.invokevirtual 365, 3) := by decide +kernel
theorem dX8_cheapest_20 : decode cX8_cheapest 20 = .ok (.invokevirtual 235, 3) := by decide +kernel
theorem dX8_cheapest_23 : decode cX8_cheapest 23 = .ok (.ifCond .eq 12, 3) := by decide +kernel
theorem dX8_cheapest_26 : decode cX8_cheapest 26 = .ok (.aload_n 0, 1) := by decide +kernel
theorem dX8_cheapest_27 : decode cX8_cheapest 27 = .ok (.getfield 32, 3) := by decide +kernel
theorem dX8_cheapest_30 : decode cX8_cheapest 30 = .ok (.iload_n 1, 1) := by decide +kernel
theorem dX8_cheapest_31 : decode cX8_cheapest 31 = .ok (.iaload, 1) := by decide +kernel
theorem dX8_cheapest_32 : decode cX8_cheapest 32 = .ok (.goto 4, 3) := by decide +kernel
theorem dX8_cheapest_35 : decode cX8_cheapest 35 = .ok (.iconst (-1), 1) := by decide +kernel
theorem dX8_cheapest_36 : decode cX8_cheapest 36 = .ok (.ireturn, 1) := by decide +kernel
theorem dX8_cheapestLink_0 : decode cX8_cheapestLink 0 = .ok (.aload_n 0, 1) := by decide +kernel
theorem dX8_cheapestLink_1 : decode cX8_cheapestLink 1 = .ok (.iload_n 1, 1) := by decide +kernel
theorem dX8_cheapestLink_2 : decode cX8_cheapestLink 2 = .ok (.iload_n 2, 1) := by decide +kernel
theorem dX8_cheapestLink_3 : decode cX8_cheapestLink 3 = .ok (.iload_n 3, 1) := by decide +kernel
theorem dX8_cheapestLink_4 : decode cX8_cheapestLink 4 = .ok (.invokevirtual 362, 3) := by decide +kernel
theorem dX8_cheapestLink_7 : decode cX8_cheapestLink 7 = .ok (.ifCond .eq 5, 3) := by decide +kernel
theorem dX8_cheapestLink_10 : decode cX8_cheapestLink 10 = .ok (.iconst 0, 1) := by decide +kernel
theorem dX8_cheapestLink_11 : decode cX8_cheapestLink 11 = .ok (.ireturn, 1) := by decide +kernel
theorem dX8_cheapestLink_12 : decode cX8_cheapestLink 12 = .ok (.aload_n 0, 1) := by decide +kernel
theorem dX8_cheapestLink_13 : decode cX8_cheapestLink 13 = .ok (.iload_n 1, 1) := by decide +kernel
theorem dX8_cheapestLink_14 : decode cX8_cheapestLink 14 = .ok (.iload_n 2, 1) := by decide +kernel
theorem dX8_cheapestLink_15 : decode cX8_cheapestLink 15 = .ok (.aload_n 0, 1) := by decide +kernel
theorem dX8_cheapestLink_16 : decode cX8_cheapestLink 16 = .ok (.iload_n 3, 1) := by decide +kernel
theorem dX8_cheapestLink_17 : decode cX8_cheapestLink 17 = .ok (.invokevirtual 365, 3) := by decide +kernel
theorem dX8_cheapestLink_20 : decode cX8_cheapestLink 20 = .ok (.invokevirtual 235, 3) := by decide +kernel
theorem dX8_cheapestLink_23 : decode cX8_cheapestLink 23 = .ok (.ifCond .eq 30, 3) := by decide +kernel
theorem dX8_cheapestLink_26 : decode cX8_cheapestLink 26 = .ok (.iload 4, 2) := by decide +kernel
theorem dX8_cheapestLink_28 : decode cX8_cheapestLink 28 = .ok (.i2l, 1) := by decide +kernel
theorem dX8_cheapestLink_29 : decode cX8_cheapestLink 29 = .ok (.lconst 0, 1) := by decide +kernel
theorem dX8_cheapestLink_30 : decode cX8_cheapestLink 30 = .ok (.aload_n 0, 1) := by decide +kernel
theorem dX8_cheapestLink_31 : decode cX8_cheapestLink 31 = .ok (.getfield 223, 3) := by decide +kernel
theorem dX8_cheapestLink_34 : decode cX8_cheapestLink 34 = .ok (.iconst 1, 1) := by decide +kernel
theorem dX8_cheapestLink_35 : decode cX8_cheapestLink 35 = .ok (.isub, 1) := by decide +kernel
theorem dX8_cheapestLink_36 : decode cX8_cheapestLink 36 = .ok (.i2l, 1) := by decide +kernel
theorem dX8_cheapestLink_37 : decode cX8_cheapestLink 37 = .ok (.invokestatic 80, 3) := by decide +kernel
theorem dX8_cheapestLink_40 : decode cX8_cheapestLink 40 = .ok (.ifCond .eq 13, 3) := by decide +kernel
theorem dX8_cheapestLink_43 : decode cX8_cheapestLink 43 = .ok (.aload_n 0, 1) := by decide +kernel
theorem dX8_cheapestLink_44 : decode cX8_cheapestLink 44 = .ok (.getfield 38, 3) := by decide +kernel
theorem dX8_cheapestLink_47 : decode cX8_cheapestLink 47 = .ok (.iload 4, 2) := by decide +kernel
theorem dX8_cheapestLink_49 : decode cX8_cheapestLink 49 = .ok (.iaload, 1) := by decide +kernel
theorem dX8_cheapestLink_50 : decode cX8_cheapestLink 50 = .ok (.goto 4, 3) := by decide +kernel
theorem dX8_cheapestLink_53 : decode cX8_cheapestLink 53 = .ok (.iconst (-1), 1) := by decide +kernel
theorem dX8_cheapestLink_54 : decode cX8_cheapestLink 54 = .ok (.ireturn, 1) := by decide +kernel
theorem dX8_delaysFrom_0 : decode cX8_delaysFrom 0 = .ok (.iconst 0, 1) := by decide +kernel
theorem dX8_delaysFrom_1 : decode cX8_delaysFrom 1 = .ok (.istore_n 2, 1) := by decide +kernel
theorem dX8_delaysFrom_2 : decode cX8_delaysFrom 2 = .ok (.iload_n 1, 1) := by decide +kernel
theorem dX8_delaysFrom_3 : decode cX8_delaysFrom 3 = .ok (.istore_n 3, 1) := by decide +kernel
theorem dX8_delaysFrom_4 : decode cX8_delaysFrom 4 = .ok (.iload_n 3, 1) := by decide +kernel
theorem dX8_delaysFrom_5 : decode cX8_delaysFrom 5 = .ok (.aload_n 0, 1) := by decide +kernel
theorem dX8_delaysFrom_6 : decode cX8_delaysFrom 6 = .ok (.getfield 223, 3) := by decide +kernel
theorem dX8_delaysFrom_9 : decode cX8_delaysFrom 9 = .ok (.if_icmp .ge 23, 3) := by decide +kernel
theorem dX8_delaysFrom_12 : decode cX8_delaysFrom 12 = .ok (.iload_n 2, 1) := by decide +kernel
theorem dX8_delaysFrom_13 : decode cX8_delaysFrom 13 = .ok (.aload_n 0, 1) := by decide +kernel
theorem dX8_delaysFrom_14 : decode cX8_delaysFrom 14 = .ok (.aload_n 0, 1) := by decide +kernel
theorem dX8_delaysFrom_15 : decode cX8_delaysFrom 15 = .ok (.getfield 38, 3) := by decide +kernel
theorem dX8_delaysFrom_18 : decode cX8_delaysFrom 18 = .ok (.iload_n 3, 1) := by decide +kernel
theorem dX8_delaysFrom_19 : decode cX8_delaysFrom 19 = .ok (.iaload, 1) := by decide +kernel
theorem dX8_delaysFrom_20 : decode cX8_delaysFrom 20 = .ok (.iconst 4, 1) := by decide +kernel
theorem dX8_delaysFrom_21 : decode cX8_delaysFrom 21 = .ok (.invokevirtual 204, 3) := by decide +kernel
theorem dX8_delaysFrom_24 : decode cX8_delaysFrom 24 = .ok (.iadd, 1) := by decide +kernel
theorem dX8_delaysFrom_25 : decode cX8_delaysFrom 25 = .ok (.istore_n 2, 1) := by decide +kernel
theorem dX8_delaysFrom_26 : decode cX8_delaysFrom 26 = .ok (.iinc 3 1, 3) := by decide +kernel
theorem dX8_delaysFrom_29 : decode cX8_delaysFrom 29 = .ok (.goto (-25), 3) := by decide +kernel
theorem dX8_delaysFrom_32 : decode cX8_delaysFrom 32 = .ok (.iload_n 2, 1) := by decide +kernel
theorem dX8_delaysFrom_33 : decode cX8_delaysFrom 33 = .ok (.ireturn, 1) := by decide +kernel
theorem dX8_roundTrip_0 : decode cX8_roundTrip 0 = .ok (.aload_n 0, 1) := by decide +kernel
theorem dX8_roundTrip_1 : decode cX8_roundTrip 1 = .ok (.iload_n 1, 1) := by decide +kernel
theorem dX8_roundTrip_2 : decode cX8_roundTrip 2 = .ok (.iload_n 2, 1) := by decide +kernel
theorem dX8_roundTrip_3 : decode cX8_roundTrip 3 = .ok (.iload_n 3, 1) := by decide +kernel
theorem dX8_roundTrip_4 : decode cX8_roundTrip 4 = .ok (.invokevirtual 362, 3) := by decide +kernel
theorem dX8_roundTrip_7 : decode cX8_roundTrip 7 = .ok (.ifCond .eq 5, 3) := by decide +kernel
theorem dX8_roundTrip_10 : decode cX8_roundTrip 10 = .ok (.iconst 0, 1) := by decide +kernel
theorem dX8_roundTrip_11 : decode cX8_roundTrip 11 = .ok (.ireturn, 1) := by decide +kernel
theorem dX8_roundTrip_12 : decode cX8_roundTrip 12 = .ok (.aload_n 0, 1) := by decide +kernel
theorem dX8_roundTrip_13 : decode cX8_roundTrip 13 = .ok (.iload_n 1, 1) := by decide +kernel
theorem dX8_roundTrip_14 : decode cX8_roundTrip 14 = .ok (.iload_n 2, 1) := by decide +kernel
theorem dX8_roundTrip_15 : decode cX8_roundTrip 15 = .ok (.aload_n 0, 1) := by decide +kernel
theorem dX8_roundTrip_16 : decode cX8_roundTrip 16 = .ok (.iload_n 3, 1) := by decide +kernel
theorem dX8_roundTrip_17 : decode cX8_roundTrip 17 = .ok (.invokevirtual 365, 3) := by decide +kernel
theorem dX8_roundTrip_20 : decode cX8_roundTrip 20 = .ok (.invokevirtual 235, 3) := by decide +kernel
theorem dX8_roundTrip_23 : decode cX8_roundTrip 23 = .ok (.ifCond .eq 13, 3) := by decide +kernel
theorem dX8_roundTrip_26 : decode cX8_roundTrip 26 = .ok (.iconst 2, 1) := by decide +kernel
theorem dX8_roundTrip_27 : decode cX8_roundTrip 27 = .ok (.aload_n 0, 1) := by decide +kernel
theorem dX8_roundTrip_28 : decode cX8_roundTrip 28 = .ok (.iconst 0, 1) := by decide +kernel
theorem dX8_roundTrip_29 : decode cX8_roundTrip 29 = .ok (.invokevirtual 368, 3) := by decide +kernel
theorem dX8_roundTrip_32 : decode cX8_roundTrip 32 = .ok (.imul, 1) := by decide +kernel
theorem dX8_roundTrip_33 : decode cX8_roundTrip 33 = .ok (.goto 4, 3) := by decide +kernel
theorem dX8_roundTrip_36 : decode cX8_roundTrip 36 = .ok (.iconst (-1), 1) := by decide +kernel
theorem dX8_roundTrip_37 : decode cX8_roundTrip 37 = .ok (.ireturn, 1) := by decide +kernel
theorem dX8_neededHold_0 : decode cX8_neededHold 0 = .ok (.aload_n 0, 1) := by decide +kernel
theorem dX8_neededHold_1 : decode cX8_neededHold 1 = .ok (.iload_n 1, 1) := by decide +kernel
theorem dX8_neededHold_2 : decode cX8_neededHold 2 = .ok (.iload_n 2, 1) := by decide +kernel
theorem dX8_neededHold_3 : decode cX8_neededHold 3 = .ok (.iload_n 3, 1) := by decide +kernel
theorem dX8_neededHold_4 : decode cX8_neededHold 4 = .ok (.invokevirtual 362, 3) := by decide +kernel
theorem dX8_neededHold_7 : decode cX8_neededHold 7 = .ok (.ifCond .eq 5, 3) := by decide +kernel
theorem dX8_neededHold_10 : decode cX8_neededHold 10 = .ok (.iconst 0, 1) := by decide +kernel
theorem dX8_neededHold_11 : decode cX8_neededHold 11 = .ok (.ireturn, 1) := by decide +kernel
theorem dX8_neededHold_12 : decode cX8_neededHold 12 = .ok (.aload_n 0, 1) := by decide +kernel
theorem dX8_neededHold_13 : decode cX8_neededHold 13 = .ok (.iload_n 1, 1) := by decide +kernel
theorem dX8_neededHold_14 : decode cX8_neededHold 14 = .ok (.iload_n 2, 1) := by decide +kernel
theorem dX8_neededHold_15 : decode cX8_neededHold 15 = .ok (.aload_n 0, 1) := by decide +kernel
theorem dX8_neededHold_16 : decode cX8_neededHold 16 = .ok (.iload_n 3, 1) := by decide +kernel
theorem dX8_neededHold_17 : decode cX8_neededHold 17 = .ok (.invokevirtual 365, 3) := by decide +kernel
theorem dX8_neededHold_20 : decode cX8_neededHold 20 = .ok (.invokevirtual 235, 3) := by decide +kernel
theorem dX8_neededHold_23 : decode cX8_neededHold 23 = .ok (.ifCond .ne 5, 3) := by decide +kernel
theorem dX8_neededHold_26 : decode cX8_neededHold 26 = .ok (.iconst (-1), 1) := by decide +kernel
theorem dX8_neededHold_27 : decode cX8_neededHold 27 = .ok (.ireturn, 1) := by decide +kernel
theorem dX8_neededHold_28 : decode cX8_neededHold 28 = .ok (.iconst 0, 1) := by decide +kernel
theorem dX8_neededHold_29 : decode cX8_neededHold 29 = .ok (.istore 4, 2) := by decide +kernel
theorem dX8_neededHold_31 : decode cX8_neededHold 31 = .ok (.iconst 0, 1) := by decide +kernel
theorem dX8_neededHold_32 : decode cX8_neededHold 32 = .ok (.istore 5, 2) := by decide +kernel
theorem dX8_neededHold_34 : decode cX8_neededHold 34 = .ok (.iload 5, 2) := by decide +kernel
theorem dX8_neededHold_36 : decode cX8_neededHold 36 = .ok (.aload_n 0, 1) := by decide +kernel
theorem dX8_neededHold_37 : decode cX8_neededHold 37 = .ok (.getfield 223, 3) := by decide +kernel
theorem dX8_neededHold_40 : decode cX8_neededHold 40 = .ok (.if_icmp .ge 39, 3) := by decide +kernel
theorem dX8_neededHold_43 : decode cX8_neededHold 43 = .ok (.iload 4, 2) := by decide +kernel
theorem dX8_neededHold_45 : decode cX8_neededHold 45 = .ok (.iconst 2, 1) := by decide +kernel
theorem dX8_neededHold_46 : decode cX8_neededHold 46 = .ok (.aload_n 0, 1) := by decide +kernel
theorem dX8_neededHold_47 : decode cX8_neededHold 47 = .ok (.iload 5, 2) := by decide +kernel
theorem dX8_neededHold_49 : decode cX8_neededHold 49 = .ok (.iconst 1, 1) := by decide +kernel
theorem dX8_neededHold_50 : decode cX8_neededHold 50 = .ok (.iadd, 1) := by decide +kernel
theorem dX8_neededHold_51 : decode cX8_neededHold 51 = .ok (.invokevirtual 368, 3) := by decide +kernel
theorem dX8_neededHold_54 : decode cX8_neededHold 54 = .ok (.imul, 1) := by decide +kernel
theorem dX8_neededHold_55 : decode cX8_neededHold 55 = .ok (.aload_n 0, 1) := by decide +kernel
theorem dX8_neededHold_56 : decode cX8_neededHold 56 = .ok (.aload_n 0, 1) := by decide +kernel
theorem dX8_neededHold_57 : decode cX8_neededHold 57 = .ok (.getfield 38, 3) := by decide +kernel
theorem dX8_neededHold_60 : decode cX8_neededHold 60 = .ok (.iload 5, 2) := by decide +kernel
theorem dX8_neededHold_62 : decode cX8_neededHold 62 = .ok (.iaload, 1) := by decide +kernel
theorem dX8_neededHold_63 : decode cX8_neededHold 63 = .ok (.iconst 4, 1) := by decide +kernel
theorem dX8_neededHold_64 : decode cX8_neededHold 64 = .ok (.invokevirtual 204, 3) := by decide +kernel
theorem dX8_neededHold_67 : decode cX8_neededHold 67 = .ok (.iadd, 1) := by decide +kernel
theorem dX8_neededHold_68 : decode cX8_neededHold 68 = .ok (.invokestatic 290, 3) := by decide +kernel
theorem dX8_neededHold_71 : decode cX8_neededHold 71 = .ok (.istore 4, 2) := by decide +kernel
theorem dX8_neededHold_73 : decode cX8_neededHold 73 = .ok (.iinc 5 1, 3) := by decide +kernel
theorem dX8_neededHold_76 : decode cX8_neededHold 76 = .ok (.goto (-42), 3) := by decide +kernel
theorem dX8_neededHold_79 : decode cX8_neededHold 79 = .ok (.iload 4, 2) := by decide +kernel
theorem dX8_neededHold_81 : decode cX8_neededHold 81 = .ok (.iconst 1, 1) := by decide +kernel
theorem dX8_neededHold_82 : decode cX8_neededHold 82 = .ok (.iadd, 1) := by decide +kernel
theorem dX8_neededHold_83 : decode cX8_neededHold 83 = .ok (.ireturn, 1) := by decide +kernel
theorem dX8_widest_0 : decode cX8_widest 0 = .ok (.aload_n 0, 1) := by decide +kernel
theorem dX8_widest_1 : decode cX8_widest 1 = .ok (.iload_n 1, 1) := by decide +kernel
theorem dX8_widest_2 : decode cX8_widest 2 = .ok (.iload_n 2, 1) := by decide +kernel
theorem dX8_widest_3 : decode cX8_widest 3 = .ok (.invokevirtual 337, 3) := by decide +kernel
theorem dX8_widest_6 : decode cX8_widest 6 = .ok (.ifCond .eq 5, 3) := by decide +kernel
theorem dX8_widest_9 : decode cX8_widest 9 = .ok (.iconst 0, 1) := by decide +kernel
theorem dX8_widest_10 : decode cX8_widest 10 = .ok (.ireturn, 1) := by decide +kernel
theorem dX8_widest_11 : decode cX8_widest 11 = .ok (.iconst 0, 1) := by decide +kernel
theorem dX8_widest_12 : decode cX8_widest 12 = .ok (.istore_n 3, 1) := by decide +kernel
theorem dX8_widest_13 : decode cX8_widest 13 = .ok (.iconst 0, 1) := by decide +kernel
theorem dX8_widest_14 : decode cX8_widest 14 = .ok (.istore 4, 2) := by decide +kernel
theorem dX8_widest_16 : decode cX8_widest 16 = .ok (.iload 4, 2) := by decide +kernel
theorem dX8_widest_18 : decode cX8_widest 18 = .ok (.aload_n 0, 1) := by decide +kernel
theorem dX8_widest_19 : decode cX8_widest 19 = .ok (.getfield 9, 3) := by decide +kernel
theorem dX8_widest_22 : decode cX8_widest 22 = .ok (.bipush 7, 2) := by decide +kernel
theorem dX8_widest_24 : decode cX8_widest 24 = .ok (.iaload, 1) := by decide +kernel
theorem dX8_widest_25 : decode cX8_widest 25 = .ok (.if_icmp .ge 41, 3) := by decide +kernel
theorem dX8_widest_28 : decode cX8_widest 28 = .ok (.aload_n 0, 1) := by decide +kernel
theorem dX8_widest_29 : decode cX8_widest 29 = .ok (.iload 4, 2) := by decide +kernel
theorem dX8_widest_31 : decode cX8_widest 31 = .ok (.invokevirtual 209, 3) := by decide +kernel
theorem dX8_widest_34 : decode cX8_widest 34 = .ok (.istore 5, 2) := by decide +kernel
theorem dX8_widest_36 : decode cX8_widest 36 = .ok (.iload 5, 2) := by decide +kernel
theorem dX8_widest_38 : decode cX8_widest 38 = .ok (.iload_n 3, 1) := by decide +kernel
theorem dX8_widest_39 : decode cX8_widest 39 = .ok (.if_icmp .le 21, 3) := by decide +kernel
theorem dX8_widest_42 : decode cX8_widest 42 = .ok (.aload_n 0, 1) := by decide +kernel
theorem dX8_widest_43 : decode cX8_widest 43 = .ok (.iload_n 1, 1) := by decide +kernel
theorem dX8_widest_44 : decode cX8_widest 44 = .ok (.iload_n 2, 1) := by decide +kernel
theorem dX8_widest_45 : decode cX8_widest 45 = .ok (.aload_n 0, 1) := by decide +kernel
theorem dX8_widest_46 : decode cX8_widest 46 = .ok (.iload 5, 2) := by decide +kernel
theorem dX8_widest_48 : decode cX8_widest 48 = .ok (.invokevirtual 365, 3) := by decide +kernel
theorem dX8_widest_51 : decode cX8_widest 51 = .ok (.invokevirtual 235, 3) := by decide +kernel
theorem dX8_widest_54 : decode cX8_widest 54 = .ok (.ifCond .eq 6, 3) := by decide +kernel
theorem dX8_widest_57 : decode cX8_widest 57 = .ok (.iload 5, 2) := by decide +kernel
theorem dX8_widest_59 : decode cX8_widest 59 = .ok (.istore_n 3, 1) := by decide +kernel
theorem dX8_widest_60 : decode cX8_widest 60 = .ok (.iinc 4 1, 3) := by decide +kernel
theorem dX8_widest_63 : decode cX8_widest 63 = .ok (.goto (-47), 3) := by decide +kernel
theorem dX8_widest_66 : decode cX8_widest 66 = .ok (.iload_n 3, 1) := by decide +kernel
theorem dX8_widest_67 : decode cX8_widest 67 = .ok (.ireturn, 1) := by decide +kernel
theorem dX8_meets_0 : decode cX8_meets 0 = .ok (.iconst 0, 1) := by decide +kernel
theorem dX8_meets_1 : decode cX8_meets 1 = .ok (.istore_n 3, 1) := by decide +kernel
theorem dX8_meets_2 : decode cX8_meets 2 = .ok (.iload_n 3, 1) := by decide +kernel
theorem dX8_meets_3 : decode cX8_meets 3 = .ok (.aload_n 0, 1) := by decide +kernel
theorem dX8_meets_4 : decode cX8_meets 4 = .ok (.getfield 9, 3) := by decide +kernel
theorem dX8_meets_7 : decode cX8_meets 7 = .ok (.bipush 6, 2) := by decide +kernel
theorem dX8_meets_9 : decode cX8_meets 9 = .ok (.iaload, 1) := by decide +kernel
theorem dX8_meets_10 : decode cX8_meets 10 = .ok (.if_icmp .ge 16, 3) := by decide +kernel
theorem dX8_meets_13 : decode cX8_meets 13 = .ok (.aload_n 0, 1) := by decide +kernel
theorem dX8_meets_14 : decode cX8_meets 14 = .ok (.getfield 53, 3) := by decide +kernel
theorem dX8_meets_17 : decode cX8_meets 17 = .ok (.iload_n 3, 1) := by decide +kernel
theorem dX8_meets_18 : decode cX8_meets 18 = .ok (.iconst 0, 1) := by decide +kernel
theorem dX8_meets_19 : decode cX8_meets 19 = .ok (.bastore, 1) := by decide +kernel
theorem dX8_meets_20 : decode cX8_meets 20 = .ok (.iinc 3 1, 3) := by decide +kernel
theorem dX8_meets_23 : decode cX8_meets 23 = .ok (.goto (-21), 3) := by decide +kernel
theorem dX8_meets_26 : decode cX8_meets 26 = .ok (.aload_n 0, 1) := by decide +kernel
theorem dX8_meets_27 : decode cX8_meets 27 = .ok (.getfield 53, 3) := by decide +kernel
theorem dX8_meets_30 : decode cX8_meets 30 = .ok (.iload_n 1, 1) := by decide +kernel
theorem dX8_meets_31 : decode cX8_meets 31 = .ok (.iconst 1, 1) := by decide +kernel
theorem dX8_meets_32 : decode cX8_meets 32 = .ok (.bastore, 1) := by decide +kernel
theorem dX8_meets_33 : decode cX8_meets 33 = .ok (.aload_n 0, 1) := by decide +kernel
theorem dX8_meets_34 : decode cX8_meets 34 = .ok (.getfield 50, 3) := by decide +kernel
theorem dX8_meets_37 : decode cX8_meets 37 = .ok (.iconst 0, 1) := by decide +kernel
theorem dX8_meets_38 : decode cX8_meets 38 = .ok (.iload_n 1, 1) := by decide +kernel
theorem dX8_meets_39 : decode cX8_meets 39 = .ok (.iastore, 1) := by decide +kernel
theorem dX8_meets_40 : decode cX8_meets 40 = .ok (.iconst 1, 1) := by decide +kernel
theorem dX8_meets_41 : decode cX8_meets 41 = .ok (.istore_n 3, 1) := by decide +kernel
theorem dX8_meets_42 : decode cX8_meets 42 = .ok (.iconst 0, 1) := by decide +kernel
theorem dX8_meets_43 : decode cX8_meets 43 = .ok (.istore 4, 2) := by decide +kernel
theorem dX8_meets_45 : decode cX8_meets 45 = .ok (.iload 4, 2) := by decide +kernel
theorem dX8_meets_47 : decode cX8_meets 47 = .ok (.iload_n 3, 1) := by decide +kernel
theorem dX8_meets_48 : decode cX8_meets 48 = .ok (.if_icmp .ge 161, 3) := by decide +kernel
theorem dX8_meets_51 : decode cX8_meets 51 = .ok (.iconst 0, 1) := by decide +kernel
theorem dX8_meets_52 : decode cX8_meets 52 = .ok (.istore 5, 2) := by decide +kernel
theorem dX8_meets_54 : decode cX8_meets 54 = .ok (.iload 5, 2) := by decide +kernel
theorem dX8_meets_56 : decode cX8_meets 56 = .ok (.aload_n 0, 1) := by decide +kernel
theorem dX8_meets_57 : decode cX8_meets 57 = .ok (.getfield 9, 3) := by decide +kernel
theorem dX8_meets_60 : decode cX8_meets 60 = .ok (.bipush 7, 2) := by decide +kernel
theorem dX8_meets_62 : decode cX8_meets 62 = .ok (.iaload, 1) := by decide +kernel
theorem dX8_meets_63 : decode cX8_meets 63 = .ok (.if_icmp .ge 140, 3) := by decide +kernel
theorem dX8_meets_66 : decode cX8_meets 66 = .ok (.aload_n 0, 1) := by decide +kernel
theorem dX8_meets_67 : decode cX8_meets 67 = .ok (.iload 5, 2) := by decide +kernel
theorem dX8_meets_69 : decode cX8_meets 69 = .ok (.iconst 0, 1) := by decide +kernel
theorem dX8_meets_70 : decode cX8_meets 70 = .ok (.invokevirtual 204, 3) := by decide +kernel
theorem dX8_meets_73 : decode cX8_meets 73 = .ok (.aload_n 0, 1) := by decide +kernel
theorem dX8_meets_74 : decode cX8_meets 74 = .ok (.getfield 50, 3) := by decide +kernel
theorem dX8_meets_77 : decode cX8_meets 77 = .ok (.iload 4, 2) := by decide +kernel
theorem dX8_meets_79 : decode cX8_meets 79 = .ok (.iaload, 1) := by decide +kernel
theorem dX8_meets_80 : decode cX8_meets 80 = .ok (.if_icmp .ne 30, 3) := by decide +kernel
theorem dX8_meets_83 : decode cX8_meets 83 = .ok (.aload_n 0, 1) := by decide +kernel
theorem dX8_meets_84 : decode cX8_meets 84 = .ok (.getfield 44, 3) := by decide +kernel
theorem dX8_meets_87 : decode cX8_meets 87 = .ok (.iload 5, 2) := by decide +kernel
theorem dX8_meets_89 : decode cX8_meets 89 = .ok (.iaload, 1) := by decide +kernel
theorem dX8_meets_90 : decode cX8_meets 90 = .ok (.aload_n 0, 1) := by decide +kernel
theorem dX8_meets_91 : decode cX8_meets 91 = .ok (.getfield 41, 3) := by decide +kernel
theorem dX8_meets_94 : decode cX8_meets 94 = .ok (.iload 5, 2) := by decide +kernel
theorem dX8_meets_96 : decode cX8_meets 96 = .ok (.iaload, 1) := by decide +kernel
theorem dX8_meets_97 : decode cX8_meets 97 = .ok (.if_icmp .ge 13, 3) := by decide +kernel
theorem dX8_meets_100 : decode cX8_meets 100 = .ok (.aload_n 0, 1) := by decide +kernel
theorem dX8_meets_101 : decode cX8_meets 101 = .ok (.iload 5, 2) := by decide +kernel
theorem dX8_meets_103 : decode cX8_meets 103 = .ok (.iconst 1, 1) := by decide +kernel
theorem dX8_meets_104 : decode cX8_meets 104 = .ok (.invokevirtual 204, 3) := by decide +kernel
theorem dX8_meets_107 : decode cX8_meets 107 = .ok (.goto 41, 3) := by decide +kernel
theorem dX8_meets_110 : decode cX8_meets 110 = .ok (.aload_n 0, 1) := by decide +kernel
theorem dX8_meets_111 : decode cX8_meets 111 = .ok (.iload 5, 2) := by decide +kernel
theorem dX8_meets_113 : decode cX8_meets 113 = .ok (.iconst 1, 1) := by decide +kernel
theorem dX8_meets_114 : decode cX8_meets 114 = .ok (.invokevirtual 204, 3) := by decide +kernel
theorem dX8_meets_117 : decode cX8_meets 117 = .ok (.aload_n 0, 1) := by decide +kernel
theorem dX8_meets_118 : decode cX8_meets 118 = .ok (.getfield 50, 3) := by decide +kernel
theorem dX8_meets_121 : decode cX8_meets 121 = .ok (.iload 4, 2) := by decide +kernel
theorem dX8_meets_123 : decode cX8_meets 123 = .ok (.iaload, 1) := by decide +kernel
theorem dX8_meets_124 : decode cX8_meets 124 = .ok (.if_icmp .ne 23, 3) := by decide +kernel
theorem dX8_meets_127 : decode cX8_meets 127 = .ok (.aload_n 0, 1) := by decide +kernel
theorem dX8_meets_128 : decode cX8_meets 128 = .ok (.getfield 44, 3) := by decide +kernel
theorem dX8_meets_131 : decode cX8_meets 131 = .ok (.iload 5, 2) := by decide +kernel
theorem dX8_meets_133 : decode cX8_meets 133 = .ok (.iaload, 1) := by decide +kernel
theorem dX8_meets_134 : decode cX8_meets 134 = .ok (.ifCond .le 13, 3) := by decide +kernel
theorem dX8_meets_137 : decode cX8_meets 137 = .ok (.aload_n 0, 1) := by decide +kernel
theorem dX8_meets_138 : decode cX8_meets 138 = .ok (.iload 5, 2) := by decide +kernel
theorem dX8_meets_140 : decode cX8_meets 140 = .ok (.iconst 0, 1) := by decide +kernel
theorem dX8_meets_141 : decode cX8_meets 141 = .ok (.invokevirtual 204, 3) := by decide +kernel
theorem dX8_meets_144 : decode cX8_meets 144 = .ok (.goto 4, 3) := by decide +kernel
theorem dX8_meets_147 : decode cX8_meets 147 = .ok (.iconst (-1), 1) := by decide +kernel
theorem dX8_meets_148 : decode cX8_meets 148 = .ok (.istore 6, 2) := by decide +kernel
theorem dX8_meets_150 : decode cX8_meets 150 = .ok (.iload 6, 2) := by decide +kernel
theorem dX8_meets_152 : decode cX8_meets 152 = .ok (.iconst (-1), 1) := by decide +kernel
theorem dX8_meets_153 : decode cX8_meets 153 = .ok (.if_icmp .eq 44, 3) := by decide +kernel
theorem dX8_meets_156 : decode cX8_meets 156 = .ok (.aload_n 0, 1) := by decide +kernel
theorem dX8_meets_157 : decode cX8_meets 157 = .ok (.getfield 53, 3) := by decide +kernel
theorem dX8_meets_160 : decode cX8_meets 160 = .ok (.iload 6, 2) := by decide +kernel
theorem dX8_meets_162 : decode cX8_meets 162 = .ok (.baload, 1) := by decide +kernel
theorem dX8_meets_163 : decode cX8_meets 163 = .ok (.ifCond .eq 6, 3) := by decide +kernel
theorem dX8_meets_166 : decode cX8_meets 166 = .ok (.goto 31, 3) := by decide +kernel
theorem dX8_meets_169 : decode cX8_meets 169 = .ok (.aload_n 0, 1) := by decide +kernel
theorem dX8_meets_170 : decode cX8_meets 170 = .ok (.getfield 53, 3) := by decide +kernel
theorem dX8_meets_173 : decode cX8_meets 173 = .ok (.iload 6, 2) := by decide +kernel
theorem dX8_meets_175 : decode cX8_meets 175 = .ok (.iconst 1, 1) := by decide +kernel
theorem dX8_meets_176 : decode cX8_meets 176 = .ok (.bastore, 1) := by decide +kernel
theorem dX8_meets_177 : decode cX8_meets 177 = .ok (.aload_n 0, 1) := by decide +kernel
theorem dX8_meets_178 : decode cX8_meets 178 = .ok (.getfield 47, 3) := by decide +kernel
theorem dX8_meets_181 : decode cX8_meets 181 = .ok (.iload 6, 2) := by decide +kernel
theorem dX8_meets_183 : decode cX8_meets 183 = .ok (.iload 5, 2) := by decide +kernel
theorem dX8_meets_185 : decode cX8_meets 185 = .ok (.iastore, 1) := by decide +kernel
theorem dX8_meets_186 : decode cX8_meets 186 = .ok (.aload_n 0, 1) := by decide +kernel
theorem dX8_meets_187 : decode cX8_meets 187 = .ok (.getfield 50, 3) := by decide +kernel
theorem dX8_meets_190 : decode cX8_meets 190 = .ok (.iload_n 3, 1) := by decide +kernel
theorem dX8_meets_191 : decode cX8_meets 191 = .ok (.iload 6, 2) := by decide +kernel
theorem dX8_meets_193 : decode cX8_meets 193 = .ok (.iastore, 1) := by decide +kernel
theorem dX8_meets_194 : decode cX8_meets 194 = .ok (.iinc 3 1, 3) := by decide +kernel
theorem dX8_meets_197 : decode cX8_meets 197 = .ok (.iinc 5 1, 3) := by decide +kernel
theorem dX8_meets_200 : decode cX8_meets 200 = .ok (.goto (-146), 3) := by decide +kernel
theorem dX8_meets_203 : decode cX8_meets 203 = .ok (.iinc 4 1, 3) := by decide +kernel
theorem dX8_meets_206 : decode cX8_meets 206 = .ok (.goto (-161), 3) := by decide +kernel
theorem dX8_meets_209 : decode cX8_meets 209 = .ok (.aload_n 0, 1) := by decide +kernel
theorem dX8_meets_210 : decode cX8_meets 210 = .ok (.getfield 53, 3) := by decide +kernel
theorem dX8_meets_213 : decode cX8_meets 213 = .ok (.iload_n 2, 1) := by decide +kernel
theorem dX8_meets_214 : decode cX8_meets 214 = .ok (.baload, 1) := by decide +kernel
theorem dX8_meets_215 : decode cX8_meets 215 = .ok (.ireturn, 1) := by decide +kernel
theorem dX8_isWith_0 : decode cX8_isWith 0 = .ok (.aload_n 0, 1) := by decide +kernel
theorem dX8_isWith_1 : decode cX8_isWith 1 = .ok (.iload_n 1, 1) := by decide +kernel
theorem dX8_isWith_2 : decode cX8_isWith 2 = .ok (.iconst 1, 1) := by decide +kernel
theorem dX8_isWith_3 : decode cX8_isWith 3 = .ok (.invokevirtual 204, 3) := by decide +kernel
theorem dX8_isWith_6 : decode cX8_isWith 6 = .ok (.iload_n 2, 1) := by decide +kernel
theorem dX8_isWith_7 : decode cX8_isWith 7 = .ok (.if_icmp .ne 7, 3) := by decide +kernel
theorem dX8_isWith_10 : decode cX8_isWith 10 = .ok (.iconst 1, 1) := by decide +kernel
theorem dX8_isWith_11 : decode cX8_isWith 11 = .ok (.goto 4, 3) := by decide +kernel
theorem dX8_isWith_14 : decode cX8_isWith 14 = .ok (.iconst 0, 1) := by decide +kernel
theorem dX8_isWith_15 : decode cX8_isWith 15 = .ok (.ireturn, 1) := by decide +kernel
theorem dX8_pushes_0 : decode cX8_pushes 0 = .ok (.ldc 212, 2) := by decide +kernel
theorem dX8_pushes_2 : decode cX8_pushes 2 = .ok (.istore_n 3, 1) := by decide +kernel
theorem dX8_pushes_3 : decode cX8_pushes 3 = .ok (.iload_n 2, 1) := by decide +kernel
theorem dX8_pushes_4 : decode cX8_pushes 4 = .ok (.istore 4, 2) := by decide +kernel
theorem dX8_pushes_6 : decode cX8_pushes 6 = .ok (.iload 4, 2) := by decide +kernel
theorem dX8_pushes_8 : decode cX8_pushes 8 = .ok (.iload_n 1, 1) := by decide +kernel
theorem dX8_pushes_9 : decode cX8_pushes 9 = .ok (.if_icmp .eq 75, 3) := by decide +kernel
theorem dX8_pushes_12 : decode cX8_pushes 12 = .ok (.iload_n 3, 1) := by decide +kernel
theorem dX8_pushes_13 : decode cX8_pushes 13 = .ok (.aload_n 0, 1) := by decide +kernel
theorem dX8_pushes_14 : decode cX8_pushes 14 = .ok (.aload_n 0, 1) := by decide +kernel
theorem dX8_pushes_15 : decode cX8_pushes 15 = .ok (.getfield 47, 3) := by decide +kernel
theorem dX8_pushes_18 : decode cX8_pushes 18 = .ok (.iload 4, 2) := by decide +kernel
theorem dX8_pushes_20 : decode cX8_pushes 20 = .ok (.iaload, 1) := by decide +kernel
theorem dX8_pushes_21 : decode cX8_pushes 21 = .ok (.iload 4, 2) := by decide +kernel
theorem dX8_pushes_23 : decode cX8_pushes 23 = .ok (.invokevirtual 371, 3) := by decide +kernel
theorem dX8_pushes_26 : decode cX8_pushes 26 = .ok (.ifCond .eq 31, 3) := by decide +kernel
theorem dX8_pushes_29 : decode cX8_pushes 29 = .ok (.aload_n 0, 1) := by decide +kernel
theorem dX8_pushes_30 : decode cX8_pushes 30 = .ok (.getfield 41, 3) := by decide +kernel
theorem dX8_pushes_33 : decode cX8_pushes 33 = .ok (.aload_n 0, 1) := by decide +kernel
theorem dX8_pushes_34 : decode cX8_pushes 34 = .ok (.getfield 47, 3) := by decide +kernel
theorem dX8_pushes_37 : decode cX8_pushes 37 = .ok (.iload 4, 2) := by decide +kernel
theorem dX8_pushes_39 : decode cX8_pushes 39 = .ok (.iaload, 1) := by decide +kernel
theorem dX8_pushes_40 : decode cX8_pushes 40 = .ok (.iaload, 1) := by decide +kernel
theorem dX8_pushes_41 : decode cX8_pushes 41 = .ok (.aload_n 0, 1) := by decide +kernel
theorem dX8_pushes_42 : decode cX8_pushes 42 = .ok (.getfield 44, 3) := by decide +kernel
theorem dX8_pushes_45 : decode cX8_pushes 45 = .ok (.aload_n 0, 1) := by decide +kernel
theorem dX8_pushes_46 : decode cX8_pushes 46 = .ok (.getfield 47, 3) := by decide +kernel
theorem dX8_pushes_49 : decode cX8_pushes 49 = .ok (.iload 4, 2) := by decide +kernel
theorem dX8_pushes_51 : decode cX8_pushes 51 = .ok (.iaload, 1) := by decide +kernel
theorem dX8_pushes_52 : decode cX8_pushes 52 = .ok (.iaload, 1) := by decide +kernel
theorem dX8_pushes_53 : decode cX8_pushes 53 = .ok (.isub, 1) := by decide +kernel
theorem dX8_pushes_54 : decode cX8_pushes 54 = .ok (.goto 15, 3) := by decide +kernel
theorem dX8_pushes_57 : decode cX8_pushes 57 = .ok (.aload_n 0, 1) := by decide +kernel
theorem dX8_pushes_58 : decode cX8_pushes 58 = .ok (.getfield 44, 3) := by decide +kernel
theorem dX8_pushes_61 : decode cX8_pushes 61 = .ok (.aload_n 0, 1) := by decide +kernel
theorem dX8_pushes_62 : decode cX8_pushes 62 = .ok (.getfield 47, 3) := by decide +kernel
theorem dX8_pushes_65 : decode cX8_pushes 65 = .ok (.iload 4, 2) := by decide +kernel
theorem dX8_pushes_67 : decode cX8_pushes 67 = .ok (.iaload, 1) := by decide +kernel
theorem dX8_pushes_68 : decode cX8_pushes 68 = .ok (.iaload, 1) := by decide +kernel
theorem dX8_pushes_69 : decode cX8_pushes 69 = .ok (.invokestatic 279, 3) := by decide +kernel
theorem dX8_pushes_72 : decode cX8_pushes 72 = .ok (.istore_n 3, 1) := by decide +kernel
theorem dX8_pushes_73 : decode cX8_pushes 73 = .ok (.aload_n 0, 1) := by decide +kernel
theorem dX8_pushes_74 : decode cX8_pushes 74 = .ok (.iload 4, 2) := by decide +kernel
theorem dX8_pushes_76 : decode cX8_pushes 76 = .ok (.invokevirtual 374, 3) := by decide +kernel
theorem dX8_pushes_79 : decode cX8_pushes 79 = .ok (.istore 4, 2) := by decide +kernel
theorem dX8_pushes_81 : decode cX8_pushes 81 = .ok (.goto (-75), 3) := by decide +kernel
theorem dX8_pushes_84 : decode cX8_pushes 84 = .ok (.iload_n 2, 1) := by decide +kernel
theorem dX8_pushes_85 : decode cX8_pushes 85 = .ok (.istore 4, 2) := by decide +kernel
theorem dX8_pushes_87 : decode cX8_pushes 87 = .ok (.iload 4, 2) := by decide +kernel
theorem dX8_pushes_89 : decode cX8_pushes 89 = .ok (.iload_n 1, 1) := by decide +kernel
theorem dX8_pushes_90 : decode cX8_pushes 90 = .ok (.if_icmp .eq 51, 3) := by decide +kernel
theorem dX8_pushes_93 : decode cX8_pushes 93 = .ok (.aload_n 0, 1) := by decide +kernel
theorem dX8_pushes_94 : decode cX8_pushes 94 = .ok (.getfield 44, 3) := by decide +kernel
theorem dX8_pushes_97 : decode cX8_pushes 97 = .ok (.aload_n 0, 1) := by decide +kernel
theorem dX8_pushes_98 : decode cX8_pushes 98 = .ok (.getfield 47, 3) := by decide +kernel
theorem dX8_pushes_101 : decode cX8_pushes 101 = .ok (.iload 4, 2) := by decide +kernel
theorem dX8_pushes_103 : decode cX8_pushes 103 = .ok (.iaload, 1) := by decide +kernel
theorem dX8_pushes_104 : decode cX8_pushes 104 = .ok (.dup2, 1) := by decide +kernel
theorem dX8_pushes_105 : decode cX8_pushes 105 = .ok (.iaload, 1) := by decide +kernel
theorem dX8_pushes_106 : decode cX8_pushes 106 = .ok (.aload_n 0, 1) := by decide +kernel
theorem dX8_pushes_107 : decode cX8_pushes 107 = .ok (.aload_n 0, 1) := by decide +kernel
theorem dX8_pushes_108 : decode cX8_pushes 108 = .ok (.getfield 47, 3) := by decide +kernel
theorem dX8_pushes_111 : decode cX8_pushes 111 = .ok (.iload 4, 2) := by decide +kernel
theorem dX8_pushes_113 : decode cX8_pushes 113 = .ok (.iaload, 1) := by decide +kernel
theorem dX8_pushes_114 : decode cX8_pushes 114 = .ok (.iload 4, 2) := by decide +kernel
theorem dX8_pushes_116 : decode cX8_pushes 116 = .ok (.invokevirtual 371, 3) := by decide +kernel
theorem dX8_pushes_119 : decode cX8_pushes 119 = .ok (.ifCond .eq 7, 3) := by decide +kernel
theorem dX8_pushes_122 : decode cX8_pushes 122 = .ok (.iload_n 3, 1) := by decide +kernel
theorem dX8_pushes_123 : decode cX8_pushes 123 = .ok (.goto 5, 3) := by decide +kernel
theorem dX8_pushes_126 : decode cX8_pushes 126 = .ok (.iload_n 3, 1) := by decide +kernel
theorem dX8_pushes_127 : decode cX8_pushes 127 = .ok (.ineg, 1) := by decide +kernel
theorem dX8_pushes_128 : decode cX8_pushes 128 = .ok (.iadd, 1) := by decide +kernel
theorem dX8_pushes_129 : decode cX8_pushes 129 = .ok (.iastore, 1) := by decide +kernel
theorem dX8_pushes_130 : decode cX8_pushes 130 = .ok (.aload_n 0, 1) := by decide +kernel
theorem dX8_pushes_131 : decode cX8_pushes 131 = .ok (.iload 4, 2) := by decide +kernel
theorem dX8_pushes_133 : decode cX8_pushes 133 = .ok (.invokevirtual 374, 3) := by decide +kernel
theorem dX8_pushes_136 : decode cX8_pushes 136 = .ok (.istore 4, 2) := by decide +kernel
theorem dX8_pushes_138 : decode cX8_pushes 138 = .ok (.goto (-51), 3) := by decide +kernel
theorem dX8_pushes_141 : decode cX8_pushes 141 = .ok (.iload_n 3, 1) := by decide +kernel
theorem dX8_pushes_142 : decode cX8_pushes 142 = .ok (.ireturn, 1) := by decide +kernel
theorem dX8_other_0 : decode cX8_other 0 = .ok (.aload_n 0, 1) := by decide +kernel
theorem dX8_other_1 : decode cX8_other 1 = .ok (.aload_n 0, 1) := by decide +kernel
theorem dX8_other_2 : decode cX8_other 2 = .ok (.getfield 47, 3) := by decide +kernel
theorem dX8_other_5 : decode cX8_other 5 = .ok (.iload_n 1, 1) := by decide +kernel
theorem dX8_other_6 : decode cX8_other 6 = .ok (.iaload, 1) := by decide +kernel
theorem dX8_other_7 : decode cX8_other 7 = .ok (.iload_n 1, 1) := by decide +kernel
theorem dX8_other_8 : decode cX8_other 8 = .ok (.invokevirtual 371, 3) := by decide +kernel
theorem dX8_other_11 : decode cX8_other 11 = .ok (.ifCond .eq 17, 3) := by decide +kernel
theorem dX8_other_14 : decode cX8_other 14 = .ok (.aload_n 0, 1) := by decide +kernel
theorem dX8_other_15 : decode cX8_other 15 = .ok (.aload_n 0, 1) := by decide +kernel
theorem dX8_other_16 : decode cX8_other 16 = .ok (.getfield 47, 3) := by decide +kernel
theorem dX8_other_19 : decode cX8_other 19 = .ok (.iload_n 1, 1) := by decide +kernel
theorem dX8_other_20 : decode cX8_other 20 = .ok (.iaload, 1) := by decide +kernel
theorem dX8_other_21 : decode cX8_other 21 = .ok (.iconst 0, 1) := by decide +kernel
theorem dX8_other_22 : decode cX8_other 22 = .ok (.invokevirtual 204, 3) := by decide +kernel
theorem dX8_other_25 : decode cX8_other 25 = .ok (.goto 14, 3) := by decide +kernel
theorem dX8_other_28 : decode cX8_other 28 = .ok (.aload_n 0, 1) := by decide +kernel
theorem dX8_other_29 : decode cX8_other 29 = .ok (.aload_n 0, 1) := by decide +kernel
theorem dX8_other_30 : decode cX8_other 30 = .ok (.getfield 47, 3) := by decide +kernel
theorem dX8_other_33 : decode cX8_other 33 = .ok (.iload_n 1, 1) := by decide +kernel
theorem dX8_other_34 : decode cX8_other 34 = .ok (.iaload, 1) := by decide +kernel
theorem dX8_other_35 : decode cX8_other 35 = .ok (.iconst 1, 1) := by decide +kernel
theorem dX8_other_36 : decode cX8_other 36 = .ok (.invokevirtual 204, 3) := by decide +kernel
theorem dX8_other_39 : decode cX8_other 39 = .ok (.ireturn, 1) := by decide +kernel
theorem dX8_flows_0 : decode cX8_flows 0 = .ok (.iconst 0, 1) := by decide +kernel
theorem dX8_flows_1 : decode cX8_flows 1 = .ok (.istore_n 3, 1) := by decide +kernel
theorem dX8_flows_2 : decode cX8_flows 2 = .ok (.iload_n 3, 1) := by decide +kernel
theorem dX8_flows_3 : decode cX8_flows 3 = .ok (.aload_n 0, 1) := by decide +kernel
theorem dX8_flows_4 : decode cX8_flows 4 = .ok (.getfield 9, 3) := by decide +kernel
theorem dX8_flows_7 : decode cX8_flows 7 = .ok (.bipush 7, 2) := by decide +kernel
theorem dX8_flows_9 : decode cX8_flows 9 = .ok (.iaload, 1) := by decide +kernel
theorem dX8_flows_10 : decode cX8_flows 10 = .ok (.if_icmp .ge 16, 3) := by decide +kernel
theorem dX8_flows_13 : decode cX8_flows 13 = .ok (.aload_n 0, 1) := by decide +kernel
theorem dX8_flows_14 : decode cX8_flows 14 = .ok (.getfield 44, 3) := by decide +kernel
theorem dX8_flows_17 : decode cX8_flows 17 = .ok (.iload_n 3, 1) := by decide +kernel
theorem dX8_flows_18 : decode cX8_flows 18 = .ok (.iconst 0, 1) := by decide +kernel
theorem dX8_flows_19 : decode cX8_flows 19 = .ok (.iastore, 1) := by decide +kernel
theorem dX8_flows_20 : decode cX8_flows 20 = .ok (.iinc 3 1, 3) := by decide +kernel
theorem dX8_flows_23 : decode cX8_flows 23 = .ok (.goto (-21), 3) := by decide +kernel
theorem dX8_flows_26 : decode cX8_flows 26 = .ok (.iconst 0, 1) := by decide +kernel
theorem dX8_flows_27 : decode cX8_flows 27 = .ok (.istore_n 3, 1) := by decide +kernel
theorem dX8_flows_28 : decode cX8_flows 28 = .ok (.aload_n 0, 1) := by decide +kernel
theorem dX8_flows_29 : decode cX8_flows 29 = .ok (.iload_n 1, 1) := by decide +kernel
theorem dX8_flows_30 : decode cX8_flows 30 = .ok (.iload_n 2, 1) := by decide +kernel
theorem dX8_flows_31 : decode cX8_flows 31 = .ok (.invokevirtual 377, 3) := by decide +kernel
theorem dX8_flows_34 : decode cX8_flows 34 = .ok (.ifCond .eq 15, 3) := by decide +kernel
theorem dX8_flows_37 : decode cX8_flows 37 = .ok (.iload_n 3, 1) := by decide +kernel
theorem dX8_flows_38 : decode cX8_flows 38 = .ok (.aload_n 0, 1) := by decide +kernel
theorem dX8_flows_39 : decode cX8_flows 39 = .ok (.iload_n 1, 1) := by decide +kernel
theorem dX8_flows_40 : decode cX8_flows 40 = .ok (.iload_n 2, 1) := by decide +kernel
theorem dX8_flows_41 : decode cX8_flows 41 = .ok (.invokevirtual 380, 3) := by decide +kernel
theorem dX8_flows_44 : decode cX8_flows 44 = .ok (.iadd, 1) := by decide +kernel
theorem dX8_flows_45 : decode cX8_flows 45 = .ok (.istore_n 3, 1) := by decide +kernel
theorem dX8_flows_46 : decode cX8_flows 46 = .ok (.goto (-18), 3) := by decide +kernel
theorem dX8_flows_49 : decode cX8_flows 49 = .ok (.iload_n 3, 1) := by decide +kernel
theorem dX8_flows_50 : decode cX8_flows 50 = .ok (.ireturn, 1) := by decide +kernel
theorem dX8_laysRoom_0 : decode cX8_laysRoom 0 = .ok (.iconst 0, 1) := by decide +kernel
theorem dX8_laysRoom_1 : decode cX8_laysRoom 1 = .ok (.istore_n 1, 1) := by decide +kernel
theorem dX8_laysRoom_2 : decode cX8_laysRoom 2 = .ok (.iload_n 1, 1) := by decide +kernel
theorem dX8_laysRoom_3 : decode cX8_laysRoom 3 = .ok (.aload_n 0, 1) := by decide +kernel
theorem dX8_laysRoom_4 : decode cX8_laysRoom 4 = .ok (.getfield 9, 3) := by decide +kernel
theorem dX8_laysRoom_7 : decode cX8_laysRoom 7 = .ok (.bipush 7, 2) := by decide +kernel
theorem dX8_laysRoom_9 : decode cX8_laysRoom 9 = .ok (.iaload, 1) := by decide +kernel
theorem dX8_laysRoom_10 : decode cX8_laysRoom 10 = .ok (.if_icmp .ge 34, 3) := by decide +kernel
theorem dX8_laysRoom_13 : decode cX8_laysRoom 13 = .ok (.aload_n 0, 1) := by decide +kernel
theorem dX8_laysRoom_14 : decode cX8_laysRoom 14 = .ok (.getfield 41, 3) := by decide +kernel
theorem dX8_laysRoom_17 : decode cX8_laysRoom 17 = .ok (.iload_n 1, 1) := by decide +kernel
theorem dX8_laysRoom_18 : decode cX8_laysRoom 18 = .ok (.aload_n 0, 1) := by decide +kernel
theorem dX8_laysRoom_19 : decode cX8_laysRoom 19 = .ok (.iload_n 1, 1) := by decide +kernel
theorem dX8_laysRoom_20 : decode cX8_laysRoom 20 = .ok (.iconst 5, 1) := by decide +kernel
theorem dX8_laysRoom_21 : decode cX8_laysRoom 21 = .ok (.invokevirtual 204, 3) := by decide +kernel
theorem dX8_laysRoom_24 : decode cX8_laysRoom 24 = .ok (.iconst 1, 1) := by decide +kernel
theorem dX8_laysRoom_25 : decode cX8_laysRoom 25 = .ok (.if_icmp .ne 11, 3) := by decide +kernel
theorem dX8_laysRoom_28 : decode cX8_laysRoom 28 = .ok (.aload_n 0, 1) := by decide +kernel
theorem dX8_laysRoom_29 : decode cX8_laysRoom 29 = .ok (.iload_n 1, 1) := by decide +kernel
theorem dX8_laysRoom_30 : decode cX8_laysRoom 30 = .ok (.invokevirtual 209, 3) := by decide +kernel
theorem dX8_laysRoom_33 : decode cX8_laysRoom 33 = .ok (.goto 4, 3) := by decide +kernel
theorem dX8_laysRoom_36 : decode cX8_laysRoom 36 = .ok (.iconst 0, 1) := by decide +kernel
theorem dX8_laysRoom_37 : decode cX8_laysRoom 37 = .ok (.iastore, 1) := by decide +kernel
theorem dX8_laysRoom_38 : decode cX8_laysRoom 38 = .ok (.iinc 1 1, 3) := by decide +kernel
theorem dX8_laysRoom_41 : decode cX8_laysRoom 41 = .ok (.goto (-39), 3) := by decide +kernel
theorem dX8_laysRoom_44 : decode cX8_laysRoom 44 = .ok (.return_, 1) := by decide +kernel
theorem dX8_greatestFlow_0 : decode cX8_greatestFlow 0 = .ok (.aload_n 0, 1) := by decide +kernel
theorem dX8_greatestFlow_1 : decode cX8_greatestFlow 1 = .ok (.iload_n 1, 1) := by decide +kernel
theorem dX8_greatestFlow_2 : decode cX8_greatestFlow 2 = .ok (.iload_n 2, 1) := by decide +kernel
theorem dX8_greatestFlow_3 : decode cX8_greatestFlow 3 = .ok (.invokevirtual 337, 3) := by decide +kernel
theorem dX8_greatestFlow_6 : decode cX8_greatestFlow 6 = .ok (.ifCond .eq 5, 3) := by decide +kernel
theorem dX8_greatestFlow_9 : decode cX8_greatestFlow 9 = .ok (.iconst 0, 1) := by decide +kernel
theorem dX8_greatestFlow_10 : decode cX8_greatestFlow 10 = .ok (.ireturn, 1) := by decide +kernel
theorem dX8_greatestFlow_11 : decode cX8_greatestFlow 11 = .ok (.aload_n 0, 1) := by decide +kernel
theorem dX8_greatestFlow_12 : decode cX8_greatestFlow 12 = .ok (.invokevirtual 383, 3) := by decide +kernel
theorem dX8_greatestFlow_15 : decode cX8_greatestFlow 15 = .ok (.aload_n 0, 1) := by decide +kernel
theorem dX8_greatestFlow_16 : decode cX8_greatestFlow 16 = .ok (.iload_n 1, 1) := by decide +kernel
theorem dX8_greatestFlow_17 : decode cX8_greatestFlow 17 = .ok (.iload_n 2, 1) := by decide +kernel
theorem dX8_greatestFlow_18 : decode cX8_greatestFlow 18 = .ok (.invokevirtual 386, 3) := by decide +kernel
theorem dX8_greatestFlow_21 : decode cX8_greatestFlow 21 = .ok (.ireturn, 1) := by decide +kernel
theorem dX8_smallestCut_0 : decode cX8_smallestCut 0 = .ok (.aload_n 0, 1) := by decide +kernel
theorem dX8_smallestCut_1 : decode cX8_smallestCut 1 = .ok (.iload_n 1, 1) := by decide +kernel
theorem dX8_smallestCut_2 : decode cX8_smallestCut 2 = .ok (.iload_n 2, 1) := by decide +kernel
theorem dX8_smallestCut_3 : decode cX8_smallestCut 3 = .ok (.invokevirtual 337, 3) := by decide +kernel
theorem dX8_smallestCut_6 : decode cX8_smallestCut 6 = .ok (.ifCond .eq 5, 3) := by decide +kernel
theorem dX8_smallestCut_9 : decode cX8_smallestCut 9 = .ok (.iconst 0, 1) := by decide +kernel
theorem dX8_smallestCut_10 : decode cX8_smallestCut 10 = .ok (.ireturn, 1) := by decide +kernel
theorem dX8_smallestCut_11 : decode cX8_smallestCut 11 = .ok (.aload_n 0, 1) := by decide +kernel
theorem dX8_smallestCut_12 : decode cX8_smallestCut 12 = .ok (.invokevirtual 383, 3) := by decide +kernel
theorem dX8_smallestCut_15 : decode cX8_smallestCut 15 = .ok (.aload_n 0, 1) := by decide +kernel
theorem dX8_smallestCut_16 : decode cX8_smallestCut 16 = .ok (.iload_n 1, 1) := by decide +kernel
theorem dX8_smallestCut_17 : decode cX8_smallestCut 17 = .ok (.iload_n 2, 1) := by decide +kernel
theorem dX8_smallestCut_18 : decode cX8_smallestCut 18 = .ok (.invokevirtual 386, 3) := by decide +kernel
theorem dX8_smallestCut_21 : decode cX8_smallestCut 21 = .ok (.istore_n 3, 1) := by decide +kernel
theorem dX8_smallestCut_22 : decode cX8_smallestCut 22 = .ok (.iconst 0, 1) := by decide +kernel
theorem dX8_smallestCut_23 : decode cX8_smallestCut 23 = .ok (.istore 4, 2) := by decide +kernel
theorem dX8_smallestCut_25 : decode cX8_smallestCut 25 = .ok (.iconst 0, 1) := by decide +kernel
theorem dX8_smallestCut_26 : decode cX8_smallestCut 26 = .ok (.istore 5, 2) := by decide +kernel
theorem dX8_smallestCut_28 : decode cX8_smallestCut 28 = .ok (.iload 5, 2) := by decide +kernel
theorem dX8_smallestCut_30 : decode cX8_smallestCut 30 = .ok (.aload_n 0, 1) := by decide +kernel
theorem dX8_smallestCut_31 : decode cX8_smallestCut 31 = .ok (.getfield 9, 3) := by decide +kernel
theorem dX8_smallestCut_34 : decode cX8_smallestCut 34 = .ok (.bipush 7, 2) := by decide +kernel
theorem dX8_smallestCut_36 : decode cX8_smallestCut 36 = .ok (.iaload, 1) := by decide +kernel
theorem dX8_smallestCut_37 : decode cX8_smallestCut 37 = .ok (.if_icmp .ge 67, 3) := by decide +kernel
theorem dX8_smallestCut_40 : decode cX8_smallestCut 40 = .ok (.iload 4, 2) := by decide +kernel
theorem dX8_smallestCut_42 : decode cX8_smallestCut 42 = .ok (.iload_n 3, 1) := by decide +kernel
theorem dX8_smallestCut_43 : decode cX8_smallestCut 43 = .ok (.ifCond .lt 51, 3) := by decide +kernel
theorem dX8_smallestCut_46 : decode cX8_smallestCut 46 = .ok (.aload_n 0, 1) := by decide +kernel
theorem dX8_smallestCut_47 : decode cX8_smallestCut 47 = .ok (.iload 5, 2) := by decide +kernel
theorem dX8_smallestCut_49 : decode cX8_smallestCut 49 = .ok (.iconst 5, 1) := by decide +kernel
theorem dX8_smallestCut_50 : decode cX8_smallestCut 50 = .ok (.invokevirtual 204, 3) := by decide +kernel
theorem dX8_smallestCut_53 : decode cX8_smallestCut 53 = .ok (.iconst 1, 1) := by decide +kernel
theorem dX8_smallestCut_54 : decode cX8_smallestCut 54 = .ok (.if_icmp .ne 40, 3) := by decide +kernel
theorem dX8_smallestCut_57 : decode cX8_smallestCut 57 = .ok (.aload_n 0, 1) := by decide +kernel
theorem dX8_smallestCut_58 : decode cX8_smallestCut 58 = .ok (.getfield 53, 3) := by decide +kernel
theorem dX8_smallestCut_61 : decode cX8_smallestCut 61 = .ok (.aload_n 0, 1) := by decide +kernel
theorem dX8_smallestCut_62 : decode cX8_smallestCut 62 = .ok (.iload 5, 2) := by decide +kernel
theorem dX8_smallestCut_64 : decode cX8_smallestCut 64 = .ok (.iconst 0, 1) := by decide +kernel
theorem dX8_smallestCut_65 : decode cX8_smallestCut 65 = .ok (.invokevirtual 204, 3) := by decide +kernel
theorem dX8_smallestCut_68 : decode cX8_smallestCut 68 = .ok (.baload, 1) := by decide +kernel
theorem dX8_smallestCut_69 : decode cX8_smallestCut 69 = .ok (.ifCond .eq 25, 3) := by decide +kernel
theorem dX8_smallestCut_72 : decode cX8_smallestCut 72 = .ok (.aload_n 0, 1) := by decide +kernel
theorem dX8_smallestCut_73 : decode cX8_smallestCut 73 = .ok (.getfield 53, 3) := by decide +kernel
theorem dX8_smallestCut_76 : decode cX8_smallestCut 76 = .ok (.aload_n 0, 1) := by decide +kernel
theorem dX8_smallestCut_77 : decode cX8_smallestCut 77 = .ok (.iload 5, 2) := by decide +kernel
theorem dX8_smallestCut_79 : decode cX8_smallestCut 79 = .ok (.iconst 1, 1) := by decide +kernel
theorem dX8_smallestCut_80 : decode cX8_smallestCut 80 = .ok (.invokevirtual 204, 3) := by decide +kernel
theorem dX8_smallestCut_83 : decode cX8_smallestCut 83 = .ok (.baload, 1) := by decide +kernel
theorem dX8_smallestCut_84 : decode cX8_smallestCut 84 = .ok (.ifCond .ne 10, 3) := by decide +kernel
theorem dX8_smallestCut_87 : decode cX8_smallestCut 87 = .ok (.iconst 1, 1) := by decide +kernel
theorem dX8_smallestCut_88 : decode cX8_smallestCut 88 = .ok (.iload 5, 2) := by decide +kernel
theorem dX8_smallestCut_90 : decode cX8_smallestCut 90 = .ok (.ishl, 1) := by decide +kernel
theorem dX8_smallestCut_91 : decode cX8_smallestCut 91 = .ok (.goto 4, 3) := by decide +kernel
theorem dX8_smallestCut_94 : decode cX8_smallestCut 94 = .ok (.iconst 0, 1) := by decide +kernel
theorem dX8_smallestCut_95 : decode cX8_smallestCut 95 = .ok (.ior, 1) := by decide +kernel
theorem dX8_smallestCut_96 : decode cX8_smallestCut 96 = .ok (.istore 4, 2) := by decide +kernel
theorem dX8_smallestCut_98 : decode cX8_smallestCut 98 = .ok (.iinc 5 1, 3) := by decide +kernel
theorem dX8_smallestCut_101 : decode cX8_smallestCut 101 = .ok (.goto (-73), 3) := by decide +kernel
theorem dX8_smallestCut_104 : decode cX8_smallestCut 104 = .ok (.iload 4, 2) := by decide +kernel
theorem dX8_smallestCut_106 : decode cX8_smallestCut 106 = .ok (.ireturn, 1) := by decide +kernel
theorem dX8_disjointPaths_0 : decode cX8_disjointPaths 0 = .ok (.aload_n 0, 1) := by decide +kernel
theorem dX8_disjointPaths_1 : decode cX8_disjointPaths 1 = .ok (.iload_n 1, 1) := by decide +kernel
theorem dX8_disjointPaths_2 : decode cX8_disjointPaths 2 = .ok (.iload_n 2, 1) := by decide +kernel
theorem dX8_disjointPaths_3 : decode cX8_disjointPaths 3 = .ok (.iload_n 3, 1) := by decide +kernel
theorem dX8_disjointPaths_4 : decode cX8_disjointPaths 4 = .ok (.invokevirtual 362, 3) := by decide +kernel
theorem dX8_disjointPaths_7 : decode cX8_disjointPaths 7 = .ok (.ifCond .eq 5, 3) := by decide +kernel
theorem dX8_disjointPaths_10 : decode cX8_disjointPaths 10 = .ok (.iconst 0, 1) := by decide +kernel
theorem dX8_disjointPaths_11 : decode cX8_disjointPaths 11 = .ok (.ireturn, 1) := by decide +kernel
theorem dX8_disjointPaths_12 : decode cX8_disjointPaths 12 = .ok (.aload_n 0, 1) := by decide +kernel
theorem dX8_disjointPaths_13 : decode cX8_disjointPaths 13 = .ok (.iload_n 3, 1) := by decide +kernel
theorem dX8_disjointPaths_14 : decode cX8_disjointPaths 14 = .ok (.invokevirtual 365, 3) := by decide +kernel
theorem dX8_disjointPaths_17 : decode cX8_disjointPaths 17 = .ok (.istore 4, 2) := by decide +kernel
theorem dX8_disjointPaths_19 : decode cX8_disjointPaths 19 = .ok (.iconst 0, 1) := by decide +kernel
theorem dX8_disjointPaths_20 : decode cX8_disjointPaths 20 = .ok (.istore 5, 2) := by decide +kernel
theorem dX8_disjointPaths_22 : decode cX8_disjointPaths 22 = .ok (.iload 5, 2) := by decide +kernel
theorem dX8_disjointPaths_24 : decode cX8_disjointPaths 24 = .ok (.aload_n 0, 1) := by decide +kernel
theorem dX8_disjointPaths_25 : decode cX8_disjointPaths 25 = .ok (.getfield 9, 3) := by decide +kernel
theorem dX8_disjointPaths_28 : decode cX8_disjointPaths 28 = .ok (.bipush 7, 2) := by decide +kernel
theorem dX8_disjointPaths_30 : decode cX8_disjointPaths 30 = .ok (.iaload, 1) := by decide +kernel
theorem dX8_disjointPaths_31 : decode cX8_disjointPaths 31 = .ok (.if_icmp .ge 31, 3) := by decide +kernel
theorem dX8_disjointPaths_34 : decode cX8_disjointPaths 34 = .ok (.aload_n 0, 1) := by decide +kernel
theorem dX8_disjointPaths_35 : decode cX8_disjointPaths 35 = .ok (.getfield 41, 3) := by decide +kernel
theorem dX8_disjointPaths_38 : decode cX8_disjointPaths 38 = .ok (.iload 5, 2) := by decide +kernel
theorem dX8_disjointPaths_40 : decode cX8_disjointPaths 40 = .ok (.iload 4, 2) := by decide +kernel
theorem dX8_disjointPaths_42 : decode cX8_disjointPaths 42 = .ok (.iload 5, 2) := by decide +kernel
theorem dX8_disjointPaths_44 : decode cX8_disjointPaths 44 = .ok (.invokestatic 213, 3) := by decide +kernel
theorem dX8_disjointPaths_47 : decode cX8_disjointPaths 47 = .ok (.ifCond .eq 7, 3) := by decide +kernel
theorem dX8_disjointPaths_50 : decode cX8_disjointPaths 50 = .ok (.iconst 1, 1) := by decide +kernel
theorem dX8_disjointPaths_51 : decode cX8_disjointPaths 51 = .ok (.goto 4, 3) := by decide +kernel
theorem dX8_disjointPaths_54 : decode cX8_disjointPaths 54 = .ok (.iconst 0, 1) := by decide +kernel
theorem dX8_disjointPaths_55 : decode cX8_disjointPaths 55 = .ok (.iastore, 1) := by decide +kernel
theorem dX8_disjointPaths_56 : decode cX8_disjointPaths 56 = .ok (.iinc 5 1, 3) := by decide +kernel
theorem dX8_disjointPaths_59 : decode cX8_disjointPaths 59 = .ok (.goto (-37), 3) := by decide +kernel
theorem dX8_disjointPaths_62 : decode cX8_disjointPaths 62 = .ok (.aload_n 0, 1) := by decide +kernel
theorem dX8_disjointPaths_63 : decode cX8_disjointPaths 63 = .ok (.iload_n 1, 1) := by decide +kernel
theorem dX8_disjointPaths_64 : decode cX8_disjointPaths 64 = .ok (.iload_n 2, 1) := by decide +kernel
theorem dX8_disjointPaths_65 : decode cX8_disjointPaths 65 = .ok (.invokevirtual 386, 3) := by decide +kernel
theorem dX8_disjointPaths_68 : decode cX8_disjointPaths 68 = .ok (.ireturn, 1) := by decide +kernel
theorem dX8_reachable_0 : decode cX8_reachable 0 = .ok (.aload_n 0, 1) := by decide +kernel
theorem dX8_reachable_1 : decode cX8_reachable 1 = .ok (.iconst 0, 1) := by decide +kernel
theorem dX8_reachable_2 : decode cX8_reachable 2 = .ok (.putfield 60, 3) := by decide +kernel
theorem dX8_reachable_5 : decode cX8_reachable 5 = .ok (.aload_n 0, 1) := by decide +kernel
theorem dX8_reachable_6 : decode cX8_reachable 6 = .ok (.aload_n 0, 1) := by decide +kernel
theorem dX8_reachable_7 : decode cX8_reachable 7 = .ok (.iload_n 1, 1) := by decide +kernel
theorem dX8_reachable_8 : decode cX8_reachable 8 = .ok (.invokevirtual 312, 3) := by decide +kernel
theorem dX8_reachable_11 : decode cX8_reachable 11 = .ok (.ifCond .ne 7, 3) := by decide +kernel
theorem dX8_reachable_14 : decode cX8_reachable 14 = .ok (.iconst 1, 1) := by decide +kernel
theorem dX8_reachable_15 : decode cX8_reachable 15 = .ok (.goto 4, 3) := by decide +kernel
theorem dX8_reachable_18 : decode cX8_reachable 18 = .ok (.iconst 0, 1) := by decide +kernel
theorem dX8_reachable_19 : decode cX8_reachable 19 = .ok (.iconst 1, 1) := by decide +kernel
theorem dX8_reachable_20 : decode cX8_reachable 20 = .ok (.invokevirtual 301, 3) := by decide +kernel
theorem dX8_reachable_23 : decode cX8_reachable 23 = .ok (.ifCond .ne 28, 3) := by decide +kernel
theorem dX8_reachable_26 : decode cX8_reachable 26 = .ok (.aload_n 0, 1) := by decide +kernel
theorem dX8_reachable_27 : decode cX8_reachable 27 = .ok (.iload_n 2, 1) := by decide +kernel
theorem dX8_reachable_28 : decode cX8_reachable 28 = .ok (.i2l, 1) := by decide +kernel
theorem dX8_reachable_29 : decode cX8_reachable 29 = .ok (.lconst 0, 1) := by decide +kernel
theorem dX8_reachable_30 : decode cX8_reachable 30 = .ok (.ldc2_w 299, 3) := by decide +kernel
theorem dX8_reachable_33 : decode cX8_reachable 33 = .ok (.invokestatic 80, 3) := by decide +kernel
theorem dX8_reachable_36 : decode cX8_reachable 36 = .ok (.ifCond .ne 7, 3) := by decide +kernel
theorem dX8_reachable_39 : decode cX8_reachable 39 = .ok (.iconst 1, 1) := by decide +kernel
theorem dX8_reachable_40 : decode cX8_reachable 40 = .ok (.goto 4, 3) := by decide +kernel
theorem dX8_reachable_43 : decode cX8_reachable 43 = .ok (.iconst 0, 1) := by decide +kernel
theorem dX8_reachable_44 : decode cX8_reachable 44 = .ok (.iconst 2, 1) := by decide +kernel
theorem dX8_reachable_45 : decode cX8_reachable 45 = .ok (.invokevirtual 301, 3) := by decide +kernel
theorem dX8_reachable_48 : decode cX8_reachable 48 = .ok (.ifCond .eq 5, 3) := by decide +kernel
theorem dX8_reachable_51 : decode cX8_reachable 51 = .ok (.iconst 0, 1) := by decide +kernel
theorem dX8_reachable_52 : decode cX8_reachable 52 = .ok (.ireturn, 1) := by decide +kernel
theorem dX8_reachable_53 : decode cX8_reachable 53 = .ok (.aload_n 0, 1) := by decide +kernel
theorem dX8_reachable_54 : decode cX8_reachable 54 = .ok (.iload_n 2, 1) := by decide +kernel
theorem dX8_reachable_55 : decode cX8_reachable 55 = .ok (.invokevirtual 365, 3) := by decide +kernel
theorem dX8_reachable_58 : decode cX8_reachable 58 = .ok (.istore_n 3, 1) := by decide +kernel
theorem dX8_reachable_59 : decode cX8_reachable 59 = .ok (.iconst 1, 1) := by decide +kernel
theorem dX8_reachable_60 : decode cX8_reachable 60 = .ok (.iload_n 1, 1) := by decide +kernel
theorem dX8_reachable_61 : decode cX8_reachable 61 = .ok (.ishl, 1) := by decide +kernel
theorem dX8_reachable_62 : decode cX8_reachable 62 = .ok (.istore 4, 2) := by decide +kernel
theorem dX8_reachable_64 : decode cX8_reachable 64 = .ok (.iconst 0, 1) := by decide +kernel
theorem dX8_reachable_65 : decode cX8_reachable 65 = .ok (.istore 5, 2) := by decide +kernel
theorem dX8_reachable_67 : decode cX8_reachable 67 = .ok (.iload 5, 2) := by decide +kernel
theorem dX8_reachable_69 : decode cX8_reachable 69 = .ok (.aload_n 0, 1) := by decide +kernel
theorem dX8_reachable_70 : decode cX8_reachable 70 = .ok (.getfield 9, 3) := by decide +kernel
theorem dX8_reachable_73 : decode cX8_reachable 73 = .ok (.bipush 6, 2) := by decide +kernel
theorem dX8_reachable_75 : decode cX8_reachable 75 = .ok (.iaload, 1) := by decide +kernel
theorem dX8_reachable_76 : decode cX8_reachable 76 = .ok (.if_icmp .ge 72, 3) := by decide +kernel
theorem dX8_reachable_79 : decode cX8_reachable 79 = .ok (.iconst 0, 1) := by decide +kernel
theorem dX8_reachable_80 : decode cX8_reachable 80 = .ok (.istore 6, 2) := by decide +kernel
theorem dX8_reachable_82 : decode cX8_reachable 82 = .ok (.iload 6, 2) := by decide +kernel
theorem dX8_reachable_84 : decode cX8_reachable 84 = .ok (.aload_n 0, 1) := by decide +kernel
theorem dX8_reachable_85 : decode cX8_reachable 85 = .ok (.getfield 9, 3) := by decide +kernel
theorem dX8_reachable_88 : decode cX8_reachable 88 = .ok (.bipush 7, 2) := by decide +kernel
theorem dX8_reachable_90 : decode cX8_reachable 90 = .ok (.iaload, 1) := by decide +kernel
theorem dX8_reachable_91 : decode cX8_reachable 91 = .ok (.if_icmp .ge 51, 3) := by decide +kernel
theorem dX8_reachable_94 : decode cX8_reachable 94 = .ok (.iload 4, 2) := by decide +kernel
theorem dX8_reachable_96 : decode cX8_reachable 96 = .ok (.iload_n 3, 1) := by decide +kernel
theorem dX8_reachable_97 : decode cX8_reachable 97 = .ok (.iload 6, 2) := by decide +kernel
theorem dX8_reachable_99 : decode cX8_reachable 99 = .ok (.invokestatic 213, 3) := by decide +kernel
theorem dX8_reachable_102 : decode cX8_reachable 102 = .ok (.ifCond .eq 30, 3) := by decide +kernel
theorem dX8_reachable_105 : decode cX8_reachable 105 = .ok (.iload 4, 2) := by decide +kernel
theorem dX8_reachable_107 : decode cX8_reachable 107 = .ok (.aload_n 0, 1) := by decide +kernel
theorem dX8_reachable_108 : decode cX8_reachable 108 = .ok (.iload 6, 2) := by decide +kernel
theorem dX8_reachable_110 : decode cX8_reachable 110 = .ok (.iconst 0, 1) := by decide +kernel
theorem dX8_reachable_111 : decode cX8_reachable 111 = .ok (.invokevirtual 204, 3) := by decide +kernel
theorem dX8_reachable_114 : decode cX8_reachable 114 = .ok (.invokestatic 213, 3) := by decide +kernel
theorem dX8_reachable_117 : decode cX8_reachable 117 = .ok (.ifCond .eq 15, 3) := by decide +kernel
theorem dX8_reachable_120 : decode cX8_reachable 120 = .ok (.iconst 1, 1) := by decide +kernel
theorem dX8_reachable_121 : decode cX8_reachable 121 = .ok (.aload_n 0, 1) := by decide +kernel
theorem dX8_reachable_122 : decode cX8_reachable 122 = .ok (.iload 6, 2) := by decide +kernel
theorem dX8_reachable_124 : decode cX8_reachable 124 = .ok (.iconst 1, 1) := by decide +kernel
theorem dX8_reachable_125 : decode cX8_reachable 125 = .ok (.invokevirtual 204, 3) := by decide +kernel
theorem dX8_reachable_128 : decode cX8_reachable 128 = .ok (.ishl, 1) := by decide +kernel
theorem dX8_reachable_129 : decode cX8_reachable 129 = .ok (.goto 4, 3) := by decide +kernel
theorem dX8_reachable_132 : decode cX8_reachable 132 = .ok (.iconst 0, 1) := by decide +kernel
theorem dX8_reachable_133 : decode cX8_reachable 133 = .ok (.ior, 1) := by decide +kernel
theorem dX8_reachable_134 : decode cX8_reachable 134 = .ok (.istore 4, 2) := by decide +kernel
theorem dX8_reachable_136 : decode cX8_reachable 136 = .ok (.iinc 6 1, 3) := by decide +kernel
theorem dX8_reachable_139 : decode cX8_reachable 139 = .ok (.goto (-57), 3) := by decide +kernel
theorem dX8_reachable_142 : decode cX8_reachable 142 = .ok (.iinc 5 1, 3) := by decide +kernel
theorem dX8_reachable_145 : decode cX8_reachable 145 = .ok (.goto (-78), 3) := by decide +kernel
theorem dX8_reachable_148 : decode cX8_reachable 148 = .ok (.iload 4, 2) := by decide +kernel
theorem dX8_reachable_150 : decode cX8_reachable 150 = .ok (.ireturn, 1) := by decide +kernel
theorem dX8_criticalLinks_0 : decode cX8_criticalLinks 0 = .ok (.aload_n 0, 1) := by decide +kernel
theorem dX8_criticalLinks_1 : decode cX8_criticalLinks 1 = .ok (.iload_n 1, 1) := by decide +kernel
theorem dX8_criticalLinks_2 : decode cX8_criticalLinks 2 = .ok (.iload_n 2, 1) := by decide +kernel
theorem dX8_criticalLinks_3 : decode cX8_criticalLinks 3 = .ok (.iload_n 3, 1) := by decide +kernel
theorem dX8_criticalLinks_4 : decode cX8_criticalLinks 4 = .ok (.invokevirtual 362, 3) := by decide +kernel
theorem dX8_criticalLinks_7 : decode cX8_criticalLinks 7 = .ok (.ifCond .eq 5, 3) := by decide +kernel
theorem dX8_criticalLinks_10 : decode cX8_criticalLinks 10 = .ok (.iconst 0, 1) := by decide +kernel
theorem dX8_criticalLinks_11 : decode cX8_criticalLinks 11 = .ok (.ireturn, 1) := by decide +kernel
theorem dX8_criticalLinks_12 : decode cX8_criticalLinks 12 = .ok (.aload_n 0, 1) := by decide +kernel
theorem dX8_criticalLinks_13 : decode cX8_criticalLinks 13 = .ok (.iload_n 3, 1) := by decide +kernel
theorem dX8_criticalLinks_14 : decode cX8_criticalLinks 14 = .ok (.invokevirtual 365, 3) := by decide +kernel
theorem dX8_criticalLinks_17 : decode cX8_criticalLinks 17 = .ok (.istore 4, 2) := by decide +kernel
theorem dX8_criticalLinks_19 : decode cX8_criticalLinks 19 = .ok (.aload_n 0, 1) := by decide +kernel
theorem dX8_criticalLinks_20 : decode cX8_criticalLinks 20 = .ok (.iload_n 1, 1) := by decide +kernel
theorem dX8_criticalLinks_21 : decode cX8_criticalLinks 21 = .ok (.iload_n 2, 1) := by decide +kernel
theorem dX8_criticalLinks_22 : decode cX8_criticalLinks 22 = .ok (.iload 4, 2) := by decide +kernel
theorem dX8_criticalLinks_24 : decode cX8_criticalLinks 24 = .ok (.invokevirtual 235, 3) := by decide +kernel
theorem dX8_criticalLinks_27 : decode cX8_criticalLinks 27 = .ok (.ifCond .ne 5, 3) := by decide +kernel
theorem dX8_criticalLinks_30 : decode cX8_criticalLinks 30 = .ok (.iconst 0, 1) := by decide +kernel
theorem dX8_criticalLinks_31 : decode cX8_criticalLinks 31 = .ok (.ireturn, 1) := by decide +kernel
theorem dX8_criticalLinks_32 : decode cX8_criticalLinks 32 = .ok (.iconst 0, 1) := by decide +kernel
theorem dX8_criticalLinks_33 : decode cX8_criticalLinks 33 = .ok (.istore 5, 2) := by decide +kernel
theorem dX8_criticalLinks_35 : decode cX8_criticalLinks 35 = .ok (.iconst 0, 1) := by decide +kernel
theorem dX8_criticalLinks_36 : decode cX8_criticalLinks 36 = .ok (.istore 6, 2) := by decide +kernel
theorem dX8_criticalLinks_38 : decode cX8_criticalLinks 38 = .ok (.iload 6, 2) := by decide +kernel
theorem dX8_criticalLinks_40 : decode cX8_criticalLinks 40 = .ok (.aload_n 0, 1) := by decide +kernel
theorem dX8_criticalLinks_41 : decode cX8_criticalLinks 41 = .ok (.getfield 9, 3) := by decide +kernel
theorem dX8_criticalLinks_44 : decode cX8_criticalLinks 44 = .ok (.bipush 7, 2) := by decide +kernel
theorem dX8_criticalLinks_46 : decode cX8_criticalLinks 46 = .ok (.iaload, 1) := by decide +kernel
theorem dX8_criticalLinks_47 : decode cX8_criticalLinks 47 = .ok (.if_icmp .ge 50, 3) := by decide +kernel
theorem dX8_criticalLinks_50 : decode cX8_criticalLinks 50 = .ok (.iload 5, 2) := by decide +kernel
theorem dX8_criticalLinks_52 : decode cX8_criticalLinks 52 = .ok (.iload 4, 2) := by decide +kernel
theorem dX8_criticalLinks_54 : decode cX8_criticalLinks 54 = .ok (.iload 6, 2) := by decide +kernel
theorem dX8_criticalLinks_56 : decode cX8_criticalLinks 56 = .ok (.invokestatic 213, 3) := by decide +kernel
theorem dX8_criticalLinks_59 : decode cX8_criticalLinks 59 = .ok (.ifCond .eq 28, 3) := by decide +kernel
theorem dX8_criticalLinks_62 : decode cX8_criticalLinks 62 = .ok (.aload_n 0, 1) := by decide +kernel
theorem dX8_criticalLinks_63 : decode cX8_criticalLinks 63 = .ok (.iload_n 1, 1) := by decide +kernel
theorem dX8_criticalLinks_64 : decode cX8_criticalLinks 64 = .ok (.iload_n 2, 1) := by decide +kernel
theorem dX8_criticalLinks_65 : decode cX8_criticalLinks 65 = .ok (.iload 4, 2) := by decide +kernel
theorem dX8_criticalLinks_67 : decode cX8_criticalLinks 67 = .ok (.iconst 1, 1) := by decide +kernel
theorem dX8_criticalLinks_68 : decode cX8_criticalLinks 68 = .ok (.iload 6, 2) := by decide +kernel
theorem dX8_criticalLinks_70 : decode cX8_criticalLinks 70 = .ok (.ishl, 1) := by decide +kernel
theorem dX8_criticalLinks_71 : decode cX8_criticalLinks 71 = .ok (.iconst (-1), 1) := by decide +kernel
theorem dX8_criticalLinks_72 : decode cX8_criticalLinks 72 = .ok (.ixor, 1) := by decide +kernel
theorem dX8_criticalLinks_73 : decode cX8_criticalLinks 73 = .ok (.iand, 1) := by decide +kernel
theorem dX8_criticalLinks_74 : decode cX8_criticalLinks 74 = .ok (.invokevirtual 235, 3) := by decide +kernel
theorem dX8_criticalLinks_77 : decode cX8_criticalLinks 77 = .ok (.ifCond .ne 10, 3) := by decide +kernel
theorem dX8_criticalLinks_80 : decode cX8_criticalLinks 80 = .ok (.iconst 1, 1) := by decide +kernel
theorem dX8_criticalLinks_81 : decode cX8_criticalLinks 81 = .ok (.iload 6, 2) := by decide +kernel
theorem dX8_criticalLinks_83 : decode cX8_criticalLinks 83 = .ok (.ishl, 1) := by decide +kernel
theorem dX8_criticalLinks_84 : decode cX8_criticalLinks 84 = .ok (.goto 4, 3) := by decide +kernel
theorem dX8_criticalLinks_87 : decode cX8_criticalLinks 87 = .ok (.iconst 0, 1) := by decide +kernel
theorem dX8_criticalLinks_88 : decode cX8_criticalLinks 88 = .ok (.ior, 1) := by decide +kernel
theorem dX8_criticalLinks_89 : decode cX8_criticalLinks 89 = .ok (.istore 5, 2) := by decide +kernel
theorem dX8_criticalLinks_91 : decode cX8_criticalLinks 91 = .ok (.iinc 6 1, 3) := by decide +kernel
theorem dX8_criticalLinks_94 : decode cX8_criticalLinks 94 = .ok (.goto (-56), 3) := by decide +kernel
theorem dX8_criticalLinks_97 : decode cX8_criticalLinks 97 = .ok (.iload 5, 2) := by decide +kernel
theorem dX8_criticalLinks_99 : decode cX8_criticalLinks 99 = .ok (.ireturn, 1) := by decide +kernel
theorem dX8_untilActive_0 : decode cX8_untilActive 0 = .ok (.iconst 0, 1) := by decide +kernel
theorem dX8_untilActive_1 : decode cX8_untilActive 1 = .ok (.istore_n 2, 1) := by decide +kernel
theorem dX8_untilActive_2 : decode cX8_untilActive 2 = .ok (.aload_n 0, 1) := by decide +kernel
theorem dX8_untilActive_3 : decode cX8_untilActive 3 = .ok (.iload_n 1, 1) := by decide +kernel
theorem dX8_untilActive_4 : decode cX8_untilActive 4 = .ok (.iconst 4, 1) := by decide +kernel
theorem dX8_untilActive_5 : decode cX8_untilActive 5 = .ok (.invokevirtual 229, 3) := by decide +kernel
theorem dX8_untilActive_8 : decode cX8_untilActive 8 = .ok (.iconst 2, 1) := by decide +kernel
theorem dX8_untilActive_9 : decode cX8_untilActive 9 = .ok (.if_icmp .eq 40, 3) := by decide +kernel
theorem dX8_untilActive_12 : decode cX8_untilActive 12 = .ok (.iload_n 2, 1) := by decide +kernel
theorem dX8_untilActive_13 : decode cX8_untilActive 13 = .ok (.sipush 2000, 3) := by decide +kernel
theorem dX8_untilActive_16 : decode cX8_untilActive 16 = .ok (.if_icmp .gt 33, 3) := by decide +kernel
theorem dX8_untilActive_19 : decode cX8_untilActive 19 = .ok (.aload_n 0, 1) := by decide +kernel
theorem dX8_untilActive_20 : decode cX8_untilActive 20 = .ok (.invokevirtual 287, 3) := by decide +kernel
theorem dX8_untilActive_23 : decode cX8_untilActive 23 = .ok (.iconst (-1), 1) := by decide +kernel
theorem dX8_untilActive_24 : decode cX8_untilActive 24 = .ok (.if_icmp .eq 25, 3) := by decide +kernel
theorem dX8_untilActive_27 : decode cX8_untilActive 27 = .ok (.iload_n 2, 1) := by decide +kernel
theorem dX8_untilActive_28 : decode cX8_untilActive 28 = .ok (.aload_n 0, 1) := by decide +kernel
theorem dX8_untilActive_29 : decode cX8_untilActive 29 = .ok (.sipush 2000, 3) := by decide +kernel
theorem dX8_untilActive_32 : decode cX8_untilActive 32 = .ok (.iload_n 2, 1) := by decide +kernel
theorem dX8_untilActive_33 : decode cX8_untilActive 33 = .ok (.isub, 1) := by decide +kernel
theorem dX8_untilActive_34 : decode cX8_untilActive 34 = .ok (.invokevirtual 293, 3) := by decide +kernel
theorem dX8_untilActive_37 : decode cX8_untilActive 37 = .ok (.iadd, 1) := by decide +kernel
theorem dX8_untilActive_38 : decode cX8_untilActive 38 = .ok (.istore_n 2, 1) := by decide +kernel
theorem dX8_untilActive_39 : decode cX8_untilActive 39 = .ok (.aload_n 0, 1) := by decide +kernel
theorem dX8_untilActive_40 : decode cX8_untilActive 40 = .ok (.invokevirtual 296, 3) := by decide +kernel
theorem dX8_untilActive_43 : decode cX8_untilActive 43 = .ok (.iinc 2 1, 3) := by decide +kernel
theorem dX8_untilActive_46 : decode cX8_untilActive 46 = .ok (.goto (-44), 3) := by decide +kernel
theorem dX8_untilActive_49 : decode cX8_untilActive 49 = .ok (.aload_n 0, 1) := by decide +kernel
theorem dX8_untilActive_50 : decode cX8_untilActive 50 = .ok (.iload_n 1, 1) := by decide +kernel
theorem dX8_untilActive_51 : decode cX8_untilActive 51 = .ok (.iconst 4, 1) := by decide +kernel
theorem dX8_untilActive_52 : decode cX8_untilActive 52 = .ok (.invokevirtual 229, 3) := by decide +kernel
theorem dX8_untilActive_55 : decode cX8_untilActive 55 = .ok (.iconst 2, 1) := by decide +kernel
theorem dX8_untilActive_56 : decode cX8_untilActive 56 = .ok (.if_icmp .ne 10, 3) := by decide +kernel
theorem dX8_untilActive_59 : decode cX8_untilActive 59 = .ok (.iload_n 2, 1) := by decide +kernel
theorem dX8_untilActive_60 : decode cX8_untilActive 60 = .ok (.sipush 2000, 3) := by decide +kernel
theorem dX8_untilActive_63 : decode cX8_untilActive 63 = .ok (.if_icmp .le 7, 3) := by decide +kernel
theorem dX8_untilActive_66 : decode cX8_untilActive 66 = .ok (.iconst (-1), 1) := by decide +kernel
theorem dX8_untilActive_67 : decode cX8_untilActive 67 = .ok (.goto 4, 3) := by decide +kernel
theorem dX8_untilActive_70 : decode cX8_untilActive 70 = .ok (.iload_n 2, 1) := by decide +kernel
theorem dX8_untilActive_71 : decode cX8_untilActive 71 = .ok (.ireturn, 1) := by decide +kernel
theorem dX8_ticksUntilActive_0 : decode cX8_ticksUntilActive 0 = .ok (.aload_n 0, 1) := by decide +kernel
theorem dX8_ticksUntilActive_1 : decode cX8_ticksUntilActive 1 = .ok (.iload_n 1, 1) := by decide +kernel
theorem dX8_ticksUntilActive_2 : decode cX8_ticksUntilActive 2 = .ok (.invokevirtual 346, 3) := by decide +kernel
theorem dX8_ticksUntilActive_5 : decode cX8_ticksUntilActive 5 = .ok (.ifCond .eq 5, 3) := by decide +kernel
theorem dX8_ticksUntilActive_8 : decode cX8_ticksUntilActive 8 = .ok (.iconst 0, 1) := by decide +kernel
theorem dX8_ticksUntilActive_9 : decode cX8_ticksUntilActive 9 = .ok (.ireturn, 1) := by decide +kernel
theorem dX8_ticksUntilActive_10 : decode cX8_ticksUntilActive 10 = .ok (.aload_n 0, 1) := by decide +kernel
theorem dX8_ticksUntilActive_11 : decode cX8_ticksUntilActive 11 = .ok (.getfield 9, 3) := by decide +kernel
theorem dX8_ticksUntilActive_14 : decode cX8_ticksUntilActive 14 = .ok (.aload_n 0, 1) := by decide +kernel
theorem dX8_ticksUntilActive_15 : decode cX8_ticksUntilActive 15 = .ok (.getfield 13, 3) := by decide +kernel
theorem dX8_ticksUntilActive_18 : decode cX8_ticksUntilActive 18 = .ok (.invokestatic 193, 3) := by decide +kernel
theorem dX8_ticksUntilActive_21 : decode cX8_ticksUntilActive 21 = .ok (.aload_n 0, 1) := by decide +kernel
theorem dX8_ticksUntilActive_22 : decode cX8_ticksUntilActive 22 = .ok (.iload_n 1, 1) := by decide +kernel
theorem dX8_ticksUntilActive_23 : decode cX8_ticksUntilActive 23 = .ok (.invokevirtual 389, 3) := by decide +kernel
theorem dX8_ticksUntilActive_26 : decode cX8_ticksUntilActive 26 = .ok (.istore_n 2, 1) := by decide +kernel
theorem dX8_ticksUntilActive_27 : decode cX8_ticksUntilActive 27 = .ok (.aload_n 0, 1) := by decide +kernel
theorem dX8_ticksUntilActive_28 : decode cX8_ticksUntilActive 28 = .ok (.getfield 13, 3) := by decide +kernel
theorem dX8_ticksUntilActive_31 : decode cX8_ticksUntilActive 31 = .ok (.aload_n 0, 1) := by decide +kernel
theorem dX8_ticksUntilActive_32 : decode cX8_ticksUntilActive 32 = .ok (.getfield 9, 3) := by decide +kernel
theorem dX8_ticksUntilActive_35 : decode cX8_ticksUntilActive 35 = .ok (.invokestatic 193, 3) := by decide +kernel
theorem dX8_ticksUntilActive_38 : decode cX8_ticksUntilActive 38 = .ok (.iload_n 2, 1) := by decide +kernel
theorem dX8_ticksUntilActive_39 : decode cX8_ticksUntilActive 39 = .ok (.ireturn, 1) := by decide +kernel
theorem dX8_forNew_0 : decode cX8_forNew 0 = .ok (.aload_n 0, 1) := by decide +kernel
theorem dX8_forNew_1 : decode cX8_forNew 1 = .ok (.getfield 9, 3) := by decide +kernel
theorem dX8_forNew_4 : decode cX8_forNew 4 = .ok (.aload_n 0, 1) := by decide +kernel
theorem dX8_forNew_5 : decode cX8_forNew 5 = .ok (.getfield 13, 3) := by decide +kernel
theorem dX8_forNew_8 : decode cX8_forNew 8 = .ok (.invokestatic 193, 3) := by decide +kernel
theorem dX8_forNew_11 : decode cX8_forNew 11 = .ok (.aload_n 0, 1) := by decide +kernel
theorem dX8_forNew_12 : decode cX8_forNew 12 = .ok (.aload_n 0, 1) := by decide +kernel
theorem dX8_forNew_13 : decode cX8_forNew 13 = .ok (.iload_n 1, 1) := by decide +kernel
theorem dX8_forNew_14 : decode cX8_forNew 14 = .ok (.iload_n 2, 1) := by decide +kernel
theorem dX8_forNew_15 : decode cX8_forNew 15 = .ok (.iload_n 3, 1) := by decide +kernel
theorem dX8_forNew_16 : decode cX8_forNew 16 = .ok (.iconst 1, 1) := by decide +kernel
theorem dX8_forNew_17 : decode cX8_forNew 17 = .ok (.invokevirtual 342, 3) := by decide +kernel
theorem dX8_forNew_20 : decode cX8_forNew 20 = .ok (.invokevirtual 389, 3) := by decide +kernel
theorem dX8_forNew_23 : decode cX8_forNew 23 = .ok (.istore 4, 2) := by decide +kernel
theorem dX8_forNew_25 : decode cX8_forNew 25 = .ok (.aload_n 0, 1) := by decide +kernel
theorem dX8_forNew_26 : decode cX8_forNew 26 = .ok (.getfield 13, 3) := by decide +kernel
theorem dX8_forNew_29 : decode cX8_forNew 29 = .ok (.aload_n 0, 1) := by decide +kernel
theorem dX8_forNew_30 : decode cX8_forNew 30 = .ok (.getfield 9, 3) := by decide +kernel
theorem dX8_forNew_33 : decode cX8_forNew 33 = .ok (.invokestatic 193, 3) := by decide +kernel
theorem dX8_forNew_36 : decode cX8_forNew 36 = .ok (.iload 4, 2) := by decide +kernel
theorem dX8_forNew_38 : decode cX8_forNew 38 = .ok (.ireturn, 1) := by decide +kernel
theorem dX8_ticksForNew_0 : decode cX8_ticksForNew 0 = .ok (.aload_n 0, 1) := by decide +kernel
theorem dX8_ticksForNew_1 : decode cX8_ticksForNew 1 = .ok (.iload_n 1, 1) := by decide +kernel
theorem dX8_ticksForNew_2 : decode cX8_ticksForNew 2 = .ok (.iload_n 2, 1) := by decide +kernel
theorem dX8_ticksForNew_3 : decode cX8_ticksForNew 3 = .ok (.invokevirtual 337, 3) := by decide +kernel
theorem dX8_ticksForNew_6 : decode cX8_ticksForNew 6 = .ok (.ifCond .ne 28, 3) := by decide +kernel
theorem dX8_ticksForNew_9 : decode cX8_ticksForNew 9 = .ok (.aload_n 0, 1) := by decide +kernel
theorem dX8_ticksForNew_10 : decode cX8_ticksForNew 10 = .ok (.iload_n 3, 1) := by decide +kernel
theorem dX8_ticksForNew_11 : decode cX8_ticksForNew 11 = .ok (.i2l, 1) := by decide +kernel
theorem dX8_ticksForNew_12 : decode cX8_ticksForNew 12 = .ok (.lconst 1, 1) := by decide +kernel
theorem dX8_ticksForNew_13 : decode cX8_ticksForNew 13 = .ok (.ldc2_w 299, 3) := by decide +kernel
theorem dX8_ticksForNew_16 : decode cX8_ticksForNew 16 = .ok (.invokestatic 80, 3) := by decide +kernel
theorem dX8_ticksForNew_19 : decode cX8_ticksForNew 19 = .ok (.ifCond .ne 7, 3) := by decide +kernel
theorem dX8_ticksForNew_22 : decode cX8_ticksForNew 22 = .ok (.iconst 1, 1) := by decide +kernel
theorem dX8_ticksForNew_23 : decode cX8_ticksForNew 23 = .ok (.goto 4, 3) := by decide +kernel
theorem dX8_ticksForNew_26 : decode cX8_ticksForNew 26 = .ok (.iconst 0, 1) := by decide +kernel
theorem dX8_ticksForNew_27 : decode cX8_ticksForNew 27 = .ok (.iconst 2, 1) := by decide +kernel
theorem dX8_ticksForNew_28 : decode cX8_ticksForNew 28 = .ok (.invokevirtual 301, 3) := by decide +kernel
theorem dX8_ticksForNew_31 : decode cX8_ticksForNew 31 = .ok (.ifCond .eq 5, 3) := by decide +kernel
theorem dX8_ticksForNew_34 : decode cX8_ticksForNew 34 = .ok (.iconst 0, 1) := by decide +kernel
theorem dX8_ticksForNew_35 : decode cX8_ticksForNew 35 = .ok (.ireturn, 1) := by decide +kernel
theorem dX8_ticksForNew_36 : decode cX8_ticksForNew 36 = .ok (.aload_n 0, 1) := by decide +kernel
theorem dX8_ticksForNew_37 : decode cX8_ticksForNew 37 = .ok (.getfield 9, 3) := by decide +kernel
theorem dX8_ticksForNew_40 : decode cX8_ticksForNew 40 = .ok (.bipush 8, 2) := by decide +kernel
theorem dX8_ticksForNew_42 : decode cX8_ticksForNew 42 = .ok (.iaload, 1) := by decide +kernel
theorem dX8_ticksForNew_43 : decode cX8_ticksForNew 43 = .ok (.bipush 40, 2) := by decide +kernel
theorem dX8_ticksForNew_45 : decode cX8_ticksForNew 45 = .ok (.if_icmp .ne 8, 3) := by decide +kernel
theorem dX8_ticksForNew_48 : decode cX8_ticksForNew 48 = .ok (.bipush (-2), 2) := by decide +kernel
theorem dX8_ticksForNew_50 : decode cX8_ticksForNew 50 = .ok (.goto 10, 3) := by decide +kernel
theorem dX8_ticksForNew_53 : decode cX8_ticksForNew 53 = .ok (.aload_n 0, 1) := by decide +kernel
theorem dX8_ticksForNew_54 : decode cX8_ticksForNew 54 = .ok (.iload_n 1, 1) := by decide +kernel
theorem dX8_ticksForNew_55 : decode cX8_ticksForNew 55 = .ok (.iload_n 2, 1) := by decide +kernel
theorem dX8_ticksForNew_56 : decode cX8_ticksForNew 56 = .ok (.iload_n 3, 1) := by decide +kernel
theorem dX8_ticksForNew_57 : decode cX8_ticksForNew 57 = .ok (.invokevirtual 392, 3) := by decide +kernel
theorem dX8_ticksForNew_60 : decode cX8_ticksForNew 60 = .ok (.ireturn, 1) := by decide +kernel
theorem dX8_greatestNew_0 : decode cX8_greatestNew 0 = .ok (.aload_n 0, 1) := by decide +kernel
theorem dX8_greatestNew_1 : decode cX8_greatestNew 1 = .ok (.iload_n 1, 1) := by decide +kernel
theorem dX8_greatestNew_2 : decode cX8_greatestNew 2 = .ok (.iload_n 2, 1) := by decide +kernel
theorem dX8_greatestNew_3 : decode cX8_greatestNew 3 = .ok (.invokevirtual 337, 3) := by decide +kernel
theorem dX8_greatestNew_6 : decode cX8_greatestNew 6 = .ok (.ifCond .eq 5, 3) := by decide +kernel
theorem dX8_greatestNew_9 : decode cX8_greatestNew 9 = .ok (.iconst 0, 1) := by decide +kernel
theorem dX8_greatestNew_10 : decode cX8_greatestNew 10 = .ok (.ireturn, 1) := by decide +kernel
theorem dX8_greatestNew_11 : decode cX8_greatestNew 11 = .ok (.aload_n 0, 1) := by decide +kernel
theorem dX8_greatestNew_12 : decode cX8_greatestNew 12 = .ok (.getfield 9, 3) := by decide +kernel
theorem dX8_greatestNew_15 : decode cX8_greatestNew 15 = .ok (.bipush 8, 2) := by decide +kernel
theorem dX8_greatestNew_17 : decode cX8_greatestNew 17 = .ok (.iaload, 1) := by decide +kernel
theorem dX8_greatestNew_18 : decode cX8_greatestNew 18 = .ok (.bipush 40, 2) := by decide +kernel
theorem dX8_greatestNew_20 : decode cX8_greatestNew 20 = .ok (.if_icmp .ne 6, 3) := by decide +kernel
theorem dX8_greatestNew_23 : decode cX8_greatestNew 23 = .ok (.bipush (-2), 2) := by decide +kernel
theorem dX8_greatestNew_25 : decode cX8_greatestNew 25 = .ok (.ireturn, 1) := by decide +kernel
theorem dX8_greatestNew_26 : decode cX8_greatestNew 26 = .ok (.sipush 512, 3) := by decide +kernel
theorem dX8_greatestNew_29 : decode cX8_greatestNew 29 = .ok (.istore_n 3, 1) := by decide +kernel
theorem dX8_greatestNew_30 : decode cX8_greatestNew 30 = .ok (.iload_n 3, 1) := by decide +kernel
theorem dX8_greatestNew_31 : decode cX8_greatestNew 31 = .ok (.ifCond .le 23, 3) := by decide +kernel
theorem dX8_greatestNew_34 : decode cX8_greatestNew 34 = .ok (.aload_n 0, 1) := by decide +kernel
theorem dX8_greatestNew_35 : decode cX8_greatestNew 35 = .ok (.iload_n 1, 1) := by decide +kernel
theorem dX8_greatestNew_36 : decode cX8_greatestNew 36 = .ok (.iload_n 2, 1) := by decide +kernel
theorem dX8_greatestNew_37 : decode cX8_greatestNew 37 = .ok (.iload_n 3, 1) := by decide +kernel
theorem dX8_greatestNew_38 : decode cX8_greatestNew 38 = .ok (.invokevirtual 392, 3) := by decide +kernel
theorem dX8_greatestNew_41 : decode cX8_greatestNew 41 = .ok (.iconst (-1), 1) := by decide +kernel
theorem dX8_greatestNew_42 : decode cX8_greatestNew 42 = .ok (.if_icmp .eq 5, 3) := by decide +kernel
theorem dX8_greatestNew_45 : decode cX8_greatestNew 45 = .ok (.iload_n 3, 1) := by decide +kernel
theorem dX8_greatestNew_46 : decode cX8_greatestNew 46 = .ok (.ireturn, 1) := by decide +kernel
theorem dX8_greatestNew_47 : decode cX8_greatestNew 47 = .ok (.iload_n 3, 1) := by decide +kernel
theorem dX8_greatestNew_48 : decode cX8_greatestNew 48 = .ok (.iconst 2, 1) := by decide +kernel
theorem dX8_greatestNew_49 : decode cX8_greatestNew 49 = .ok (.idiv, 1) := by decide +kernel
theorem dX8_greatestNew_50 : decode cX8_greatestNew 50 = .ok (.istore_n 3, 1) := by decide +kernel
theorem dX8_greatestNew_51 : decode cX8_greatestNew 51 = .ok (.goto (-21), 3) := by decide +kernel
theorem dX8_greatestNew_54 : decode cX8_greatestNew 54 = .ok (.iconst (-1), 1) := by decide +kernel
theorem dX8_greatestNew_55 : decode cX8_greatestNew 55 = .ok (.ireturn, 1) := by decide +kernel
theorem dX8_noTicks_0 : decode cX8_noTicks 0 = .ok (.aload_n 0, 1) := by decide +kernel
theorem dX8_noTicks_1 : decode cX8_noTicks 1 = .ok (.iload_n 1, 1) := by decide +kernel
theorem dX8_noTicks_2 : decode cX8_noTicks 2 = .ok (.i2l, 1) := by decide +kernel
theorem dX8_noTicks_3 : decode cX8_noTicks 3 = .ok (.lconst 0, 1) := by decide +kernel
theorem dX8_noTicks_4 : decode cX8_noTicks 4 = .ok (.ldc2_w 396, 3) := by decide +kernel
theorem dX8_noTicks_7 : decode cX8_noTicks 7 = .ok (.invokestatic 80, 3) := by decide +kernel
theorem dX8_noTicks_10 : decode cX8_noTicks 10 = .ok (.ifCond .ne 7, 3) := by decide +kernel
theorem dX8_noTicks_13 : decode cX8_noTicks 13 = .ok (.iconst 1, 1) := by decide +kernel
theorem dX8_noTicks_14 : decode cX8_noTicks 14 = .ok (.goto 4, 3) := by decide +kernel
theorem dX8_noTicks_17 : decode cX8_noTicks 17 = .ok (.iconst 0, 1) := by decide +kernel
theorem dX8_noTicks_18 : decode cX8_noTicks 18 = .ok (.iload_n 2, 1) := by decide +kernel
theorem dX8_noTicks_19 : decode cX8_noTicks 19 = .ok (.invokevirtual 301, 3) := by decide +kernel
theorem dX8_noTicks_22 : decode cX8_noTicks 22 = .ok (.ireturn, 1) := by decide +kernel
theorem dX8_revenueAfter_0 : decode cX8_revenueAfter 0 = .ok (.aload_n 0, 1) := by decide +kernel
theorem dX8_revenueAfter_1 : decode cX8_revenueAfter 1 = .ok (.iconst 0, 1) := by decide +kernel
theorem dX8_revenueAfter_2 : decode cX8_revenueAfter 2 = .ok (.putfield 60, 3) := by decide +kernel
theorem dX8_revenueAfter_5 : decode cX8_revenueAfter 5 = .ok (.aload_n 0, 1) := by decide +kernel
theorem dX8_revenueAfter_6 : decode cX8_revenueAfter 6 = .ok (.iload_n 1, 1) := by decide +kernel
theorem dX8_revenueAfter_7 : decode cX8_revenueAfter 7 = .ok (.iconst 1, 1) := by decide +kernel
theorem dX8_revenueAfter_8 : decode cX8_revenueAfter 8 = .ok (.invokevirtual 398, 3) := by decide +kernel
theorem dX8_revenueAfter_11 : decode cX8_revenueAfter 11 = .ok (.ifCond .eq 5, 3) := by decide +kernel
theorem dX8_revenueAfter_14 : decode cX8_revenueAfter 14 = .ok (.lconst 0, 1) := by decide +kernel
theorem dX8_revenueAfter_15 : decode cX8_revenueAfter 15 = .ok (.lreturn, 1) := by decide +kernel
theorem dX8_revenueAfter_16 : decode cX8_revenueAfter 16 = .ok (.aload_n 0, 1) := by decide +kernel
theorem dX8_revenueAfter_17 : decode cX8_revenueAfter 17 = .ok (.getfield 9, 3) := by decide +kernel
theorem dX8_revenueAfter_20 : decode cX8_revenueAfter 20 = .ok (.aload_n 0, 1) := by decide +kernel
theorem dX8_revenueAfter_21 : decode cX8_revenueAfter 21 = .ok (.getfield 13, 3) := by decide +kernel
theorem dX8_revenueAfter_24 : decode cX8_revenueAfter 24 = .ok (.invokestatic 193, 3) := by decide +kernel
theorem dX8_revenueAfter_27 : decode cX8_revenueAfter 27 = .ok (.aload_n 0, 1) := by decide +kernel
theorem dX8_revenueAfter_28 : decode cX8_revenueAfter 28 = .ok (.iload_n 1, 1) := by decide +kernel
theorem dX8_revenueAfter_29 : decode cX8_revenueAfter 29 = .ok (.invokevirtual 306, 3) := by decide +kernel
theorem dX8_revenueAfter_32 : decode cX8_revenueAfter 32 = .ok (.aload_n 0, 1) := by decide +kernel
theorem dX8_revenueAfter_33 : decode cX8_revenueAfter 33 = .ok (.bipush 7, 2) := by decide +kernel
theorem dX8_revenueAfter_35 : decode cX8_revenueAfter 35 = .ok (.invokevirtual 358, 3) := by decide +kernel
theorem dX8_revenueAfter_38 : decode cX8_revenueAfter 38 = .ok (.aload_n 0, 1) := by decide +kernel
theorem dX8_revenueAfter_39 : decode cX8_revenueAfter 39 = .ok (.bipush 8, 2) := by decide +kernel
theorem dX8_revenueAfter_41 : decode cX8_revenueAfter 41 = .ok (.invokevirtual 358, 3) := by decide +kernel
theorem dX8_revenueAfter_44 : decode cX8_revenueAfter 44 = .ok (.lsub, 1) := by decide +kernel
theorem dX8_revenueAfter_45 : decode cX8_revenueAfter 45 = .ok (.lstore_n 2, 1) := by decide +kernel
theorem dX8_revenueAfter_46 : decode cX8_revenueAfter 46 = .ok (.aload_n 0, 1) := by decide +kernel
theorem dX8_revenueAfter_47 : decode cX8_revenueAfter 47 = .ok (.getfield 13, 3) := by decide +kernel
theorem dX8_revenueAfter_50 : decode cX8_revenueAfter 50 = .ok (.aload_n 0, 1) := by decide +kernel
theorem dX8_revenueAfter_51 : decode cX8_revenueAfter 51 = .ok (.getfield 9, 3) := by decide +kernel
theorem dX8_revenueAfter_54 : decode cX8_revenueAfter 54 = .ok (.invokestatic 193, 3) := by decide +kernel
theorem dX8_revenueAfter_57 : decode cX8_revenueAfter 57 = .ok (.lload_n 2, 1) := by decide +kernel
theorem dX8_revenueAfter_58 : decode cX8_revenueAfter 58 = .ok (.lreturn, 1) := by decide +kernel
theorem dX8_availableAfter_0 : decode cX8_availableAfter 0 = .ok (.aload_n 0, 1) := by decide +kernel
theorem dX8_availableAfter_1 : decode cX8_availableAfter 1 = .ok (.iload_n 1, 1) := by decide +kernel
theorem dX8_availableAfter_2 : decode cX8_availableAfter 2 = .ok (.invokevirtual 315, 3) := by decide +kernel
theorem dX8_availableAfter_5 : decode cX8_availableAfter 5 = .ok (.ifCond .ne 12, 3) := by decide +kernel
theorem dX8_availableAfter_8 : decode cX8_availableAfter 8 = .ok (.aload_n 0, 1) := by decide +kernel
theorem dX8_availableAfter_9 : decode cX8_availableAfter 9 = .ok (.iload_n 2, 1) := by decide +kernel
theorem dX8_availableAfter_10 : decode cX8_availableAfter 10 = .ok (.iconst 2, 1) := by decide +kernel
theorem dX8_availableAfter_11 : decode cX8_availableAfter 11 = .ok (.invokevirtual 398, 3) := by decide +kernel
theorem dX8_availableAfter_14 : decode cX8_availableAfter 14 = .ok (.ifCond .eq 5, 3) := by decide +kernel
theorem dX8_availableAfter_17 : decode cX8_availableAfter 17 = .ok (.iconst 0, 1) := by decide +kernel
theorem dX8_availableAfter_18 : decode cX8_availableAfter 18 = .ok (.ireturn, 1) := by decide +kernel
theorem dX8_availableAfter_19 : decode cX8_availableAfter 19 = .ok (.aload_n 0, 1) := by decide +kernel
theorem dX8_availableAfter_20 : decode cX8_availableAfter 20 = .ok (.getfield 9, 3) := by decide +kernel
theorem dX8_availableAfter_23 : decode cX8_availableAfter 23 = .ok (.aload_n 0, 1) := by decide +kernel
theorem dX8_availableAfter_24 : decode cX8_availableAfter 24 = .ok (.getfield 13, 3) := by decide +kernel
theorem dX8_availableAfter_27 : decode cX8_availableAfter 27 = .ok (.invokestatic 193, 3) := by decide +kernel
theorem dX8_availableAfter_30 : decode cX8_availableAfter 30 = .ok (.aload_n 0, 1) := by decide +kernel
theorem dX8_availableAfter_31 : decode cX8_availableAfter 31 = .ok (.iload_n 2, 1) := by decide +kernel
theorem dX8_availableAfter_32 : decode cX8_availableAfter 32 = .ok (.invokevirtual 306, 3) := by decide +kernel
theorem dX8_availableAfter_35 : decode cX8_availableAfter 35 = .ok (.aload_n 0, 1) := by decide +kernel
theorem dX8_availableAfter_36 : decode cX8_availableAfter 36 = .ok (.iload_n 1, 1) := by decide +kernel
theorem dX8_availableAfter_37 : decode cX8_availableAfter 37 = .ok (.invokevirtual 209, 3) := by decide +kernel
theorem dX8_availableAfter_40 : decode cX8_availableAfter 40 = .ok (.istore_n 3, 1) := by decide +kernel
theorem dX8_availableAfter_41 : decode cX8_availableAfter 41 = .ok (.aload_n 0, 1) := by decide +kernel
theorem dX8_availableAfter_42 : decode cX8_availableAfter 42 = .ok (.getfield 13, 3) := by decide +kernel
theorem dX8_availableAfter_45 : decode cX8_availableAfter 45 = .ok (.aload_n 0, 1) := by decide +kernel
theorem dX8_availableAfter_46 : decode cX8_availableAfter 46 = .ok (.getfield 9, 3) := by decide +kernel
theorem dX8_availableAfter_49 : decode cX8_availableAfter 49 = .ok (.invokestatic 193, 3) := by decide +kernel
theorem dX8_availableAfter_52 : decode cX8_availableAfter 52 = .ok (.iload_n 3, 1) := by decide +kernel
theorem dX8_availableAfter_53 : decode cX8_availableAfter 53 = .ok (.ireturn, 1) := by decide +kernel
theorem dX8_ticksUntilAvailable_0 : decode cX8_ticksUntilAvailable 0 = .ok (.aload_n 0, 1) := by decide +kernel
theorem dX8_ticksUntilAvailable_1 : decode cX8_ticksUntilAvailable 1 = .ok (.iload_n 1, 1) := by decide +kernel
theorem dX8_ticksUntilAvailable_2 : decode cX8_ticksUntilAvailable 2 = .ok (.invokevirtual 315, 3) := by decide +kernel
theorem dX8_ticksUntilAvailable_5 : decode cX8_ticksUntilAvailable 5 = .ok (.ifCond .ne 28, 3) := by decide +kernel
theorem dX8_ticksUntilAvailable_8 : decode cX8_ticksUntilAvailable 8 = .ok (.aload_n 0, 1) := by decide +kernel
theorem dX8_ticksUntilAvailable_9 : decode cX8_ticksUntilAvailable 9 = .ok (.iload_n 2, 1) := by decide +kernel
theorem dX8_ticksUntilAvailable_10 : decode cX8_ticksUntilAvailable 10 = .ok (.i2l, 1) := by decide +kernel
theorem dX8_ticksUntilAvailable_11 : decode cX8_ticksUntilAvailable 11 = .ok (.lconst 0, 1) := by decide +kernel
theorem dX8_ticksUntilAvailable_12 : decode cX8_ticksUntilAvailable 12 = .ok (.ldc2_w 299, 3) := by decide +kernel
theorem dX8_ticksUntilAvailable_15 : decode cX8_ticksUntilAvailable 15 = .ok (.invokestatic 80, 3) := by decide +kernel
theorem dX8_ticksUntilAvailable_18 : decode cX8_ticksUntilAvailable 18 = .ok (.ifCond .ne 7, 3) := by decide +kernel
theorem dX8_ticksUntilAvailable_21 : decode cX8_ticksUntilAvailable 21 = .ok (.iconst 1, 1) := by decide +kernel
theorem dX8_ticksUntilAvailable_22 : decode cX8_ticksUntilAvailable 22 = .ok (.goto 4, 3) := by decide +kernel
theorem dX8_ticksUntilAvailable_25 : decode cX8_ticksUntilAvailable 25 = .ok (.iconst 0, 1) := by decide +kernel
theorem dX8_ticksUntilAvailable_26 : decode cX8_ticksUntilAvailable 26 = .ok (.iconst 2, 1) := by decide +kernel
theorem dX8_ticksUntilAvailable_27 : decode cX8_ticksUntilAvailable 27 = .ok (.invokevirtual 301, 3) := by decide +kernel
theorem dX8_ticksUntilAvailable_30 : decode cX8_ticksUntilAvailable 30 = .ok (.ifCond .eq 5, 3) := by decide +kernel
theorem dX8_ticksUntilAvailable_33 : decode cX8_ticksUntilAvailable 33 = .ok (.iconst 0, 1) := by decide +kernel
theorem dX8_ticksUntilAvailable_34 : decode cX8_ticksUntilAvailable 34 = .ok (.ireturn, 1) := by decide +kernel
theorem dX8_ticksUntilAvailable_35 : decode cX8_ticksUntilAvailable 35 = .ok (.aload_n 0, 1) := by decide +kernel
theorem dX8_ticksUntilAvailable_36 : decode cX8_ticksUntilAvailable 36 = .ok (.getfield 9, 3) := by decide +kernel
theorem dX8_ticksUntilAvailable_39 : decode cX8_ticksUntilAvailable 39 = .ok (.aload_n 0, 1) := by decide +kernel
theorem dX8_ticksUntilAvailable_40 : decode cX8_ticksUntilAvailable 40 = .ok (.getfield 13, 3) := by decide +kernel
theorem dX8_ticksUntilAvailable_43 : decode cX8_ticksUntilAvailable 43 = .ok (.invokestatic 193, 3) := by decide +kernel
theorem dX8_ticksUntilAvailable_46 : decode cX8_ticksUntilAvailable 46 = .ok (.iconst 0, 1) := by decide +kernel
theorem dX8_ticksUntilAvailable_47 : decode cX8_ticksUntilAvailable 47 = .ok (.istore_n 3, 1) := by decide +kernel
theorem dX8_ticksUntilAvailable_48 : decode cX8_ticksUntilAvailable 48 = .ok (.aload_n 0, 1) := by decide +kernel
theorem dX8_ticksUntilAvailable_49 : decode cX8_ticksUntilAvailable 49 = .ok (.iload_n 1, 1) := by decide +kernel
theorem dX8_ticksUntilAvailable_50 : decode cX8_ticksUntilAvailable 50 = .ok (.invokevirtual 209, 3) := by decide +kernel
theorem dX8_ticksUntilAvailable_53 : decode cX8_ticksUntilAvailable 53 = .ok (.iload_n 2, 1) := by decide +kernel
theorem dX8_ticksUntilAvailable_54 : decode cX8_ticksUntilAvailable 54 = .ok (.if_icmp .ge 32, 3) := by decide +kernel
theorem dX8_ticksUntilAvailable_57 : decode cX8_ticksUntilAvailable 57 = .ok (.iload_n 3, 1) := by decide +kernel
theorem dX8_ticksUntilAvailable_58 : decode cX8_ticksUntilAvailable 58 = .ok (.sipush 2000, 3) := by decide +kernel
theorem dX8_ticksUntilAvailable_61 : decode cX8_ticksUntilAvailable 61 = .ok (.if_icmp .gt 25, 3) := by decide +kernel
theorem dX8_ticksUntilAvailable_64 : decode cX8_ticksUntilAvailable 64 = .ok (.iload_n 3, 1) := by decide +kernel
theorem dX8_ticksUntilAvailable_65 : decode cX8_ticksUntilAvailable 65 = .ok (.aload_n 0, 1) := by decide +kernel
theorem dX8_ticksUntilAvailable_66 : decode cX8_ticksUntilAvailable 66 = .ok (.sipush 2000, 3) := by decide +kernel
theorem dX8_ticksUntilAvailable_69 : decode cX8_ticksUntilAvailable 69 = .ok (.iload_n 3, 1) := by decide +kernel
theorem dX8_ticksUntilAvailable_70 : decode cX8_ticksUntilAvailable 70 = .ok (.isub, 1) := by decide +kernel
theorem dX8_ticksUntilAvailable_71 : decode cX8_ticksUntilAvailable 71 = .ok (.invokevirtual 293, 3) := by decide +kernel
theorem dX8_ticksUntilAvailable_74 : decode cX8_ticksUntilAvailable 74 = .ok (.iadd, 1) := by decide +kernel
theorem dX8_ticksUntilAvailable_75 : decode cX8_ticksUntilAvailable 75 = .ok (.istore_n 3, 1) := by decide +kernel
theorem dX8_ticksUntilAvailable_76 : decode cX8_ticksUntilAvailable 76 = .ok (.aload_n 0, 1) := by decide +kernel
theorem dX8_ticksUntilAvailable_77 : decode cX8_ticksUntilAvailable 77 = .ok (.invokevirtual 296, 3) := by decide +kernel
theorem dX8_ticksUntilAvailable_80 : decode cX8_ticksUntilAvailable 80 = .ok (.iinc 3 1, 3) := by decide +kernel
theorem dX8_ticksUntilAvailable_83 : decode cX8_ticksUntilAvailable 83 = .ok (.goto (-35), 3) := by decide +kernel
theorem dX8_ticksUntilAvailable_86 : decode cX8_ticksUntilAvailable 86 = .ok (.aload_n 0, 1) := by decide +kernel
theorem dX8_ticksUntilAvailable_87 : decode cX8_ticksUntilAvailable 87 = .ok (.getfield 13, 3) := by decide +kernel
theorem dX8_ticksUntilAvailable_90 : decode cX8_ticksUntilAvailable 90 = .ok (.aload_n 0, 1) := by decide +kernel
theorem dX8_ticksUntilAvailable_91 : decode cX8_ticksUntilAvailable 91 = .ok (.getfield 9, 3) := by decide +kernel
theorem dX8_ticksUntilAvailable_94 : decode cX8_ticksUntilAvailable 94 = .ok (.invokestatic 193, 3) := by decide +kernel
theorem dX8_ticksUntilAvailable_97 : decode cX8_ticksUntilAvailable 97 = .ok (.iload_n 3, 1) := by decide +kernel
theorem dX8_ticksUntilAvailable_98 : decode cX8_ticksUntilAvailable 98 = .ok (.sipush 2000, 3) := by decide +kernel
theorem dX8_ticksUntilAvailable_101 : decode cX8_ticksUntilAvailable 101 = .ok (.if_icmp .le 7, 3) := by decide +kernel
theorem dX8_ticksUntilAvailable_104 : decode cX8_ticksUntilAvailable 104 = .ok (.iconst (-1), 1) := by decide +kernel
theorem dX8_ticksUntilAvailable_105 : decode cX8_ticksUntilAvailable 105 = .ok (.goto 4, 3) := by decide +kernel
theorem dX8_ticksUntilAvailable_108 : decode cX8_ticksUntilAvailable 108 = .ok (.iload_n 3, 1) := by decide +kernel
theorem dX8_ticksUntilAvailable_109 : decode cX8_ticksUntilAvailable 109 = .ok (.ireturn, 1) := by decide +kernel
theorem dX8_stateAfter_0 : decode cX8_stateAfter 0 = .ok (.aload_n 0, 1) := by decide +kernel
theorem dX8_stateAfter_1 : decode cX8_stateAfter 1 = .ok (.iload_n 1, 1) := by decide +kernel
theorem dX8_stateAfter_2 : decode cX8_stateAfter 2 = .ok (.invokevirtual 346, 3) := by decide +kernel
theorem dX8_stateAfter_5 : decode cX8_stateAfter 5 = .ok (.ifCond .ne 12, 3) := by decide +kernel
theorem dX8_stateAfter_8 : decode cX8_stateAfter 8 = .ok (.aload_n 0, 1) := by decide +kernel
theorem dX8_stateAfter_9 : decode cX8_stateAfter 9 = .ok (.iload_n 2, 1) := by decide +kernel
theorem dX8_stateAfter_10 : decode cX8_stateAfter 10 = .ok (.iconst 2, 1) := by decide +kernel
theorem dX8_stateAfter_11 : decode cX8_stateAfter 11 = .ok (.invokevirtual 398, 3) := by decide +kernel
theorem dX8_stateAfter_14 : decode cX8_stateAfter 14 = .ok (.ifCond .eq 5, 3) := by decide +kernel
theorem dX8_stateAfter_17 : decode cX8_stateAfter 17 = .ok (.iconst 0, 1) := by decide +kernel
theorem dX8_stateAfter_18 : decode cX8_stateAfter 18 = .ok (.ireturn, 1) := by decide +kernel
theorem dX8_stateAfter_19 : decode cX8_stateAfter 19 = .ok (.aload_n 0, 1) := by decide +kernel
theorem dX8_stateAfter_20 : decode cX8_stateAfter 20 = .ok (.getfield 9, 3) := by decide +kernel
theorem dX8_stateAfter_23 : decode cX8_stateAfter 23 = .ok (.aload_n 0, 1) := by decide +kernel
theorem dX8_stateAfter_24 : decode cX8_stateAfter 24 = .ok (.getfield 13, 3) := by decide +kernel
theorem dX8_stateAfter_27 : decode cX8_stateAfter 27 = .ok (.invokestatic 193, 3) := by decide +kernel
theorem dX8_stateAfter_30 : decode cX8_stateAfter 30 = .ok (.aload_n 0, 1) := by decide +kernel
theorem dX8_stateAfter_31 : decode cX8_stateAfter 31 = .ok (.iload_n 2, 1) := by decide +kernel
theorem dX8_stateAfter_32 : decode cX8_stateAfter 32 = .ok (.invokevirtual 306, 3) := by decide +kernel
theorem dX8_stateAfter_35 : decode cX8_stateAfter 35 = .ok (.aload_n 0, 1) := by decide +kernel
theorem dX8_stateAfter_36 : decode cX8_stateAfter 36 = .ok (.iload_n 1, 1) := by decide +kernel
theorem dX8_stateAfter_37 : decode cX8_stateAfter 37 = .ok (.iconst 4, 1) := by decide +kernel
theorem dX8_stateAfter_38 : decode cX8_stateAfter 38 = .ok (.invokevirtual 229, 3) := by decide +kernel
theorem dX8_stateAfter_41 : decode cX8_stateAfter 41 = .ok (.istore_n 3, 1) := by decide +kernel
theorem dX8_stateAfter_42 : decode cX8_stateAfter 42 = .ok (.aload_n 0, 1) := by decide +kernel
theorem dX8_stateAfter_43 : decode cX8_stateAfter 43 = .ok (.getfield 13, 3) := by decide +kernel
theorem dX8_stateAfter_46 : decode cX8_stateAfter 46 = .ok (.aload_n 0, 1) := by decide +kernel
theorem dX8_stateAfter_47 : decode cX8_stateAfter 47 = .ok (.getfield 9, 3) := by decide +kernel
theorem dX8_stateAfter_50 : decode cX8_stateAfter 50 = .ok (.invokestatic 193, 3) := by decide +kernel
theorem dX8_stateAfter_53 : decode cX8_stateAfter 53 = .ok (.iload_n 3, 1) := by decide +kernel
theorem dX8_stateAfter_54 : decode cX8_stateAfter 54 = .ok (.ireturn, 1) := by decide +kernel
theorem dX8_activeWithout_0 : decode cX8_activeWithout 0 = .ok (.aload_n 0, 1) := by decide +kernel
theorem dX8_activeWithout_1 : decode cX8_activeWithout 1 = .ok (.iload_n 1, 1) := by decide +kernel
theorem dX8_activeWithout_2 : decode cX8_activeWithout 2 = .ok (.invokevirtual 315, 3) := by decide +kernel
theorem dX8_activeWithout_5 : decode cX8_activeWithout 5 = .ok (.ifCond .ne 12, 3) := by decide +kernel
theorem dX8_activeWithout_8 : decode cX8_activeWithout 8 = .ok (.aload_n 0, 1) := by decide +kernel
theorem dX8_activeWithout_9 : decode cX8_activeWithout 9 = .ok (.iload_n 2, 1) := by decide +kernel
theorem dX8_activeWithout_10 : decode cX8_activeWithout 10 = .ok (.iconst 2, 1) := by decide +kernel
theorem dX8_activeWithout_11 : decode cX8_activeWithout 11 = .ok (.invokevirtual 398, 3) := by decide +kernel
theorem dX8_activeWithout_14 : decode cX8_activeWithout 14 = .ok (.ifCond .eq 5, 3) := by decide +kernel
theorem dX8_activeWithout_17 : decode cX8_activeWithout 17 = .ok (.iconst 0, 1) := by decide +kernel
theorem dX8_activeWithout_18 : decode cX8_activeWithout 18 = .ok (.ireturn, 1) := by decide +kernel
theorem dX8_activeWithout_19 : decode cX8_activeWithout 19 = .ok (.aload_n 0, 1) := by decide +kernel
theorem dX8_activeWithout_20 : decode cX8_activeWithout 20 = .ok (.getfield 9, 3) := by decide +kernel
theorem dX8_activeWithout_23 : decode cX8_activeWithout 23 = .ok (.aload_n 0, 1) := by decide +kernel
theorem dX8_activeWithout_24 : decode cX8_activeWithout 24 = .ok (.getfield 13, 3) := by decide +kernel
theorem dX8_activeWithout_27 : decode cX8_activeWithout 27 = .ok (.invokestatic 193, 3) := by decide +kernel
theorem dX8_activeWithout_30 : decode cX8_activeWithout 30 = .ok (.aload_n 0, 1) := by decide +kernel
theorem dX8_activeWithout_31 : decode cX8_activeWithout 31 = .ok (.iload_n 1, 1) := by decide +kernel
theorem dX8_activeWithout_32 : decode cX8_activeWithout 32 = .ok (.iconst 5, 1) := by decide +kernel
theorem dX8_activeWithout_33 : decode cX8_activeWithout 33 = .ok (.invokevirtual 204, 3) := by decide +kernel
theorem dX8_activeWithout_36 : decode cX8_activeWithout 36 = .ok (.iconst 1, 1) := by decide +kernel
theorem dX8_activeWithout_37 : decode cX8_activeWithout 37 = .ok (.if_icmp .ne 11, 3) := by decide +kernel
theorem dX8_activeWithout_40 : decode cX8_activeWithout 40 = .ok (.aload_n 0, 1) := by decide +kernel
theorem dX8_activeWithout_41 : decode cX8_activeWithout 41 = .ok (.iload_n 1, 1) := by decide +kernel
theorem dX8_activeWithout_42 : decode cX8_activeWithout 42 = .ok (.invokevirtual 334, 3) := by decide +kernel
theorem dX8_activeWithout_45 : decode cX8_activeWithout 45 = .ok (.goto 4, 3) := by decide +kernel
theorem dX8_activeWithout_48 : decode cX8_activeWithout 48 = .ok (.iconst 0, 1) := by decide +kernel
theorem dX8_activeWithout_49 : decode cX8_activeWithout 49 = .ok (.istore_n 3, 1) := by decide +kernel
theorem dX8_activeWithout_50 : decode cX8_activeWithout 50 = .ok (.aload_n 0, 1) := by decide +kernel
theorem dX8_activeWithout_51 : decode cX8_activeWithout 51 = .ok (.iload_n 2, 1) := by decide +kernel
theorem dX8_activeWithout_52 : decode cX8_activeWithout 52 = .ok (.invokevirtual 306, 3) := by decide +kernel
theorem dX8_activeWithout_55 : decode cX8_activeWithout 55 = .ok (.aload_n 0, 1) := by decide +kernel
theorem dX8_activeWithout_56 : decode cX8_activeWithout 56 = .ok (.iconst 2, 1) := by decide +kernel
theorem dX8_activeWithout_57 : decode cX8_activeWithout 57 = .ok (.invokevirtual 353, 3) := by decide +kernel
theorem dX8_activeWithout_60 : decode cX8_activeWithout 60 = .ok (.istore_n 3, 1) := by decide +kernel
theorem dX8_activeWithout_61 : decode cX8_activeWithout 61 = .ok (.aload_n 0, 1) := by decide +kernel
theorem dX8_activeWithout_62 : decode cX8_activeWithout 62 = .ok (.getfield 13, 3) := by decide +kernel
theorem dX8_activeWithout_65 : decode cX8_activeWithout 65 = .ok (.aload_n 0, 1) := by decide +kernel
theorem dX8_activeWithout_66 : decode cX8_activeWithout 66 = .ok (.getfield 9, 3) := by decide +kernel
theorem dX8_activeWithout_69 : decode cX8_activeWithout 69 = .ok (.invokestatic 193, 3) := by decide +kernel
theorem dX8_activeWithout_72 : decode cX8_activeWithout 72 = .ok (.iload_n 3, 1) := by decide +kernel
theorem dX8_activeWithout_73 : decode cX8_activeWithout 73 = .ok (.ireturn, 1) := by decide +kernel
theorem dX8_ticksUntilQuiet_0 : decode cX8_ticksUntilQuiet 0 = .ok (.aload_n 0, 1) := by decide +kernel
theorem dX8_ticksUntilQuiet_1 : decode cX8_ticksUntilQuiet 1 = .ok (.iconst 0, 1) := by decide +kernel
theorem dX8_ticksUntilQuiet_2 : decode cX8_ticksUntilQuiet 2 = .ok (.putfield 60, 3) := by decide +kernel
theorem dX8_ticksUntilQuiet_5 : decode cX8_ticksUntilQuiet 5 = .ok (.aload_n 0, 1) := by decide +kernel
theorem dX8_ticksUntilQuiet_6 : decode cX8_ticksUntilQuiet 6 = .ok (.getfield 9, 3) := by decide +kernel
theorem dX8_ticksUntilQuiet_9 : decode cX8_ticksUntilQuiet 9 = .ok (.aload_n 0, 1) := by decide +kernel
theorem dX8_ticksUntilQuiet_10 : decode cX8_ticksUntilQuiet 10 = .ok (.getfield 13, 3) := by decide +kernel
theorem dX8_ticksUntilQuiet_13 : decode cX8_ticksUntilQuiet 13 = .ok (.invokestatic 193, 3) := by decide +kernel
theorem dX8_ticksUntilQuiet_16 : decode cX8_ticksUntilQuiet 16 = .ok (.aload_n 0, 1) := by decide +kernel
theorem dX8_ticksUntilQuiet_17 : decode cX8_ticksUntilQuiet 17 = .ok (.getfield 9, 3) := by decide +kernel
theorem dX8_ticksUntilQuiet_20 : decode cX8_ticksUntilQuiet 20 = .ok (.iconst 0, 1) := by decide +kernel
theorem dX8_ticksUntilQuiet_21 : decode cX8_ticksUntilQuiet 21 = .ok (.iaload, 1) := by decide +kernel
theorem dX8_ticksUntilQuiet_22 : decode cX8_ticksUntilQuiet 22 = .ok (.istore_n 1, 1) := by decide +kernel
theorem dX8_ticksUntilQuiet_23 : decode cX8_ticksUntilQuiet 23 = .ok (.aload_n 0, 1) := by decide +kernel
theorem dX8_ticksUntilQuiet_24 : decode cX8_ticksUntilQuiet 24 = .ok (.invokevirtual 287, 3) := by decide +kernel
theorem dX8_ticksUntilQuiet_27 : decode cX8_ticksUntilQuiet 27 = .ok (.istore_n 2, 1) := by decide +kernel
theorem dX8_ticksUntilQuiet_28 : decode cX8_ticksUntilQuiet 28 = .ok (.iload_n 2, 1) := by decide +kernel
theorem dX8_ticksUntilQuiet_29 : decode cX8_ticksUntilQuiet 29 = .ok (.iconst (-1), 1) := by decide +kernel
theorem dX8_ticksUntilQuiet_30 : decode cX8_ticksUntilQuiet 30 = .ok (.if_icmp .eq 33, 3) := by decide +kernel
theorem dX8_ticksUntilQuiet_33 : decode cX8_ticksUntilQuiet 33 = .ok (.iload_n 2, 1) := by decide +kernel
theorem dX8_ticksUntilQuiet_34 : decode cX8_ticksUntilQuiet 34 = .ok (.iload_n 1, 1) := by decide +kernel
theorem dX8_ticksUntilQuiet_35 : decode cX8_ticksUntilQuiet 35 = .ok (.isub, 1) := by decide +kernel
theorem dX8_ticksUntilQuiet_36 : decode cX8_ticksUntilQuiet 36 = .ok (.sipush 20000, 3) := by decide +kernel
theorem dX8_ticksUntilQuiet_39 : decode cX8_ticksUntilQuiet 39 = .ok (.if_icmp .gt 24, 3) := by decide +kernel
theorem dX8_ticksUntilQuiet_42 : decode cX8_ticksUntilQuiet 42 = .ok (.aload_n 0, 1) := by decide +kernel
theorem dX8_ticksUntilQuiet_43 : decode cX8_ticksUntilQuiet 43 = .ok (.getfield 9, 3) := by decide +kernel
theorem dX8_ticksUntilQuiet_46 : decode cX8_ticksUntilQuiet 46 = .ok (.iconst 0, 1) := by decide +kernel
theorem dX8_ticksUntilQuiet_47 : decode cX8_ticksUntilQuiet 47 = .ok (.iload_n 2, 1) := by decide +kernel
theorem dX8_ticksUntilQuiet_48 : decode cX8_ticksUntilQuiet 48 = .ok (.iconst 1, 1) := by decide +kernel
theorem dX8_ticksUntilQuiet_49 : decode cX8_ticksUntilQuiet 49 = .ok (.isub, 1) := by decide +kernel
theorem dX8_ticksUntilQuiet_50 : decode cX8_ticksUntilQuiet 50 = .ok (.iastore, 1) := by decide +kernel
theorem dX8_ticksUntilQuiet_51 : decode cX8_ticksUntilQuiet 51 = .ok (.aload_n 0, 1) := by decide +kernel
theorem dX8_ticksUntilQuiet_52 : decode cX8_ticksUntilQuiet 52 = .ok (.invokevirtual 296, 3) := by decide +kernel
theorem dX8_ticksUntilQuiet_55 : decode cX8_ticksUntilQuiet 55 = .ok (.aload_n 0, 1) := by decide +kernel
theorem dX8_ticksUntilQuiet_56 : decode cX8_ticksUntilQuiet 56 = .ok (.invokevirtual 287, 3) := by decide +kernel
theorem dX8_ticksUntilQuiet_59 : decode cX8_ticksUntilQuiet 59 = .ok (.istore_n 2, 1) := by decide +kernel
theorem dX8_ticksUntilQuiet_60 : decode cX8_ticksUntilQuiet 60 = .ok (.goto (-32), 3) := by decide +kernel
theorem dX8_ticksUntilQuiet_63 : decode cX8_ticksUntilQuiet 63 = .ok (.iload_n 2, 1) := by decide +kernel
theorem dX8_ticksUntilQuiet_64 : decode cX8_ticksUntilQuiet 64 = .ok (.iconst (-1), 1) := by decide +kernel
theorem dX8_ticksUntilQuiet_65 : decode cX8_ticksUntilQuiet 65 = .ok (.if_icmp .eq 7, 3) := by decide +kernel
theorem dX8_ticksUntilQuiet_68 : decode cX8_ticksUntilQuiet 68 = .ok (.iconst (-1), 1) := by decide +kernel
theorem dX8_ticksUntilQuiet_69 : decode cX8_ticksUntilQuiet 69 = .ok (.goto 11, 3) := by decide +kernel
theorem dX8_ticksUntilQuiet_72 : decode cX8_ticksUntilQuiet 72 = .ok (.aload_n 0, 1) := by decide +kernel
theorem dX8_ticksUntilQuiet_73 : decode cX8_ticksUntilQuiet 73 = .ok (.getfield 9, 3) := by decide +kernel
theorem dX8_ticksUntilQuiet_76 : decode cX8_ticksUntilQuiet 76 = .ok (.iconst 0, 1) := by decide +kernel
theorem dX8_ticksUntilQuiet_77 : decode cX8_ticksUntilQuiet 77 = .ok (.iaload, 1) := by decide +kernel
theorem dX8_ticksUntilQuiet_78 : decode cX8_ticksUntilQuiet 78 = .ok (.iload_n 1, 1) := by decide +kernel
theorem dX8_ticksUntilQuiet_79 : decode cX8_ticksUntilQuiet 79 = .ok (.isub, 1) := by decide +kernel
theorem dX8_ticksUntilQuiet_80 : decode cX8_ticksUntilQuiet 80 = .ok (.istore_n 3, 1) := by decide +kernel
theorem dX8_ticksUntilQuiet_81 : decode cX8_ticksUntilQuiet 81 = .ok (.aload_n 0, 1) := by decide +kernel
theorem dX8_ticksUntilQuiet_82 : decode cX8_ticksUntilQuiet 82 = .ok (.getfield 13, 3) := by decide +kernel
theorem dX8_ticksUntilQuiet_85 : decode cX8_ticksUntilQuiet 85 = .ok (.aload_n 0, 1) := by decide +kernel
theorem dX8_ticksUntilQuiet_86 : decode cX8_ticksUntilQuiet 86 = .ok (.getfield 9, 3) := by decide +kernel
theorem dX8_ticksUntilQuiet_89 : decode cX8_ticksUntilQuiet 89 = .ok (.invokestatic 193, 3) := by decide +kernel
theorem dX8_ticksUntilQuiet_92 : decode cX8_ticksUntilQuiet 92 = .ok (.iload_n 3, 1) := by decide +kernel
theorem dX8_ticksUntilQuiet_93 : decode cX8_ticksUntilQuiet 93 = .ok (.ireturn, 1) := by decide +kernel
theorem dX8_noSlot_0 : decode cX8_noSlot 0 = .ok (.aload_n 0, 1) := by decide +kernel
theorem dX8_noSlot_1 : decode cX8_noSlot 1 = .ok (.iconst 0, 1) := by decide +kernel
theorem dX8_noSlot_2 : decode cX8_noSlot 2 = .ok (.putfield 60, 3) := by decide +kernel
theorem dX8_noSlot_5 : decode cX8_noSlot 5 = .ok (.aload_n 0, 1) := by decide +kernel
theorem dX8_noSlot_6 : decode cX8_noSlot 6 = .ok (.iload_n 1, 1) := by decide +kernel
theorem dX8_noSlot_7 : decode cX8_noSlot 7 = .ok (.i2l, 1) := by decide +kernel
theorem dX8_noSlot_8 : decode cX8_noSlot 8 = .ok (.lconst 0, 1) := by decide +kernel
theorem dX8_noSlot_9 : decode cX8_noSlot 9 = .ok (.lconst 1, 1) := by decide +kernel
theorem dX8_noSlot_10 : decode cX8_noSlot 10 = .ok (.invokestatic 80, 3) := by decide +kernel
theorem dX8_noSlot_13 : decode cX8_noSlot 13 = .ok (.ifCond .ne 7, 3) := by decide +kernel
theorem dX8_noSlot_16 : decode cX8_noSlot 16 = .ok (.iconst 1, 1) := by decide +kernel
theorem dX8_noSlot_17 : decode cX8_noSlot 17 = .ok (.goto 4, 3) := by decide +kernel
theorem dX8_noSlot_20 : decode cX8_noSlot 20 = .ok (.iconst 0, 1) := by decide +kernel
theorem dX8_noSlot_21 : decode cX8_noSlot 21 = .ok (.iconst 1, 1) := by decide +kernel
theorem dX8_noSlot_22 : decode cX8_noSlot 22 = .ok (.invokevirtual 301, 3) := by decide +kernel
theorem dX8_noSlot_25 : decode cX8_noSlot 25 = .ok (.ireturn, 1) := by decide +kernel
theorem dX8_slotRow_0 : decode cX8_slotRow 0 = .ok (.iload_n 1, 1) := by decide +kernel
theorem dX8_slotRow_1 : decode cX8_slotRow 1 = .ok (.ifCond .ne 10, 3) := by decide +kernel
theorem dX8_slotRow_4 : decode cX8_slotRow 4 = .ok (.aload_n 0, 1) := by decide +kernel
theorem dX8_slotRow_5 : decode cX8_slotRow 5 = .ok (.getfield 19, 3) := by decide +kernel
theorem dX8_slotRow_8 : decode cX8_slotRow 8 = .ok (.goto 7, 3) := by decide +kernel
theorem dX8_slotRow_11 : decode cX8_slotRow 11 = .ok (.aload_n 0, 1) := by decide +kernel
theorem dX8_slotRow_12 : decode cX8_slotRow 12 = .ok (.getfield 22, 3) := by decide +kernel
theorem dX8_slotRow_15 : decode cX8_slotRow 15 = .ok (.areturn, 1) := by decide +kernel
theorem dX8_saveSnapshot_0 : decode cX8_saveSnapshot 0 = .ok (.aload_n 0, 1) := by decide +kernel
theorem dX8_saveSnapshot_1 : decode cX8_saveSnapshot 1 = .ok (.iload_n 1, 1) := by decide +kernel
theorem dX8_saveSnapshot_2 : decode cX8_saveSnapshot 2 = .ok (.invokevirtual 401, 3) := by decide +kernel
theorem dX8_saveSnapshot_5 : decode cX8_saveSnapshot 5 = .ok (.ifCond .eq 5, 3) := by decide +kernel
theorem dX8_saveSnapshot_8 : decode cX8_saveSnapshot 8 = .ok (.iconst 0, 1) := by decide +kernel
theorem dX8_saveSnapshot_9 : decode cX8_saveSnapshot 9 = .ok (.ireturn, 1) := by decide +kernel
theorem dX8_saveSnapshot_10 : decode cX8_saveSnapshot 10 = .ok (.aload_n 0, 1) := by decide +kernel
theorem dX8_saveSnapshot_11 : decode cX8_saveSnapshot 11 = .ok (.getfield 9, 3) := by decide +kernel
theorem dX8_saveSnapshot_14 : decode cX8_saveSnapshot 14 = .ok (.aload_n 0, 1) := by decide +kernel
theorem dX8_saveSnapshot_15 : decode cX8_saveSnapshot 15 = .ok (.iload_n 1, 1) := by decide +kernel
theorem dX8_saveSnapshot_16 : decode cX8_saveSnapshot 16 = .ok (.invokevirtual 404, 3) := by decide +kernel
theorem dX8_saveSnapshot_19 : decode cX8_saveSnapshot 19 = .ok (.invokestatic 193, 3) := by decide +kernel
theorem dX8_saveSnapshot_22 : decode cX8_saveSnapshot 22 = .ok (.aload_n 0, 1) := by decide +kernel
theorem dX8_saveSnapshot_23 : decode cX8_saveSnapshot 23 = .ok (.getfield 25, 3) := by decide +kernel
theorem dX8_saveSnapshot_26 : decode cX8_saveSnapshot 26 = .ok (.iload_n 1, 1) := by decide +kernel
theorem dX8_saveSnapshot_27 : decode cX8_saveSnapshot 27 = .ok (.iconst 1, 1) := by decide +kernel
theorem dX8_saveSnapshot_28 : decode cX8_saveSnapshot 28 = .ok (.bastore, 1) := by decide +kernel
theorem dX8_saveSnapshot_29 : decode cX8_saveSnapshot 29 = .ok (.aload_n 0, 1) := by decide +kernel
theorem dX8_saveSnapshot_30 : decode cX8_saveSnapshot 30 = .ok (.getfield 9, 3) := by decide +kernel
theorem dX8_saveSnapshot_33 : decode cX8_saveSnapshot 33 = .ok (.iconst 0, 1) := by decide +kernel
theorem dX8_saveSnapshot_34 : decode cX8_saveSnapshot 34 = .ok (.iaload, 1) := by decide +kernel
theorem dX8_saveSnapshot_35 : decode cX8_saveSnapshot 35 = .ok (.ireturn, 1) := by decide +kernel
theorem dX8_restoreSnapshot_0 : decode cX8_restoreSnapshot 0 = .ok (.aload_n 0, 1) := by decide +kernel
theorem dX8_restoreSnapshot_1 : decode cX8_restoreSnapshot 1 = .ok (.iload_n 1, 1) := by decide +kernel
theorem dX8_restoreSnapshot_2 : decode cX8_restoreSnapshot 2 = .ok (.invokevirtual 401, 3) := by decide +kernel
theorem dX8_restoreSnapshot_5 : decode cX8_restoreSnapshot 5 = .ok (.ifCond .eq 5, 3) := by decide +kernel
theorem dX8_restoreSnapshot_8 : decode cX8_restoreSnapshot 8 = .ok (.iconst 0, 1) := by decide +kernel
theorem dX8_restoreSnapshot_9 : decode cX8_restoreSnapshot 9 = .ok (.ireturn, 1) := by decide +kernel
theorem dX8_restoreSnapshot_10 : decode cX8_restoreSnapshot 10 = .ok (.aload_n 0, 1) := by decide +kernel
theorem dX8_restoreSnapshot_11 : decode cX8_restoreSnapshot 11 = .ok (.getfield 25, 3) := by decide +kernel
theorem dX8_restoreSnapshot_14 : decode cX8_restoreSnapshot 14 = .ok (.iload_n 1, 1) := by decide +kernel
theorem dX8_restoreSnapshot_15 : decode cX8_restoreSnapshot 15 = .ok (.baload, 1) := by decide +kernel
theorem dX8_restoreSnapshot_16 : decode cX8_restoreSnapshot 16 = .ok (.ifCond .ne 5, 3) := by decide +kernel
theorem dX8_restoreSnapshot_19 : decode cX8_restoreSnapshot 19 = .ok (.iconst (-1), 1) := by decide +kernel
theorem dX8_restoreSnapshot_20 : decode cX8_restoreSnapshot 20 = .ok (.ireturn, 1) := by decide +kernel
theorem dX8_restoreSnapshot_21 : decode cX8_restoreSnapshot 21 = .ok (.aload_n 0, 1) := by decide +kernel
theorem dX8_restoreSnapshot_22 : decode cX8_restoreSnapshot 22 = .ok (.iload_n 1, 1) := by decide +kernel
theorem dX8_restoreSnapshot_23 : decode cX8_restoreSnapshot 23 = .ok (.invokevirtual 404, 3) := by decide +kernel
theorem dX8_restoreSnapshot_26 : decode cX8_restoreSnapshot 26 = .ok (.aload_n 0, 1) := by decide +kernel
theorem dX8_restoreSnapshot_27 : decode cX8_restoreSnapshot 27 = .ok (.getfield 9, 3) := by decide +kernel
theorem dX8_restoreSnapshot_30 : decode cX8_restoreSnapshot 30 = .ok (.invokestatic 193, 3) := by decide +kernel
theorem dX8_restoreSnapshot_33 : decode cX8_restoreSnapshot 33 = .ok (.aload_n 0, 1) := by decide +kernel
theorem dX8_restoreSnapshot_34 : decode cX8_restoreSnapshot 34 = .ok (.getfield 9, 3) := by decide +kernel
theorem dX8_restoreSnapshot_37 : decode cX8_restoreSnapshot 37 = .ok (.iconst 0, 1) := by decide +kernel
theorem dX8_restoreSnapshot_38 : decode cX8_restoreSnapshot 38 = .ok (.iaload, 1) := by decide +kernel
theorem dX8_restoreSnapshot_39 : decode cX8_restoreSnapshot 39 = .ok (.ireturn, 1) := by decide +kernel
theorem dJ9_max_7cf53_0 : decode cJ9_max_7cf53 0 = .ok (.iload_n 0, 1) := by decide +kernel
theorem dJ9_max_7cf53_1 : decode cJ9_max_7cf53 1 = .ok (.iload_n 1, 1) := by decide +kernel
theorem dJ9_max_7cf53_2 : decode cJ9_max_7cf53 2 = .ok (.if_icmp .lt 7, 3) := by decide +kernel
theorem dJ9_max_7cf53_5 : decode cJ9_max_7cf53 5 = .ok (.iload_n 0, 1) := by decide +kernel
theorem dJ9_max_7cf53_6 : decode cJ9_max_7cf53 6 = .ok (.goto 4, 3) := by decide +kernel
theorem dJ9_max_7cf53_9 : decode cJ9_max_7cf53 9 = .ok (.iload_n 1, 1) := by decide +kernel
theorem dJ9_max_7cf53_10 : decode cJ9_max_7cf53 10 = .ok (.ireturn, 1) := by decide +kernel
theorem dJ9_min_7cf53_0 : decode cJ9_min_7cf53 0 = .ok (.iload_n 0, 1) := by decide +kernel
theorem dJ9_min_7cf53_1 : decode cJ9_min_7cf53 1 = .ok (.iload_n 1, 1) := by decide +kernel
theorem dJ9_min_7cf53_2 : decode cJ9_min_7cf53 2 = .ok (.if_icmp .gt 7, 3) := by decide +kernel
theorem dJ9_min_7cf53_5 : decode cJ9_min_7cf53 5 = .ok (.iload_n 0, 1) := by decide +kernel
theorem dJ9_min_7cf53_6 : decode cJ9_min_7cf53 6 = .ok (.goto 4, 3) := by decide +kernel
theorem dJ9_min_7cf53_9 : decode cJ9_min_7cf53 9 = .ok (.iload_n 1, 1) := by decide +kernel
theorem dJ9_min_7cf53_10 : decode cJ9_min_7cf53 10 = .ok (.ireturn, 1) := by decide +kernel
theorem dJ9_min_f86c9_0 : decode cJ9_min_f86c9 0 = .ok (.lload_n 0, 1) := by decide +kernel
theorem dJ9_min_f86c9_1 : decode cJ9_min_f86c9 1 = .ok (.lload_n 2, 1) := by decide +kernel
theorem dJ9_min_f86c9_2 : decode cJ9_min_f86c9 2 = .ok (.lcmp, 1) := by decide +kernel
theorem dJ9_min_f86c9_3 : decode cJ9_min_f86c9 3 = .ok (.ifCond .gt 7, 3) := by decide +kernel
theorem dJ9_min_f86c9_6 : decode cJ9_min_f86c9 6 = .ok (.lload_n 0, 1) := by decide +kernel
theorem dJ9_min_f86c9_7 : decode cJ9_min_f86c9 7 = .ok (.goto 4, 3) := by decide +kernel
theorem dJ9_min_f86c9_10 : decode cJ9_min_f86c9 10 = .ok (.lload_n 2, 1) := by decide +kernel
theorem dJ9_min_f86c9_11 : decode cJ9_min_f86c9 11 = .ok (.lreturn, 1) := by decide +kernel
theorem dJ0_length_8abf5_0 : decode cJ0_length_8abf5 0 = .ok (.aload_n 0, 1) := by decide +kernel
theorem dJ0_length_8abf5_1 : decode cJ0_length_8abf5 1 = .ok (.getfield 9, 3) := by decide +kernel
theorem dJ0_length_8abf5_4 : decode cJ0_length_8abf5 4 = .ok (.arraylength, 1) := by decide +kernel
theorem dJ0_length_8abf5_5 : decode cJ0_length_8abf5 5 = .ok (.aload_n 0, 1) := by decide +kernel
theorem dJ0_length_8abf5_6 : decode cJ0_length_8abf5 6 = .ok (.invokevirtual 335, 3) := by decide +kernel
theorem dJ0_length_8abf5_9 : decode cJ0_length_8abf5 9 = .ok (.ishr, 1) := by decide +kernel
theorem dJ0_length_8abf5_10 : decode cJ0_length_8abf5 10 = .ok (.ireturn, 1) := by decide +kernel
theorem dJ0_charAt_5068e_0 : decode cJ0_charAt_5068e 0 = .ok (.aload_n 0, 1) := by decide +kernel
theorem dJ0_charAt_5068e_1 : decode cJ0_charAt_5068e 1 = .ok (.invokevirtual 492, 3) := by decide +kernel
theorem dJ0_charAt_5068e_4 : decode cJ0_charAt_5068e 4 = .ok (.ifCond .eq 12, 3) := by decide +kernel
theorem dJ0_charAt_5068e_7 : decode cJ0_charAt_5068e 7 = .ok (.aload_n 0, 1) := by decide +kernel
theorem dJ0_charAt_5068e_8 : decode cJ0_charAt_5068e 8 = .ok (.getfield 9, 3) := by decide +kernel
theorem dJ0_charAt_5068e_11 : decode cJ0_charAt_5068e 11 = .ok (.iload_n 1, 1) := by decide +kernel
theorem dJ0_charAt_5068e_12 : decode cJ0_charAt_5068e 12 = .ok (.invokestatic 495, 3) := by decide +kernel
theorem dJ0_charAt_5068e_15 : decode cJ0_charAt_5068e 15 = .ok (.ireturn, 1) := by decide +kernel
theorem dJ0_charAt_5068e_16 : decode cJ0_charAt_5068e 16 = .ok (.aload_n 0, 1) := by decide +kernel
theorem dJ0_charAt_5068e_17 : decode cJ0_charAt_5068e 17 = .ok (.getfield 9, 3) := by decide +kernel
theorem dJ0_charAt_5068e_20 : decode cJ0_charAt_5068e 20 = .ok (.iload_n 1, 1) := by decide +kernel
theorem dJ0_charAt_5068e_21 : decode cJ0_charAt_5068e 21 = .ok (.invokestatic 498, 3) := by decide +kernel
theorem dJ0_charAt_5068e_24 : decode cJ0_charAt_5068e 24 = .ok (.ireturn, 1) := by decide +kernel
theorem dJ0_coder_7d493_0 : decode cJ0_coder_7d493 0 = .ok (.getstatic 38, 3) := by decide +kernel
theorem dJ0_coder_7d493_3 : decode cJ0_coder_7d493 3 = .ok (.ifCond .eq 10, 3) := by decide +kernel
theorem dJ0_coder_7d493_6 : decode cJ0_coder_7d493 6 = .ok (.aload_n 0, 1) := by decide +kernel
theorem dJ0_coder_7d493_7 : decode cJ0_coder_7d493 7 = .ok (.getfield 15, 3) := by decide +kernel
theorem dJ0_coder_7d493_10 : decode cJ0_coder_7d493 10 = .ok (.goto 4, 3) := by decide +kernel
theorem dJ0_coder_7d493_13 : decode cJ0_coder_7d493 13 = .ok (.iconst 1, 1) := by decide +kernel
theorem dJ0_coder_7d493_14 : decode cJ0_coder_7d493 14 = .ok (.ireturn, 1) := by decide +kernel
theorem dJ0_isLatin1_aae02_0 : decode cJ0_isLatin1_aae02 0 = .ok (.getstatic 38, 3) := by decide +kernel
theorem dJ0_isLatin1_aae02_3 : decode cJ0_isLatin1_aae02 3 = .ok (.ifCond .eq 14, 3) := by decide +kernel
theorem dJ0_isLatin1_aae02_6 : decode cJ0_isLatin1_aae02 6 = .ok (.aload_n 0, 1) := by decide +kernel
theorem dJ0_isLatin1_aae02_7 : decode cJ0_isLatin1_aae02 7 = .ok (.getfield 15, 3) := by decide +kernel
theorem dJ0_isLatin1_aae02_10 : decode cJ0_isLatin1_aae02 10 = .ok (.ifCond .ne 7, 3) := by decide +kernel
theorem dJ0_isLatin1_aae02_13 : decode cJ0_isLatin1_aae02 13 = .ok (.iconst 1, 1) := by decide +kernel
theorem dJ0_isLatin1_aae02_14 : decode cJ0_isLatin1_aae02 14 = .ok (.goto 4, 3) := by decide +kernel
theorem dJ0_isLatin1_aae02_17 : decode cJ0_isLatin1_aae02 17 = .ok (.iconst 0, 1) := by decide +kernel
theorem dJ0_isLatin1_aae02_18 : decode cJ0_isLatin1_aae02 18 = .ok (.ireturn, 1) := by decide +kernel
theorem dJ0_checkIndex_df160_0 : decode cJ0_checkIndex_df160 0 = .ok (.iload_n 0, 1) := by decide +kernel
theorem dJ0_checkIndex_df160_1 : decode cJ0_checkIndex_df160 1 = .ok (.iload_n 1, 1) := by decide +kernel
theorem dJ0_checkIndex_df160_2 : decode cJ0_checkIndex_df160 2 = .ok (.getstatic 1053, 3) := by decide +kernel
theorem dJ0_checkIndex_df160_5 : decode cJ0_checkIndex_df160 5 = .ok (.invokestatic 1059, 3) := by decide +kernel
theorem dJ0_checkIndex_df160_8 : decode cJ0_checkIndex_df160 8 = .ok (.pop, 1) := by decide +kernel
theorem dJ0_checkIndex_df160_9 : decode cJ0_checkIndex_df160 9 = .ok (.return_, 1) := by decide +kernel
theorem dJ1_charAt_3b067_0 : decode cJ1_charAt_3b067 0 = .ok (.iload_n 1, 1) := by decide +kernel
theorem dJ1_charAt_3b067_1 : decode cJ1_charAt_3b067 1 = .ok (.aload_n 0, 1) := by decide +kernel
theorem dJ1_charAt_3b067_2 : decode cJ1_charAt_3b067 2 = .ok (.arraylength, 1) := by decide +kernel
theorem dJ1_charAt_3b067_3 : decode cJ1_charAt_3b067 3 = .ok (.invokestatic 9, 3) := by decide +kernel
theorem dJ1_charAt_3b067_6 : decode cJ1_charAt_3b067 6 = .ok (.aload_n 0, 1) := by decide +kernel
theorem dJ1_charAt_3b067_7 : decode cJ1_charAt_3b067 7 = .ok (.iload_n 1, 1) := by decide +kernel
theorem dJ1_charAt_3b067_8 : decode cJ1_charAt_3b067 8 = .ok (.baload, 1) := by decide +kernel
theorem dJ1_charAt_3b067_9 : decode cJ1_charAt_3b067 9 = .ok (.sipush 255, 3) := by decide +kernel
theorem dJ1_charAt_3b067_12 : decode cJ1_charAt_3b067 12 = .ok (.iand, 1) := by decide +kernel
theorem dJ1_charAt_3b067_13 : decode cJ1_charAt_3b067 13 = .ok (.i2c, 1) := by decide +kernel
theorem dJ1_charAt_3b067_14 : decode cJ1_charAt_3b067 14 = .ok (.ireturn, 1) := by decide +kernel
theorem dJ2_getChar_3b067_0 : decode cJ2_getChar_3b067 0 = .ok (.getstatic 44, 3) := by decide +kernel
theorem dJ2_getChar_3b067_3 : decode cJ2_getChar_3b067 3 = .ok (.ifCond .ne 25, 3) := by decide +kernel
theorem dJ2_getChar_3b067_6 : decode cJ2_getChar_3b067 6 = .ok (.iload_n 1, 1) := by decide +kernel
theorem dJ2_getChar_3b067_7 : decode cJ2_getChar_3b067 7 = .ok (.ifCond .lt 11, 3) := by decide +kernel
theorem dJ2_getChar_3b067_10 : decode cJ2_getChar_3b067 10 = .ok (.iload_n 1, 1) := by decide +kernel
theorem dJ2_getChar_3b067_11 : decode cJ2_getChar_3b067 11 = .ok (.aload_n 0, 1) := by decide +kernel
theorem dJ2_getChar_3b067_12 : decode cJ2_getChar_3b067 12 = .ok (.invokestatic 48, 3) := by decide +kernel
theorem dJ2_getChar_3b067_15 : decode cJ2_getChar_3b067 15 = .ok (.if_icmp .lt 13, 3) := by decide +kernel
theorem dJ2_getChar_3b067_18 : decode cJ2_getChar_3b067 18 = .ok (.new 52, 3) := by decide +kernel
theorem dJ2_getChar_3b067_21 : decode cJ2_getChar_3b067 21 = .ok (.dup, 1) := by decide +kernel
theorem dJ2_getChar_3b067_22 : decode cJ2_getChar_3b067 22 = .ok (.ldc 54, 2) := by decide +kernel
theorem dJ2_getChar_3b067_24 : decode cJ2_getChar_3b067 24 = .ok (.invokespecial 56, 3) := by decide +kernel
theorem dJ2_getChar_3b067_27 : decode cJ2_getChar_3b067 27 = .ok (.athrow, 1) := by decide +kernel
theorem dJ2_getChar_3b067_28 : decode cJ2_getChar_3b067 28 = .ok (.iload_n 1, 1) := by decide +kernel
theorem dJ2_getChar_3b067_29 : decode cJ2_getChar_3b067 29 = .ok (.iconst 1, 1) := by decide +kernel
theorem dJ2_getChar_3b067_30 : decode cJ2_getChar_3b067 30 = .ok (.ishl, 1) := by decide +kernel
theorem dJ2_getChar_3b067_31 : decode cJ2_getChar_3b067 31 = .ok (.istore_n 1, 1) := by decide +kernel
theorem dJ2_getChar_3b067_32 : decode cJ2_getChar_3b067 32 = .ok (.aload_n 0, 1) := by decide +kernel
theorem dJ2_getChar_3b067_33 : decode cJ2_getChar_3b067 33 = .ok (.iload_n 1, 1) := by decide +kernel
theorem dJ2_getChar_3b067_34 : decode cJ2_getChar_3b067 34 = .ok (.iinc 1 1, 3) := by decide +kernel
theorem dJ2_getChar_3b067_37 : decode cJ2_getChar_3b067 37 = .ok (.baload, 1) := by decide +kernel
theorem dJ2_getChar_3b067_38 : decode cJ2_getChar_3b067 38 = .ok (.sipush 255, 3) := by decide +kernel
theorem dJ2_getChar_3b067_41 : decode cJ2_getChar_3b067 41 = .ok (.iand, 1) := by decide +kernel
theorem dJ2_getChar_3b067_42 : decode cJ2_getChar_3b067 42 = .ok (.getstatic 59, 3) := by decide +kernel
theorem dJ2_getChar_3b067_45 : decode cJ2_getChar_3b067 45 = .ok (.ishl, 1) := by decide +kernel
theorem dJ2_getChar_3b067_46 : decode cJ2_getChar_3b067 46 = .ok (.aload_n 0, 1) := by decide +kernel
theorem dJ2_getChar_3b067_47 : decode cJ2_getChar_3b067 47 = .ok (.iload_n 1, 1) := by decide +kernel
theorem dJ2_getChar_3b067_48 : decode cJ2_getChar_3b067 48 = .ok (.baload, 1) := by decide +kernel
theorem dJ2_getChar_3b067_49 : decode cJ2_getChar_3b067 49 = .ok (.sipush 255, 3) := by decide +kernel
theorem dJ2_getChar_3b067_52 : decode cJ2_getChar_3b067 52 = .ok (.iand, 1) := by decide +kernel
theorem dJ2_getChar_3b067_53 : decode cJ2_getChar_3b067 53 = .ok (.getstatic 63, 3) := by decide +kernel
theorem dJ2_getChar_3b067_56 : decode cJ2_getChar_3b067 56 = .ok (.ishl, 1) := by decide +kernel
theorem dJ2_getChar_3b067_57 : decode cJ2_getChar_3b067 57 = .ok (.ior, 1) := by decide +kernel
theorem dJ2_getChar_3b067_58 : decode cJ2_getChar_3b067 58 = .ok (.i2c, 1) := by decide +kernel
theorem dJ2_getChar_3b067_59 : decode cJ2_getChar_3b067 59 = .ok (.ireturn, 1) := by decide +kernel
theorem dJ2_length_9d52b_0 : decode cJ2_length_9d52b 0 = .ok (.aload_n 0, 1) := by decide +kernel
theorem dJ2_length_9d52b_1 : decode cJ2_length_9d52b 1 = .ok (.arraylength, 1) := by decide +kernel
theorem dJ2_length_9d52b_2 : decode cJ2_length_9d52b 2 = .ok (.iconst 1, 1) := by decide +kernel
theorem dJ2_length_9d52b_3 : decode cJ2_length_9d52b 3 = .ok (.ishr, 1) := by decide +kernel
theorem dJ2_length_9d52b_4 : decode cJ2_length_9d52b 4 = .ok (.ireturn, 1) := by decide +kernel
theorem dJ2_charAt_3b067_0 : decode cJ2_charAt_3b067 0 = .ok (.iload_n 1, 1) := by decide +kernel
theorem dJ2_charAt_3b067_1 : decode cJ2_charAt_3b067 1 = .ok (.aload_n 0, 1) := by decide +kernel
theorem dJ2_charAt_3b067_2 : decode cJ2_charAt_3b067 2 = .ok (.invokestatic 67, 3) := by decide +kernel
theorem dJ2_charAt_3b067_5 : decode cJ2_charAt_3b067 5 = .ok (.aload_n 0, 1) := by decide +kernel
theorem dJ2_charAt_3b067_6 : decode cJ2_charAt_3b067 6 = .ok (.iload_n 1, 1) := by decide +kernel
theorem dJ2_charAt_3b067_7 : decode cJ2_charAt_3b067 7 = .ok (.invokestatic 71, 3) := by decide +kernel
theorem dJ2_charAt_3b067_10 : decode cJ2_charAt_3b067 10 = .ok (.ireturn, 1) := by decide +kernel
theorem dJ2_checkIndex_2214a_0 : decode cJ2_checkIndex_2214a 0 = .ok (.iload_n 0, 1) := by decide +kernel
theorem dJ2_checkIndex_2214a_1 : decode cJ2_checkIndex_2214a 1 = .ok (.aload_n 1, 1) := by decide +kernel
theorem dJ2_checkIndex_2214a_2 : decode cJ2_checkIndex_2214a 2 = .ok (.invokestatic 48, 3) := by decide +kernel
theorem dJ2_checkIndex_2214a_5 : decode cJ2_checkIndex_2214a 5 = .ok (.invokestatic 414, 3) := by decide +kernel
theorem dJ2_checkIndex_2214a_8 : decode cJ2_checkIndex_2214a 8 = .ok (.return_, 1) := by decide +kernel
theorem dJ7_fill_53178_0 : decode cJ7_fill_53178 0 = .ok (.iconst 0, 1) := by decide +kernel
theorem dJ7_fill_53178_1 : decode cJ7_fill_53178 1 = .ok (.istore_n 2, 1) := by decide +kernel
theorem dJ7_fill_53178_2 : decode cJ7_fill_53178 2 = .ok (.aload_n 0, 1) := by decide +kernel
theorem dJ7_fill_53178_3 : decode cJ7_fill_53178 3 = .ok (.arraylength, 1) := by decide +kernel
theorem dJ7_fill_53178_4 : decode cJ7_fill_53178 4 = .ok (.istore_n 3, 1) := by decide +kernel
theorem dJ7_fill_53178_5 : decode cJ7_fill_53178 5 = .ok (.iload_n 2, 1) := by decide +kernel
theorem dJ7_fill_53178_6 : decode cJ7_fill_53178 6 = .ok (.iload_n 3, 1) := by decide +kernel
theorem dJ7_fill_53178_7 : decode cJ7_fill_53178 7 = .ok (.if_icmp .ge 13, 3) := by decide +kernel
theorem dJ7_fill_53178_10 : decode cJ7_fill_53178 10 = .ok (.aload_n 0, 1) := by decide +kernel
theorem dJ7_fill_53178_11 : decode cJ7_fill_53178 11 = .ok (.iload_n 2, 1) := by decide +kernel
theorem dJ7_fill_53178_12 : decode cJ7_fill_53178 12 = .ok (.iload_n 1, 1) := by decide +kernel
theorem dJ7_fill_53178_13 : decode cJ7_fill_53178 13 = .ok (.iastore, 1) := by decide +kernel
theorem dJ7_fill_53178_14 : decode cJ7_fill_53178 14 = .ok (.iinc 2 1, 3) := by decide +kernel
theorem dJ7_fill_53178_17 : decode cJ7_fill_53178 17 = .ok (.goto (-12), 3) := by decide +kernel
theorem dJ7_fill_53178_20 : decode cJ7_fill_53178 20 = .ok (.return_, 1) := by decide +kernel
theorem dJ3_checkIndex_8e157_0 : decode cJ3_checkIndex_8e157 0 = .ok (.iload_n 0, 1) := by decide +kernel
theorem dJ3_checkIndex_8e157_1 : decode cJ3_checkIndex_8e157 1 = .ok (.ifCond .lt 8, 3) := by decide +kernel
theorem dJ3_checkIndex_8e157_4 : decode cJ3_checkIndex_8e157 4 = .ok (.iload_n 0, 1) := by decide +kernel
theorem dJ3_checkIndex_8e157_5 : decode cJ3_checkIndex_8e157 5 = .ok (.iload_n 1, 1) := by decide +kernel
theorem dJ3_checkIndex_8e157_6 : decode cJ3_checkIndex_8e157 6 = .ok (.if_icmp .lt 10, 3) := by decide +kernel
theorem dJ3_checkIndex_8e157_9 : decode cJ3_checkIndex_8e157 9 = .ok (.aload_n 2, 1) := by decide +kernel
theorem dJ3_checkIndex_8e157_10 : decode cJ3_checkIndex_8e157 10 = .ok (.iload_n 0, 1) := by decide +kernel
theorem dJ3_checkIndex_8e157_11 : decode cJ3_checkIndex_8e157 11 = .ok (.iload_n 1, 1) := by decide +kernel
theorem dJ3_checkIndex_8e157_12 : decode cJ3_checkIndex_8e157 12 = .ok (.invokestatic 95, 3) := by decide +kernel
theorem dJ3_checkIndex_8e157_15 : decode cJ3_checkIndex_8e157 15 = .ok (.athrow, 1) := by decide +kernel
theorem dJ3_checkIndex_8e157_16 : decode cJ3_checkIndex_8e157 16 = .ok (.iload_n 0, 1) := by decide +kernel
theorem dJ3_checkIndex_8e157_17 : decode cJ3_checkIndex_8e157 17 = .ok (.ireturn, 1) := by decide +kernel
theorem dL_nameLetter_0 : decode cL_nameLetter 0 = .ok (.aload_n 3, 1) := by decide +kernel
theorem dL_nameLetter_1 : decode cL_nameLetter 1 = .ok (.iconst 0, 1) := by decide +kernel
theorem dL_nameLetter_2 : decode cL_nameLetter 2 = .ok (.aload_n 0, 1) := by decide +kernel
theorem dL_nameLetter_3 : decode cL_nameLetter 3 = .ok (.iload_n 1, 1) := by decide +kernel
theorem dL_nameLetter_4 : decode cL_nameLetter 4 = .ok (.iload_n 2, 1) := by decide +kernel
theorem dL_nameLetter_5 : decode cL_nameLetter 5 = .ok (.invokevirtual 7, 3) := by decide +kernel
theorem dL_nameLetter_8 : decode cL_nameLetter 8 = .ok (.i2l, 1) := by decide +kernel
theorem dL_nameLetter_9 : decode cL_nameLetter 9 = .ok (.lastore, 1) := by decide +kernel
theorem dL_nameLetter_10 : decode cL_nameLetter 10 = .ok (.goto 7, 3) := by decide +kernel
theorem dL_nameLetter_13 : decode cL_nameLetter 13 = .ok (.astore 4, 2) := by decide +kernel
theorem dL_nameLetter_15 : decode cL_nameLetter 15 = .ok (.iconst 1, 1) := by decide +kernel
theorem dL_nameLetter_16 : decode cL_nameLetter 16 = .ok (.ireturn, 1) := by decide +kernel
theorem dL_nameLetter_17 : decode cL_nameLetter 17 = .ok (.iconst 0, 1) := by decide +kernel
theorem dL_nameLetter_18 : decode cL_nameLetter 18 = .ok (.ireturn, 1) := by decide +kernel
theorem dL_linkValue_0 : decode cL_linkValue 0 = .ok (.aload_n 3, 1) := by decide +kernel
theorem dL_linkValue_1 : decode cL_linkValue 1 = .ok (.iconst 0, 1) := by decide +kernel
theorem dL_linkValue_2 : decode cL_linkValue 2 = .ok (.aload_n 0, 1) := by decide +kernel
theorem dL_linkValue_3 : decode cL_linkValue 3 = .ok (.iload_n 1, 1) := by decide +kernel
theorem dL_linkValue_4 : decode cL_linkValue 4 = .ok (.iload_n 2, 1) := by decide +kernel
theorem dL_linkValue_5 : decode cL_linkValue 5 = .ok (.invokevirtual 15, 3) := by decide +kernel
theorem dL_linkValue_8 : decode cL_linkValue 8 = .ok (.i2l, 1) := by decide +kernel
theorem dL_linkValue_9 : decode cL_linkValue 9 = .ok (.lastore, 1) := by decide +kernel
theorem dL_linkValue_10 : decode cL_linkValue 10 = .ok (.goto 11, 3) := by decide +kernel
theorem dL_linkValue_13 : decode cL_linkValue 13 = .ok (.astore 4, 2) := by decide +kernel
theorem dL_linkValue_15 : decode cL_linkValue 15 = .ok (.iconst 1, 1) := by decide +kernel
theorem dL_linkValue_16 : decode cL_linkValue 16 = .ok (.ireturn, 1) := by decide +kernel
theorem dL_linkValue_17 : decode cL_linkValue 17 = .ok (.astore 4, 2) := by decide +kernel
theorem dL_linkValue_19 : decode cL_linkValue 19 = .ok (.iconst 2, 1) := by decide +kernel
theorem dL_linkValue_20 : decode cL_linkValue 20 = .ok (.ireturn, 1) := by decide +kernel
theorem dL_linkValue_21 : decode cL_linkValue 21 = .ok (.iconst 0, 1) := by decide +kernel
theorem dL_linkValue_22 : decode cL_linkValue 22 = .ok (.ireturn, 1) := by decide +kernel
theorem dL_setting_0 : decode cL_setting 0 = .ok (.aload_n 2, 1) := by decide +kernel
theorem dL_setting_1 : decode cL_setting 1 = .ok (.iconst 0, 1) := by decide +kernel
theorem dL_setting_2 : decode cL_setting 2 = .ok (.aload_n 0, 1) := by decide +kernel
theorem dL_setting_3 : decode cL_setting 3 = .ok (.iload_n 1, 1) := by decide +kernel
theorem dL_setting_4 : decode cL_setting 4 = .ok (.invokevirtual 20, 3) := by decide +kernel
theorem dL_setting_7 : decode cL_setting 7 = .ok (.i2l, 1) := by decide +kernel
theorem dL_setting_8 : decode cL_setting 8 = .ok (.lastore, 1) := by decide +kernel
theorem dL_setting_9 : decode cL_setting 9 = .ok (.goto 6, 3) := by decide +kernel
theorem dL_setting_12 : decode cL_setting 12 = .ok (.astore_n 3, 1) := by decide +kernel
theorem dL_setting_13 : decode cL_setting 13 = .ok (.iconst 1, 1) := by decide +kernel
theorem dL_setting_14 : decode cL_setting 14 = .ok (.ireturn, 1) := by decide +kernel
theorem dL_setting_15 : decode cL_setting 15 = .ok (.iconst 0, 1) := by decide +kernel
theorem dL_setting_16 : decode cL_setting 16 = .ok (.ireturn, 1) := by decide +kernel
theorem dL_setSetting_0 : decode cL_setSetting 0 = .ok (.aload_n 3, 1) := by decide +kernel
theorem dL_setSetting_1 : decode cL_setSetting 1 = .ok (.iconst 0, 1) := by decide +kernel
