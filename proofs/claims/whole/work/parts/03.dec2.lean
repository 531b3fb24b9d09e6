theorem dX6_closeLink_61 : decode cX6_closeLink 61 = .ok (.iload_n 3, 1) := by decide +kernel
theorem dX6_closeLink_62 : decode cX6_closeLink 62 = .ok (.aload_n 0, 1) := by decide +kernel
theorem dX6_closeLink_63 : decode cX6_closeLink 63 = .ok (.getfield 28, 3) := by decide +kernel
theorem dX6_closeLink_66 : decode cX6_closeLink 66 = .ok (.getfield 191, 3) := by decide +kernel
theorem dX6_closeLink_69 : decode cX6_closeLink 69 = .ok (.iload_n 3, 1) := by decide +kernel
theorem dX6_closeLink_70 : decode cX6_closeLink 70 = .ok (.iaload, 1) := by decide +kernel
theorem dX6_closeLink_71 : decode cX6_closeLink 71 = .ok (.aload_n 0, 1) := by decide +kernel
theorem dX6_closeLink_72 : decode cX6_closeLink 72 = .ok (.getfield 51, 3) := by decide +kernel
theorem dX6_closeLink_75 : decode cX6_closeLink 75 = .ok (.isub, 1) := by decide +kernel
theorem dX6_closeLink_76 : decode cX6_closeLink 76 = .ok (.aload_n 0, 1) := by decide +kernel
theorem dX6_closeLink_77 : decode cX6_closeLink 77 = .ok (.getfield 28, 3) := by decide +kernel
theorem dX6_closeLink_80 : decode cX6_closeLink 80 = .ok (.getfield 194, 3) := by decide +kernel
theorem dX6_closeLink_83 : decode cX6_closeLink 83 = .ok (.iload_n 3, 1) := by decide +kernel
theorem dX6_closeLink_84 : decode cX6_closeLink 84 = .ok (.iaload, 1) := by decide +kernel
theorem dX6_closeLink_85 : decode cX6_closeLink 85 = .ok (.bipush 100, 2) := by decide +kernel
theorem dX6_closeLink_87 : decode cX6_closeLink 87 = .ok (.invokevirtual 197, 3) := by decide +kernel
theorem dX6_closeLink_90 : decode cX6_closeLink 90 = .ok (.pop, 1) := by decide +kernel
theorem dX6_closeLink_91 : decode cX6_closeLink 91 = .ok (.aload_n 0, 1) := by decide +kernel
theorem dX6_closeLink_92 : decode cX6_closeLink 92 = .ok (.iload_n 3, 1) := by decide +kernel
theorem dX6_closeLink_93 : decode cX6_closeLink 93 = .ok (.bipush 6, 2) := by decide +kernel
theorem dX6_closeLink_95 : decode cX6_closeLink 95 = .ok (.invokevirtual 123, 3) := by decide +kernel
theorem dX6_closeLink_98 : decode cX6_closeLink 98 = .ok (.aload_n 0, 1) := by decide +kernel
theorem dX6_closeLink_99 : decode cX6_closeLink 99 = .ok (.getfield 28, 3) := by decide +kernel
theorem dX6_closeLink_102 : decode cX6_closeLink 102 = .ok (.getfield 191, 3) := by decide +kernel
theorem dX6_closeLink_105 : decode cX6_closeLink 105 = .ok (.iload_n 3, 1) := by decide +kernel
theorem dX6_closeLink_106 : decode cX6_closeLink 106 = .ok (.aload_n 0, 1) := by decide +kernel
theorem dX6_closeLink_107 : decode cX6_closeLink 107 = .ok (.getfield 51, 3) := by decide +kernel
theorem dX6_closeLink_110 : decode cX6_closeLink 110 = .ok (.iastore, 1) := by decide +kernel
theorem dX6_closeLink_111 : decode cX6_closeLink 111 = .ok (.goto 9, 3) := by decide +kernel
theorem dX6_closeLink_114 : decode cX6_closeLink 114 = .ok (.aload_n 0, 1) := by decide +kernel
theorem dX6_closeLink_115 : decode cX6_closeLink 115 = .ok (.iload_n 3, 1) := by decide +kernel
theorem dX6_closeLink_116 : decode cX6_closeLink 116 = .ok (.iload_n 1, 1) := by decide +kernel
theorem dX6_closeLink_117 : decode cX6_closeLink 117 = .ok (.invokevirtual 106, 3) := by decide +kernel
theorem dX6_closeLink_120 : decode cX6_closeLink 120 = .ok (.iinc 3 1, 3) := by decide +kernel
theorem dX6_closeLink_123 : decode cX6_closeLink 123 = .ok (.goto (-102), 3) := by decide +kernel
theorem dX6_closeLink_126 : decode cX6_closeLink 126 = .ok (.iload_n 2, 1) := by decide +kernel
theorem dX6_closeLink_127 : decode cX6_closeLink 127 = .ok (.ireturn, 1) := by decide +kernel
theorem dX6_nextHappening_0 : decode cX6_nextHappening 0 = .ok (.aload_n 0, 1) := by decide +kernel
theorem dX6_nextHappening_1 : decode cX6_nextHappening 1 = .ok (.getfield 21, 3) := by decide +kernel
theorem dX6_nextHappening_4 : decode cX6_nextHappening 4 = .ok (.invokevirtual 226, 3) := by decide +kernel
theorem dX6_nextHappening_7 : decode cX6_nextHappening 7 = .ok (.istore_n 1, 1) := by decide +kernel
theorem dX6_nextHappening_8 : decode cX6_nextHappening 8 = .ok (.iconst 0, 1) := by decide +kernel
theorem dX6_nextHappening_9 : decode cX6_nextHappening 9 = .ok (.istore_n 2, 1) := by decide +kernel
theorem dX6_nextHappening_10 : decode cX6_nextHappening 10 = .ok (.iload_n 2, 1) := by decide +kernel
theorem dX6_nextHappening_11 : decode cX6_nextHappening 11 = .ok (.aload_n 0, 1) := by decide +kernel
theorem dX6_nextHappening_12 : decode cX6_nextHappening 12 = .ok (.getfield 28, 3) := by decide +kernel
theorem dX6_nextHappening_15 : decode cX6_nextHappening 15 = .ok (.getfield 70, 3) := by decide +kernel
theorem dX6_nextHappening_18 : decode cX6_nextHappening 18 = .ok (.if_icmp .ge 75, 3) := by decide +kernel
theorem dX6_nextHappening_21 : decode cX6_nextHappening 21 = .ok (.aload_n 0, 1) := by decide +kernel
theorem dX6_nextHappening_22 : decode cX6_nextHappening 22 = .ok (.getfield 28, 3) := by decide +kernel
theorem dX6_nextHappening_25 : decode cX6_nextHappening 25 = .ok (.getfield 93, 3) := by decide +kernel
theorem dX6_nextHappening_28 : decode cX6_nextHappening 28 = .ok (.iload_n 2, 1) := by decide +kernel
theorem dX6_nextHappening_29 : decode cX6_nextHappening 29 = .ok (.iaload, 1) := by decide +kernel
theorem dX6_nextHappening_30 : decode cX6_nextHappening 30 = .ok (.iconst 2, 1) := by decide +kernel
theorem dX6_nextHappening_31 : decode cX6_nextHappening 31 = .ok (.if_icmp .ne 7, 3) := by decide +kernel
theorem dX6_nextHappening_34 : decode cX6_nextHappening 34 = .ok (.iconst 1, 1) := by decide +kernel
theorem dX6_nextHappening_35 : decode cX6_nextHappening 35 = .ok (.goto 4, 3) := by decide +kernel
theorem dX6_nextHappening_38 : decode cX6_nextHappening 38 = .ok (.iconst 0, 1) := by decide +kernel
theorem dX6_nextHappening_39 : decode cX6_nextHappening 39 = .ok (.istore_n 3, 1) := by decide +kernel
theorem dX6_nextHappening_40 : decode cX6_nextHappening 40 = .ok (.iload_n 3, 1) := by decide +kernel
theorem dX6_nextHappening_41 : decode cX6_nextHappening 41 = .ok (.ifCond .eq 15, 3) := by decide +kernel
theorem dX6_nextHappening_44 : decode cX6_nextHappening 44 = .ok (.aload_n 0, 1) := by decide +kernel
theorem dX6_nextHappening_45 : decode cX6_nextHappening 45 = .ok (.getfield 28, 3) := by decide +kernel
theorem dX6_nextHappening_48 : decode cX6_nextHappening 48 = .ok (.getfield 191, 3) := by decide +kernel
theorem dX6_nextHappening_51 : decode cX6_nextHappening 51 = .ok (.iload_n 2, 1) := by decide +kernel
theorem dX6_nextHappening_52 : decode cX6_nextHappening 52 = .ok (.iaload, 1) := by decide +kernel
theorem dX6_nextHappening_53 : decode cX6_nextHappening 53 = .ok (.goto 12, 3) := by decide +kernel
theorem dX6_nextHappening_56 : decode cX6_nextHappening 56 = .ok (.aload_n 0, 1) := by decide +kernel
theorem dX6_nextHappening_57 : decode cX6_nextHappening 57 = .ok (.getfield 28, 3) := by decide +kernel
theorem dX6_nextHappening_60 : decode cX6_nextHappening 60 = .ok (.getfield 90, 3) := by decide +kernel
theorem dX6_nextHappening_63 : decode cX6_nextHappening 63 = .ok (.iload_n 2, 1) := by decide +kernel
theorem dX6_nextHappening_64 : decode cX6_nextHappening 64 = .ok (.iaload, 1) := by decide +kernel
theorem dX6_nextHappening_65 : decode cX6_nextHappening 65 = .ok (.istore 4, 2) := by decide +kernel
theorem dX6_nextHappening_67 : decode cX6_nextHappening 67 = .ok (.iload 4, 2) := by decide +kernel
theorem dX6_nextHappening_69 : decode cX6_nextHappening 69 = .ok (.iconst (-1), 1) := by decide +kernel
theorem dX6_nextHappening_70 : decode cX6_nextHappening 70 = .ok (.if_icmp .eq 17, 3) := by decide +kernel
theorem dX6_nextHappening_73 : decode cX6_nextHappening 73 = .ok (.iload_n 1, 1) := by decide +kernel
theorem dX6_nextHappening_74 : decode cX6_nextHappening 74 = .ok (.iconst (-1), 1) := by decide +kernel
theorem dX6_nextHappening_75 : decode cX6_nextHappening 75 = .ok (.if_icmp .eq 9, 3) := by decide +kernel
theorem dX6_nextHappening_78 : decode cX6_nextHappening 78 = .ok (.iload 4, 2) := by decide +kernel
theorem dX6_nextHappening_80 : decode cX6_nextHappening 80 = .ok (.iload_n 1, 1) := by decide +kernel
theorem dX6_nextHappening_81 : decode cX6_nextHappening 81 = .ok (.if_icmp .ge 6, 3) := by decide +kernel
theorem dX6_nextHappening_84 : decode cX6_nextHappening 84 = .ok (.iload 4, 2) := by decide +kernel
theorem dX6_nextHappening_86 : decode cX6_nextHappening 86 = .ok (.istore_n 1, 1) := by decide +kernel
theorem dX6_nextHappening_87 : decode cX6_nextHappening 87 = .ok (.iinc 2 1, 3) := by decide +kernel
theorem dX6_nextHappening_90 : decode cX6_nextHappening 90 = .ok (.goto (-80), 3) := by decide +kernel
theorem dX6_nextHappening_93 : decode cX6_nextHappening 93 = .ok (.iload_n 1, 1) := by decide +kernel
theorem dX6_nextHappening_94 : decode cX6_nextHappening 94 = .ok (.ireturn, 1) := by decide +kernel
theorem dX6_passNext_0 : decode cX6_passNext 0 = .ok (.aload_n 0, 1) := by decide +kernel
theorem dX6_passNext_1 : decode cX6_passNext 1 = .ok (.invokevirtual 230, 3) := by decide +kernel
theorem dX6_passNext_4 : decode cX6_passNext 4 = .ok (.istore_n 2, 1) := by decide +kernel
theorem dX6_passNext_5 : decode cX6_passNext 5 = .ok (.aload_n 0, 1) := by decide +kernel
theorem dX6_passNext_6 : decode cX6_passNext 6 = .ok (.iload_n 2, 1) := by decide +kernel
theorem dX6_passNext_7 : decode cX6_passNext 7 = .ok (.iconst (-1), 1) := by decide +kernel
theorem dX6_passNext_8 : decode cX6_passNext 8 = .ok (.if_icmp .eq 8, 3) := by decide +kernel
theorem dX6_passNext_11 : decode cX6_passNext 11 = .ok (.iload_n 2, 1) := by decide +kernel
theorem dX6_passNext_12 : decode cX6_passNext 12 = .ok (.iload_n 1, 1) := by decide +kernel
theorem dX6_passNext_13 : decode cX6_passNext 13 = .ok (.if_icmp .le 7, 3) := by decide +kernel
theorem dX6_passNext_16 : decode cX6_passNext 16 = .ok (.iload_n 1, 1) := by decide +kernel
theorem dX6_passNext_17 : decode cX6_passNext 17 = .ok (.goto 4, 3) := by decide +kernel
theorem dX6_passNext_20 : decode cX6_passNext 20 = .ok (.iload_n 2, 1) := by decide +kernel
theorem dX6_passNext_21 : decode cX6_passNext 21 = .ok (.putfield 51, 3) := by decide +kernel
theorem dX6_passNext_24 : decode cX6_passNext 24 = .ok (.aload_n 0, 1) := by decide +kernel
theorem dX6_passNext_25 : decode cX6_passNext 25 = .ok (.invokevirtual 233, 3) := by decide +kernel
theorem dX6_passNext_28 : decode cX6_passNext 28 = .ok (.aload_n 0, 1) := by decide +kernel
theorem dX6_passNext_29 : decode cX6_passNext 29 = .ok (.invokevirtual 236, 3) := by decide +kernel
theorem dX6_passNext_32 : decode cX6_passNext 32 = .ok (.iconst 0, 1) := by decide +kernel
theorem dX6_passNext_33 : decode cX6_passNext 33 = .ok (.istore_n 3, 1) := by decide +kernel
theorem dX6_passNext_34 : decode cX6_passNext 34 = .ok (.iload_n 3, 1) := by decide +kernel
theorem dX6_passNext_35 : decode cX6_passNext 35 = .ok (.aload_n 0, 1) := by decide +kernel
theorem dX6_passNext_36 : decode cX6_passNext 36 = .ok (.getfield 28, 3) := by decide +kernel
theorem dX6_passNext_39 : decode cX6_passNext 39 = .ok (.getfield 70, 3) := by decide +kernel
theorem dX6_passNext_42 : decode cX6_passNext 42 = .ok (.if_icmp .ge 14, 3) := by decide +kernel
theorem dX6_passNext_45 : decode cX6_passNext 45 = .ok (.aload_n 0, 1) := by decide +kernel
theorem dX6_passNext_46 : decode cX6_passNext 46 = .ok (.iload_n 3, 1) := by decide +kernel
theorem dX6_passNext_47 : decode cX6_passNext 47 = .ok (.invokevirtual 85, 3) := by decide +kernel
theorem dX6_passNext_50 : decode cX6_passNext 50 = .ok (.iinc 3 1, 3) := by decide +kernel
theorem dX6_passNext_53 : decode cX6_passNext 53 = .ok (.goto (-19), 3) := by decide +kernel
theorem dX6_passNext_56 : decode cX6_passNext 56 = .ok (.return_, 1) := by decide +kernel
theorem dX6_expireTickets_0 : decode cX6_expireTickets 0 = .ok (.iconst 0, 1) := by decide +kernel
theorem dX6_expireTickets_1 : decode cX6_expireTickets 1 = .ok (.istore_n 1, 1) := by decide +kernel
theorem dX6_expireTickets_2 : decode cX6_expireTickets 2 = .ok (.iload_n 1, 1) := by decide +kernel
theorem dX6_expireTickets_3 : decode cX6_expireTickets 3 = .ok (.aload_n 0, 1) := by decide +kernel
theorem dX6_expireTickets_4 : decode cX6_expireTickets 4 = .ok (.getfield 21, 3) := by decide +kernel
theorem dX6_expireTickets_7 : decode cX6_expireTickets 7 = .ok (.getfield 69, 3) := by decide +kernel
theorem dX6_expireTickets_10 : decode cX6_expireTickets 10 = .ok (.if_icmp .ge 62, 3) := by decide +kernel
theorem dX6_expireTickets_13 : decode cX6_expireTickets 13 = .ok (.aload_n 0, 1) := by decide +kernel
theorem dX6_expireTickets_14 : decode cX6_expireTickets 14 = .ok (.getfield 21, 3) := by decide +kernel
theorem dX6_expireTickets_17 : decode cX6_expireTickets 17 = .ok (.getfield 174, 3) := by decide +kernel
theorem dX6_expireTickets_20 : decode cX6_expireTickets 20 = .ok (.iload_n 1, 1) := by decide +kernel
theorem dX6_expireTickets_21 : decode cX6_expireTickets 21 = .ok (.iaload, 1) := by decide +kernel
theorem dX6_expireTickets_22 : decode cX6_expireTickets 22 = .ok (.ifCond .ne 44, 3) := by decide +kernel
theorem dX6_expireTickets_25 : decode cX6_expireTickets 25 = .ok (.aload_n 0, 1) := by decide +kernel
theorem dX6_expireTickets_26 : decode cX6_expireTickets 26 = .ok (.getfield 21, 3) := by decide +kernel
theorem dX6_expireTickets_29 : decode cX6_expireTickets 29 = .ok (.getfield 171, 3) := by decide +kernel
theorem dX6_expireTickets_32 : decode cX6_expireTickets 32 = .ok (.iload_n 1, 1) := by decide +kernel
theorem dX6_expireTickets_33 : decode cX6_expireTickets 33 = .ok (.iaload, 1) := by decide +kernel
theorem dX6_expireTickets_34 : decode cX6_expireTickets 34 = .ok (.aload_n 0, 1) := by decide +kernel
theorem dX6_expireTickets_35 : decode cX6_expireTickets 35 = .ok (.getfield 51, 3) := by decide +kernel
theorem dX6_expireTickets_38 : decode cX6_expireTickets 38 = .ok (.if_icmp .ne 28, 3) := by decide +kernel
theorem dX6_expireTickets_41 : decode cX6_expireTickets 41 = .ok (.aload_n 0, 1) := by decide +kernel
theorem dX6_expireTickets_42 : decode cX6_expireTickets 42 = .ok (.iload_n 1, 1) := by decide +kernel
theorem dX6_expireTickets_43 : decode cX6_expireTickets 43 = .ok (.iconst 2, 1) := by decide +kernel
theorem dX6_expireTickets_44 : decode cX6_expireTickets 44 = .ok (.aload_n 0, 1) := by decide +kernel
theorem dX6_expireTickets_45 : decode cX6_expireTickets 45 = .ok (.getfield 21, 3) := by decide +kernel
theorem dX6_expireTickets_48 : decode cX6_expireTickets 48 = .ok (.getfield 175, 3) := by decide +kernel
theorem dX6_expireTickets_51 : decode cX6_expireTickets 51 = .ok (.iload_n 1, 1) := by decide +kernel
theorem dX6_expireTickets_52 : decode cX6_expireTickets 52 = .ok (.iaload, 1) := by decide +kernel
theorem dX6_expireTickets_53 : decode cX6_expireTickets 53 = .ok (.aload_n 0, 1) := by decide +kernel
theorem dX6_expireTickets_54 : decode cX6_expireTickets 54 = .ok (.getfield 39, 3) := by decide +kernel
theorem dX6_expireTickets_57 : decode cX6_expireTickets 57 = .ok (.iconst 3, 1) := by decide +kernel
theorem dX6_expireTickets_58 : decode cX6_expireTickets 58 = .ok (.iaload, 1) := by decide +kernel
theorem dX6_expireTickets_59 : decode cX6_expireTickets 59 = .ok (.imul, 1) := by decide +kernel
theorem dX6_expireTickets_60 : decode cX6_expireTickets 60 = .ok (.bipush 100, 2) := by decide +kernel
theorem dX6_expireTickets_62 : decode cX6_expireTickets 62 = .ok (.idiv, 1) := by decide +kernel
theorem dX6_expireTickets_63 : decode cX6_expireTickets 63 = .ok (.invokevirtual 213, 3) := by decide +kernel
theorem dX6_expireTickets_66 : decode cX6_expireTickets 66 = .ok (.iinc 1 1, 3) := by decide +kernel
theorem dX6_expireTickets_69 : decode cX6_expireTickets 69 = .ok (.goto (-67), 3) := by decide +kernel
theorem dX6_expireTickets_72 : decode cX6_expireTickets 72 = .ok (.return_, 1) := by decide +kernel
theorem dX6_endRequests_0 : decode cX6_endRequests 0 = .ok (.iconst 0, 1) := by decide +kernel
theorem dX6_endRequests_1 : decode cX6_endRequests 1 = .ok (.istore_n 1, 1) := by decide +kernel
theorem dX6_endRequests_2 : decode cX6_endRequests 2 = .ok (.iload_n 1, 1) := by decide +kernel
theorem dX6_endRequests_3 : decode cX6_endRequests 3 = .ok (.aload_n 0, 1) := by decide +kernel
theorem dX6_endRequests_4 : decode cX6_endRequests 4 = .ok (.getfield 28, 3) := by decide +kernel
theorem dX6_endRequests_7 : decode cX6_endRequests 7 = .ok (.getfield 70, 3) := by decide +kernel
theorem dX6_endRequests_10 : decode cX6_endRequests 10 = .ok (.if_icmp .ge 53, 3) := by decide +kernel
theorem dX6_endRequests_13 : decode cX6_endRequests 13 = .ok (.aload_n 0, 1) := by decide +kernel
theorem dX6_endRequests_14 : decode cX6_endRequests 14 = .ok (.getfield 28, 3) := by decide +kernel
theorem dX6_endRequests_17 : decode cX6_endRequests 17 = .ok (.getfield 93, 3) := by decide +kernel
theorem dX6_endRequests_20 : decode cX6_endRequests 20 = .ok (.iload_n 1, 1) := by decide +kernel
theorem dX6_endRequests_21 : decode cX6_endRequests 21 = .ok (.iaload, 1) := by decide +kernel
theorem dX6_endRequests_22 : decode cX6_endRequests 22 = .ok (.iconst 2, 1) := by decide +kernel
theorem dX6_endRequests_23 : decode cX6_endRequests 23 = .ok (.if_icmp .ne 34, 3) := by decide +kernel
theorem dX6_endRequests_26 : decode cX6_endRequests 26 = .ok (.aload_n 0, 1) := by decide +kernel
theorem dX6_endRequests_27 : decode cX6_endRequests 27 = .ok (.getfield 28, 3) := by decide +kernel
theorem dX6_endRequests_30 : decode cX6_endRequests 30 = .ok (.getfield 191, 3) := by decide +kernel
theorem dX6_endRequests_33 : decode cX6_endRequests 33 = .ok (.iload_n 1, 1) := by decide +kernel
theorem dX6_endRequests_34 : decode cX6_endRequests 34 = .ok (.iaload, 1) := by decide +kernel
theorem dX6_endRequests_35 : decode cX6_endRequests 35 = .ok (.aload_n 0, 1) := by decide +kernel
theorem dX6_endRequests_36 : decode cX6_endRequests 36 = .ok (.getfield 51, 3) := by decide +kernel
theorem dX6_endRequests_39 : decode cX6_endRequests 39 = .ok (.if_icmp .ne 18, 3) := by decide +kernel
theorem dX6_endRequests_42 : decode cX6_endRequests 42 = .ok (.aload_n 0, 1) := by decide +kernel
theorem dX6_endRequests_43 : decode cX6_endRequests 43 = .ok (.iload_n 1, 1) := by decide +kernel
theorem dX6_endRequests_44 : decode cX6_endRequests 44 = .ok (.iconst 1, 1) := by decide +kernel
theorem dX6_endRequests_45 : decode cX6_endRequests 45 = .ok (.iconst 1, 1) := by decide +kernel
theorem dX6_endRequests_46 : decode cX6_endRequests 46 = .ok (.iconst 0, 1) := by decide +kernel
theorem dX6_endRequests_47 : decode cX6_endRequests 47 = .ok (.invokevirtual 197, 3) := by decide +kernel
theorem dX6_endRequests_50 : decode cX6_endRequests 50 = .ok (.pop, 1) := by decide +kernel
theorem dX6_endRequests_51 : decode cX6_endRequests 51 = .ok (.aload_n 0, 1) := by decide +kernel
theorem dX6_endRequests_52 : decode cX6_endRequests 52 = .ok (.iload_n 1, 1) := by decide +kernel
theorem dX6_endRequests_53 : decode cX6_endRequests 53 = .ok (.iconst 3, 1) := by decide +kernel
theorem dX6_endRequests_54 : decode cX6_endRequests 54 = .ok (.invokevirtual 123, 3) := by decide +kernel
theorem dX6_endRequests_57 : decode cX6_endRequests 57 = .ok (.iinc 1 1, 3) := by decide +kernel
theorem dX6_endRequests_60 : decode cX6_endRequests 60 = .ok (.goto (-58), 3) := by decide +kernel
theorem dX6_endRequests_63 : decode cX6_endRequests 63 = .ok (.return_, 1) := by decide +kernel
theorem dX6_passTo_0 : decode cX6_passTo 0 = .ok (.iconst 0, 1) := by decide +kernel
theorem dX6_passTo_1 : decode cX6_passTo 1 = .ok (.istore_n 2, 1) := by decide +kernel
theorem dX6_passTo_2 : decode cX6_passTo 2 = .ok (.iload_n 2, 1) := by decide +kernel
theorem dX6_passTo_3 : decode cX6_passTo 3 = .ok (.ldc 89, 2) := by decide +kernel
theorem dX6_passTo_5 : decode cX6_passTo 5 = .ok (.if_icmp .ge 22, 3) := by decide +kernel
theorem dX6_passTo_8 : decode cX6_passTo 8 = .ok (.aload_n 0, 1) := by decide +kernel
theorem dX6_passTo_9 : decode cX6_passTo 9 = .ok (.getfield 51, 3) := by decide +kernel
theorem dX6_passTo_12 : decode cX6_passTo 12 = .ok (.iload_n 1, 1) := by decide +kernel
theorem dX6_passTo_13 : decode cX6_passTo 13 = .ok (.if_icmp .ge 14, 3) := by decide +kernel
theorem dX6_passTo_16 : decode cX6_passTo 16 = .ok (.aload_n 0, 1) := by decide +kernel
theorem dX6_passTo_17 : decode cX6_passTo 17 = .ok (.iload_n 1, 1) := by decide +kernel
theorem dX6_passTo_18 : decode cX6_passTo 18 = .ok (.invokevirtual 239, 3) := by decide +kernel
theorem dX6_passTo_21 : decode cX6_passTo 21 = .ok (.iinc 2 1, 3) := by decide +kernel
theorem dX6_passTo_24 : decode cX6_passTo 24 = .ok (.goto (-22), 3) := by decide +kernel
theorem dX6_passTo_27 : decode cX6_passTo 27 = .ok (.return_, 1) := by decide +kernel
theorem dX6_passUntilActive_0 : decode cX6_passUntilActive 0 = .ok (.aload_n 0, 1) := by decide +kernel
theorem dX6_passUntilActive_1 : decode cX6_passUntilActive 1 = .ok (.getfield 51, 3) := by decide +kernel
theorem dX6_passUntilActive_4 : decode cX6_passUntilActive 4 = .ok (.istore_n 2, 1) := by decide +kernel
theorem dX6_passUntilActive_5 : decode cX6_passUntilActive 5 = .ok (.iload_n 2, 1) := by decide +kernel
theorem dX6_passUntilActive_6 : decode cX6_passUntilActive 6 = .ok (.sipush 2000, 3) := by decide +kernel
theorem dX6_passUntilActive_9 : decode cX6_passUntilActive 9 = .ok (.iadd, 1) := by decide +kernel
theorem dX6_passUntilActive_10 : decode cX6_passUntilActive 10 = .ok (.istore_n 3, 1) := by decide +kernel
theorem dX6_passUntilActive_11 : decode cX6_passUntilActive 11 = .ok (.iconst 0, 1) := by decide +kernel
theorem dX6_passUntilActive_12 : decode cX6_passUntilActive 12 = .ok (.istore 4, 2) := by decide +kernel
theorem dX6_passUntilActive_14 : decode cX6_passUntilActive 14 = .ok (.iload 4, 2) := by decide +kernel
theorem dX6_passUntilActive_16 : decode cX6_passUntilActive 16 = .ok (.ldc 89, 2) := by decide +kernel
theorem dX6_passUntilActive_18 : decode cX6_passUntilActive 18 = .ok (.if_icmp .ge 33, 3) := by decide +kernel
theorem dX6_passUntilActive_21 : decode cX6_passUntilActive 21 = .ok (.aload_n 0, 1) := by decide +kernel
theorem dX6_passUntilActive_22 : decode cX6_passUntilActive 22 = .ok (.getfield 51, 3) := by decide +kernel
theorem dX6_passUntilActive_25 : decode cX6_passUntilActive 25 = .ok (.iload_n 3, 1) := by decide +kernel
theorem dX6_passUntilActive_26 : decode cX6_passUntilActive 26 = .ok (.if_icmp .ge 25, 3) := by decide +kernel
theorem dX6_passUntilActive_29 : decode cX6_passUntilActive 29 = .ok (.aload_n 0, 1) := by decide +kernel
theorem dX6_passUntilActive_30 : decode cX6_passUntilActive 30 = .ok (.getfield 28, 3) := by decide +kernel
theorem dX6_passUntilActive_33 : decode cX6_passUntilActive 33 = .ok (.iload_n 1, 1) := by decide +kernel
theorem dX6_passUntilActive_34 : decode cX6_passUntilActive 34 = .ok (.invokevirtual 242, 3) := by decide +kernel
theorem dX6_passUntilActive_37 : decode cX6_passUntilActive 37 = .ok (.ifCond .eq 14, 3) := by decide +kernel
theorem dX6_passUntilActive_40 : decode cX6_passUntilActive 40 = .ok (.aload_n 0, 1) := by decide +kernel
theorem dX6_passUntilActive_41 : decode cX6_passUntilActive 41 = .ok (.iload_n 3, 1) := by decide +kernel
theorem dX6_passUntilActive_42 : decode cX6_passUntilActive 42 = .ok (.invokevirtual 239, 3) := by decide +kernel
theorem dX6_passUntilActive_45 : decode cX6_passUntilActive 45 = .ok (.iinc 4 1, 3) := by decide +kernel
theorem dX6_passUntilActive_48 : decode cX6_passUntilActive 48 = .ok (.goto (-34), 3) := by decide +kernel
theorem dX6_passUntilActive_51 : decode cX6_passUntilActive 51 = .ok (.aload_n 0, 1) := by decide +kernel
theorem dX6_passUntilActive_52 : decode cX6_passUntilActive 52 = .ok (.getfield 28, 3) := by decide +kernel
theorem dX6_passUntilActive_55 : decode cX6_passUntilActive 55 = .ok (.getfield 93, 3) := by decide +kernel
theorem dX6_passUntilActive_58 : decode cX6_passUntilActive 58 = .ok (.iload_n 1, 1) := by decide +kernel
theorem dX6_passUntilActive_59 : decode cX6_passUntilActive 59 = .ok (.iaload, 1) := by decide +kernel
theorem dX6_passUntilActive_60 : decode cX6_passUntilActive 60 = .ok (.iconst 2, 1) := by decide +kernel
theorem dX6_passUntilActive_61 : decode cX6_passUntilActive 61 = .ok (.if_icmp .ne 12, 3) := by decide +kernel
theorem dX6_passUntilActive_64 : decode cX6_passUntilActive 64 = .ok (.aload_n 0, 1) := by decide +kernel
theorem dX6_passUntilActive_65 : decode cX6_passUntilActive 65 = .ok (.getfield 51, 3) := by decide +kernel
theorem dX6_passUntilActive_68 : decode cX6_passUntilActive 68 = .ok (.iload_n 2, 1) := by decide +kernel
theorem dX6_passUntilActive_69 : decode cX6_passUntilActive 69 = .ok (.isub, 1) := by decide +kernel
theorem dX6_passUntilActive_70 : decode cX6_passUntilActive 70 = .ok (.goto 4, 3) := by decide +kernel
theorem dX6_passUntilActive_73 : decode cX6_passUntilActive 73 = .ok (.iconst (-1), 1) := by decide +kernel
theorem dX6_passUntilActive_74 : decode cX6_passUntilActive 74 = .ok (.ireturn, 1) := by decide +kernel
theorem dX6_passUntilAvailable_0 : decode cX6_passUntilAvailable 0 = .ok (.aload_n 0, 1) := by decide +kernel
theorem dX6_passUntilAvailable_1 : decode cX6_passUntilAvailable 1 = .ok (.getfield 51, 3) := by decide +kernel
theorem dX6_passUntilAvailable_4 : decode cX6_passUntilAvailable 4 = .ok (.istore_n 3, 1) := by decide +kernel
theorem dX6_passUntilAvailable_5 : decode cX6_passUntilAvailable 5 = .ok (.iload_n 3, 1) := by decide +kernel
theorem dX6_passUntilAvailable_6 : decode cX6_passUntilAvailable 6 = .ok (.sipush 2000, 3) := by decide +kernel
theorem dX6_passUntilAvailable_9 : decode cX6_passUntilAvailable 9 = .ok (.iadd, 1) := by decide +kernel
theorem dX6_passUntilAvailable_10 : decode cX6_passUntilAvailable 10 = .ok (.istore 4, 2) := by decide +kernel
theorem dX6_passUntilAvailable_12 : decode cX6_passUntilAvailable 12 = .ok (.iconst 0, 1) := by decide +kernel
theorem dX6_passUntilAvailable_13 : decode cX6_passUntilAvailable 13 = .ok (.istore 5, 2) := by decide +kernel
theorem dX6_passUntilAvailable_15 : decode cX6_passUntilAvailable 15 = .ok (.iload 5, 2) := by decide +kernel
theorem dX6_passUntilAvailable_17 : decode cX6_passUntilAvailable 17 = .ok (.ldc 89, 2) := by decide +kernel
theorem dX6_passUntilAvailable_19 : decode cX6_passUntilAvailable 19 = .ok (.if_icmp .ge 36, 3) := by decide +kernel
theorem dX6_passUntilAvailable_22 : decode cX6_passUntilAvailable 22 = .ok (.aload_n 0, 1) := by decide +kernel
theorem dX6_passUntilAvailable_23 : decode cX6_passUntilAvailable 23 = .ok (.getfield 51, 3) := by decide +kernel
theorem dX6_passUntilAvailable_26 : decode cX6_passUntilAvailable 26 = .ok (.iload 4, 2) := by decide +kernel
theorem dX6_passUntilAvailable_28 : decode cX6_passUntilAvailable 28 = .ok (.if_icmp .ge 27, 3) := by decide +kernel
theorem dX6_passUntilAvailable_31 : decode cX6_passUntilAvailable 31 = .ok (.aload_n 0, 1) := by decide +kernel
theorem dX6_passUntilAvailable_32 : decode cX6_passUntilAvailable 32 = .ok (.getfield 12, 3) := by decide +kernel
theorem dX6_passUntilAvailable_35 : decode cX6_passUntilAvailable 35 = .ok (.iload_n 1, 1) := by decide +kernel
theorem dX6_passUntilAvailable_36 : decode cX6_passUntilAvailable 36 = .ok (.invokevirtual 143, 3) := by decide +kernel
theorem dX6_passUntilAvailable_39 : decode cX6_passUntilAvailable 39 = .ok (.iload_n 2, 1) := by decide +kernel
theorem dX6_passUntilAvailable_40 : decode cX6_passUntilAvailable 40 = .ok (.if_icmp .ge 15, 3) := by decide +kernel
theorem dX6_passUntilAvailable_43 : decode cX6_passUntilAvailable 43 = .ok (.aload_n 0, 1) := by decide +kernel
theorem dX6_passUntilAvailable_44 : decode cX6_passUntilAvailable 44 = .ok (.iload 4, 2) := by decide +kernel
theorem dX6_passUntilAvailable_46 : decode cX6_passUntilAvailable 46 = .ok (.invokevirtual 239, 3) := by decide +kernel
theorem dX6_passUntilAvailable_49 : decode cX6_passUntilAvailable 49 = .ok (.iinc 5 1, 3) := by decide +kernel
theorem dX6_passUntilAvailable_52 : decode cX6_passUntilAvailable 52 = .ok (.goto (-37), 3) := by decide +kernel
theorem dX6_passUntilAvailable_55 : decode cX6_passUntilAvailable 55 = .ok (.aload_n 0, 1) := by decide +kernel
theorem dX6_passUntilAvailable_56 : decode cX6_passUntilAvailable 56 = .ok (.getfield 12, 3) := by decide +kernel
theorem dX6_passUntilAvailable_59 : decode cX6_passUntilAvailable 59 = .ok (.iload_n 1, 1) := by decide +kernel
theorem dX6_passUntilAvailable_60 : decode cX6_passUntilAvailable 60 = .ok (.invokevirtual 143, 3) := by decide +kernel
theorem dX6_passUntilAvailable_63 : decode cX6_passUntilAvailable 63 = .ok (.iload_n 2, 1) := by decide +kernel
theorem dX6_passUntilAvailable_64 : decode cX6_passUntilAvailable 64 = .ok (.if_icmp .lt 12, 3) := by decide +kernel
theorem dX6_passUntilAvailable_67 : decode cX6_passUntilAvailable 67 = .ok (.aload_n 0, 1) := by decide +kernel
theorem dX6_passUntilAvailable_68 : decode cX6_passUntilAvailable 68 = .ok (.getfield 51, 3) := by decide +kernel
theorem dX6_passUntilAvailable_71 : decode cX6_passUntilAvailable 71 = .ok (.iload_n 3, 1) := by decide +kernel
theorem dX6_passUntilAvailable_72 : decode cX6_passUntilAvailable 72 = .ok (.isub, 1) := by decide +kernel
theorem dX6_passUntilAvailable_73 : decode cX6_passUntilAvailable 73 = .ok (.goto 4, 3) := by decide +kernel
theorem dX6_passUntilAvailable_76 : decode cX6_passUntilAvailable 76 = .ok (.iconst (-1), 1) := by decide +kernel
theorem dX6_passUntilAvailable_77 : decode cX6_passUntilAvailable 77 = .ok (.ireturn, 1) := by decide +kernel
theorem dX6_passUntilQuiet_0 : decode cX6_passUntilQuiet 0 = .ok (.aload_n 0, 1) := by decide +kernel
theorem dX6_passUntilQuiet_1 : decode cX6_passUntilQuiet 1 = .ok (.getfield 51, 3) := by decide +kernel
theorem dX6_passUntilQuiet_4 : decode cX6_passUntilQuiet 4 = .ok (.istore_n 1, 1) := by decide +kernel
theorem dX6_passUntilQuiet_5 : decode cX6_passUntilQuiet 5 = .ok (.iload_n 1, 1) := by decide +kernel
theorem dX6_passUntilQuiet_6 : decode cX6_passUntilQuiet 6 = .ok (.sipush 20000, 3) := by decide +kernel
theorem dX6_passUntilQuiet_9 : decode cX6_passUntilQuiet 9 = .ok (.iadd, 1) := by decide +kernel
theorem dX6_passUntilQuiet_10 : decode cX6_passUntilQuiet 10 = .ok (.istore_n 2, 1) := by decide +kernel
theorem dX6_passUntilQuiet_11 : decode cX6_passUntilQuiet 11 = .ok (.aload_n 0, 1) := by decide +kernel
theorem dX6_passUntilQuiet_12 : decode cX6_passUntilQuiet 12 = .ok (.invokevirtual 230, 3) := by decide +kernel
theorem dX6_passUntilQuiet_15 : decode cX6_passUntilQuiet 15 = .ok (.istore_n 3, 1) := by decide +kernel
theorem dX6_passUntilQuiet_16 : decode cX6_passUntilQuiet 16 = .ok (.iconst 0, 1) := by decide +kernel
theorem dX6_passUntilQuiet_17 : decode cX6_passUntilQuiet 17 = .ok (.istore 4, 2) := by decide +kernel
theorem dX6_passUntilQuiet_19 : decode cX6_passUntilQuiet 19 = .ok (.iload 4, 2) := by decide +kernel
theorem dX6_passUntilQuiet_21 : decode cX6_passUntilQuiet 21 = .ok (.ldc 89, 2) := by decide +kernel
theorem dX6_passUntilQuiet_23 : decode cX6_passUntilQuiet 23 = .ok (.if_icmp .ge 29, 3) := by decide +kernel
theorem dX6_passUntilQuiet_26 : decode cX6_passUntilQuiet 26 = .ok (.iload_n 3, 1) := by decide +kernel
theorem dX6_passUntilQuiet_27 : decode cX6_passUntilQuiet 27 = .ok (.iconst (-1), 1) := by decide +kernel
theorem dX6_passUntilQuiet_28 : decode cX6_passUntilQuiet 28 = .ok (.if_icmp .eq 24, 3) := by decide +kernel
theorem dX6_passUntilQuiet_31 : decode cX6_passUntilQuiet 31 = .ok (.iload_n 3, 1) := by decide +kernel
theorem dX6_passUntilQuiet_32 : decode cX6_passUntilQuiet 32 = .ok (.iload_n 2, 1) := by decide +kernel
theorem dX6_passUntilQuiet_33 : decode cX6_passUntilQuiet 33 = .ok (.if_icmp .gt 19, 3) := by decide +kernel
theorem dX6_passUntilQuiet_36 : decode cX6_passUntilQuiet 36 = .ok (.aload_n 0, 1) := by decide +kernel
theorem dX6_passUntilQuiet_37 : decode cX6_passUntilQuiet 37 = .ok (.iload_n 2, 1) := by decide +kernel
theorem dX6_passUntilQuiet_38 : decode cX6_passUntilQuiet 38 = .ok (.invokevirtual 239, 3) := by decide +kernel
theorem dX6_passUntilQuiet_41 : decode cX6_passUntilQuiet 41 = .ok (.aload_n 0, 1) := by decide +kernel
theorem dX6_passUntilQuiet_42 : decode cX6_passUntilQuiet 42 = .ok (.invokevirtual 230, 3) := by decide +kernel
theorem dX6_passUntilQuiet_45 : decode cX6_passUntilQuiet 45 = .ok (.istore_n 3, 1) := by decide +kernel
theorem dX6_passUntilQuiet_46 : decode cX6_passUntilQuiet 46 = .ok (.iinc 4 1, 3) := by decide +kernel
theorem dX6_passUntilQuiet_49 : decode cX6_passUntilQuiet 49 = .ok (.goto (-30), 3) := by decide +kernel
theorem dX6_passUntilQuiet_52 : decode cX6_passUntilQuiet 52 = .ok (.iload_n 3, 1) := by decide +kernel
theorem dX6_passUntilQuiet_53 : decode cX6_passUntilQuiet 53 = .ok (.iconst (-1), 1) := by decide +kernel
theorem dX6_passUntilQuiet_54 : decode cX6_passUntilQuiet 54 = .ok (.if_icmp .ne 12, 3) := by decide +kernel
theorem dX6_passUntilQuiet_57 : decode cX6_passUntilQuiet 57 = .ok (.aload_n 0, 1) := by decide +kernel
theorem dX6_passUntilQuiet_58 : decode cX6_passUntilQuiet 58 = .ok (.getfield 51, 3) := by decide +kernel
theorem dX6_passUntilQuiet_61 : decode cX6_passUntilQuiet 61 = .ok (.iload_n 1, 1) := by decide +kernel
theorem dX6_passUntilQuiet_62 : decode cX6_passUntilQuiet 62 = .ok (.isub, 1) := by decide +kernel
theorem dX6_passUntilQuiet_63 : decode cX6_passUntilQuiet 63 = .ok (.goto 4, 3) := by decide +kernel
theorem dX6_passUntilQuiet_66 : decode cX6_passUntilQuiet 66 = .ok (.iconst (-1), 1) := by decide +kernel
theorem dX6_passUntilQuiet_67 : decode cX6_passUntilQuiet 67 = .ok (.ireturn, 1) := by decide +kernel
theorem dX7_init_0 : decode cX7_init 0 = .ok (.aload_n 0, 1) := by decide +kernel
theorem dX7_init_1 : decode cX7_init 1 = .ok (.invokespecial 1, 3) := by decide +kernel
theorem dX7_init_4 : decode cX7_init 4 = .ok (.aload_n 0, 1) := by decide +kernel
theorem dX7_init_5 : decode cX7_init 5 = .ok (.new 7, 3) := by decide +kernel
theorem dX7_init_8 : decode cX7_init 8 = .ok (.dup, 1) := by decide +kernel
theorem dX7_init_9 : decode cX7_init 9 = .ok (.invokespecial 9, 3) := by decide +kernel
theorem dX7_init_12 : decode cX7_init 12 = .ok (.putfield 10, 3) := by decide +kernel
theorem dX7_init_15 : decode cX7_init 15 = .ok (.aload_n 0, 1) := by decide +kernel
theorem dX7_init_16 : decode cX7_init 16 = .ok (.new 7, 3) := by decide +kernel
theorem dX7_init_19 : decode cX7_init 19 = .ok (.dup, 1) := by decide +kernel
theorem dX7_init_20 : decode cX7_init 20 = .ok (.invokespecial 9, 3) := by decide +kernel
theorem dX7_init_23 : decode cX7_init 23 = .ok (.putfield 16, 3) := by decide +kernel
theorem dX7_init_26 : decode cX7_init 26 = .ok (.aload_n 0, 1) := by decide +kernel
theorem dX7_init_27 : decode cX7_init 27 = .ok (.iconst 2, 1) := by decide +kernel
theorem dX7_init_28 : decode cX7_init 28 = .ok (.anewarray 7, 3) := by decide +kernel
theorem dX7_init_31 : decode cX7_init 31 = .ok (.putfield 19, 3) := by decide +kernel
theorem dX7_init_34 : decode cX7_init 34 = .ok (.aload_n 0, 1) := by decide +kernel
theorem dX7_init_35 : decode cX7_init 35 = .ok (.new 23, 3) := by decide +kernel
theorem dX7_init_38 : decode cX7_init 38 = .ok (.dup, 1) := by decide +kernel
theorem dX7_init_39 : decode cX7_init 39 = .ok (.invokespecial 25, 3) := by decide +kernel
theorem dX7_init_42 : decode cX7_init 42 = .ok (.putfield 26, 3) := by decide +kernel
theorem dX7_init_45 : decode cX7_init 45 = .ok (.aload_n 0, 1) := by decide +kernel
theorem dX7_init_46 : decode cX7_init 46 = .ok (.new 30, 3) := by decide +kernel
theorem dX7_init_49 : decode cX7_init 49 = .ok (.dup, 1) := by decide +kernel
theorem dX7_init_50 : decode cX7_init 50 = .ok (.invokespecial 32, 3) := by decide +kernel
theorem dX7_init_53 : decode cX7_init 53 = .ok (.putfield 33, 3) := by decide +kernel
theorem dX7_init_56 : decode cX7_init 56 = .ok (.return_, 1) := by decide +kernel
theorem dX7_append_0 : decode cX7_append 0 = .ok (.aload_n 0, 1) := by decide +kernel
theorem dX7_append_1 : decode cX7_append 1 = .ok (.getfield 33, 3) := by decide +kernel
theorem dX7_append_4 : decode cX7_append 4 = .ok (.lload_n 1, 1) := by decide +kernel
theorem dX7_append_5 : decode cX7_append 5 = .ok (.invokevirtual 37, 3) := by decide +kernel
theorem dX7_append_8 : decode cX7_append 8 = .ok (.ireturn, 1) := by decide +kernel
theorem dX7_load_0 : decode cX7_load 0 = .ok (.aload_n 0, 1) := by decide +kernel
theorem dX7_load_1 : decode cX7_load 1 = .ok (.getfield 33, 3) := by decide +kernel
theorem dX7_load_4 : decode cX7_load 4 = .ok (.aload_n 0, 1) := by decide +kernel
theorem dX7_load_5 : decode cX7_load 5 = .ok (.getfield 16, 3) := by decide +kernel
theorem dX7_load_8 : decode cX7_load 8 = .ok (.invokevirtual 41, 3) := by decide +kernel
theorem dX7_load_11 : decode cX7_load 11 = .ok (.aload_n 0, 1) := by decide +kernel
theorem dX7_load_12 : decode cX7_load 12 = .ok (.getfield 33, 3) := by decide +kernel
theorem dX7_load_15 : decode cX7_load 15 = .ok (.getfield 45, 3) := by decide +kernel
theorem dX7_load_18 : decode cX7_load 18 = .ok (.ifCond .eq 14, 3) := by decide +kernel
theorem dX7_load_21 : decode cX7_load 21 = .ok (.bipush (-100), 2) := by decide +kernel
theorem dX7_load_23 : decode cX7_load 23 = .ok (.aload_n 0, 1) := by decide +kernel
theorem dX7_load_24 : decode cX7_load 24 = .ok (.getfield 33, 3) := by decide +kernel
theorem dX7_load_27 : decode cX7_load 27 = .ok (.getfield 49, 3) := by decide +kernel
theorem dX7_load_30 : decode cX7_load 30 = .ok (.isub, 1) := by decide +kernel
theorem dX7_load_31 : decode cX7_load 31 = .ok (.ireturn, 1) := by decide +kernel
theorem dX7_load_32 : decode cX7_load 32 = .ok (.aload_n 0, 1) := by decide +kernel
theorem dX7_load_33 : decode cX7_load 33 = .ok (.getfield 10, 3) := by decide +kernel
theorem dX7_load_36 : decode cX7_load 36 = .ok (.aload_n 0, 1) := by decide +kernel
theorem dX7_load_37 : decode cX7_load 37 = .ok (.getfield 16, 3) := by decide +kernel
theorem dX7_load_40 : decode cX7_load 40 = .ok (.invokevirtual 52, 3) := by decide +kernel
theorem dX7_load_43 : decode cX7_load 43 = .ok (.aload_n 0, 1) := by decide +kernel
theorem dX7_load_44 : decode cX7_load 44 = .ok (.getfield 10, 3) := by decide +kernel
theorem dX7_load_47 : decode cX7_load 47 = .ok (.getfield 55, 3) := by decide +kernel
theorem dX7_load_50 : decode cX7_load 50 = .ok (.getfield 59, 3) := by decide +kernel
theorem dX7_load_53 : decode cX7_load 53 = .ok (.ireturn, 1) := by decide +kernel
theorem dX7_loadError_0 : decode cX7_loadError 0 = .ok (.aload_n 0, 1) := by decide +kernel
theorem dX7_loadError_1 : decode cX7_loadError 1 = .ok (.getfield 33, 3) := by decide +kernel
theorem dX7_loadError_4 : decode cX7_loadError 4 = .ok (.getfield 45, 3) := by decide +kernel
theorem dX7_loadError_7 : decode cX7_loadError 7 = .ok (.ireturn, 1) := by decide +kernel
theorem dX7_nodeNamed_0 : decode cX7_nodeNamed 0 = .ok (.aload_n 0, 1) := by decide +kernel
theorem dX7_nodeNamed_1 : decode cX7_nodeNamed 1 = .ok (.getfield 10, 3) := by decide +kernel
theorem dX7_nodeNamed_4 : decode cX7_nodeNamed 4 = .ok (.aload_n 0, 1) := by decide +kernel
theorem dX7_nodeNamed_5 : decode cX7_nodeNamed 5 = .ok (.getfield 33, 3) := by decide +kernel
theorem dX7_nodeNamed_8 : decode cX7_nodeNamed 8 = .ok (.invokevirtual 64, 3) := by decide +kernel
theorem dX7_nodeNamed_11 : decode cX7_nodeNamed 11 = .ok (.invokevirtual 68, 3) := by decide +kernel
theorem dX7_nodeNamed_14 : decode cX7_nodeNamed 14 = .ok (.ireturn, 1) := by decide +kernel
theorem dX7_nodeCount_0 : decode cX7_nodeCount 0 = .ok (.aload_n 0, 1) := by decide +kernel
theorem dX7_nodeCount_1 : decode cX7_nodeCount 1 = .ok (.getfield 10, 3) := by decide +kernel
theorem dX7_nodeCount_4 : decode cX7_nodeCount 4 = .ok (.getfield 71, 3) := by decide +kernel
theorem dX7_nodeCount_7 : decode cX7_nodeCount 7 = .ok (.ireturn, 1) := by decide +kernel
theorem dX7_linkCount_0 : decode cX7_linkCount 0 = .ok (.aload_n 0, 1) := by decide +kernel
theorem dX7_linkCount_1 : decode cX7_linkCount 1 = .ok (.getfield 10, 3) := by decide +kernel
theorem dX7_linkCount_4 : decode cX7_linkCount 4 = .ok (.getfield 55, 3) := by decide +kernel
theorem dX7_linkCount_7 : decode cX7_linkCount 7 = .ok (.getfield 59, 3) := by decide +kernel
theorem dX7_linkCount_10 : decode cX7_linkCount 10 = .ok (.ireturn, 1) := by decide +kernel
theorem dX7_nameLetter_0 : decode cX7_nameLetter 0 = .ok (.iload_n 1, 1) := by decide +kernel
theorem dX7_nameLetter_1 : decode cX7_nameLetter 1 = .ok (.aload_n 0, 1) := by decide +kernel
theorem dX7_nameLetter_2 : decode cX7_nameLetter 2 = .ok (.getfield 10, 3) := by decide +kernel
theorem dX7_nameLetter_5 : decode cX7_nameLetter 5 = .ok (.getfield 71, 3) := by decide +kernel
theorem dX7_nameLetter_8 : decode cX7_nameLetter 8 = .ok (.invokestatic 74, 3) := by decide +kernel
theorem dX7_nameLetter_11 : decode cX7_nameLetter 11 = .ok (.aload_n 0, 1) := by decide +kernel
theorem dX7_nameLetter_12 : decode cX7_nameLetter 12 = .ok (.getfield 10, 3) := by decide +kernel
theorem dX7_nameLetter_15 : decode cX7_nameLetter 15 = .ok (.getfield 78, 3) := by decide +kernel
theorem dX7_nameLetter_18 : decode cX7_nameLetter 18 = .ok (.iload_n 1, 1) := by decide +kernel
theorem dX7_nameLetter_19 : decode cX7_nameLetter 19 = .ok (.laload, 1) := by decide +kernel
theorem dX7_nameLetter_20 : decode cX7_nameLetter 20 = .ok (.iload_n 2, 1) := by decide +kernel
theorem dX7_nameLetter_21 : decode cX7_nameLetter 21 = .ok (.invokestatic 82, 3) := by decide +kernel
theorem dX7_nameLetter_24 : decode cX7_nameLetter 24 = .ok (.ireturn, 1) := by decide +kernel
theorem dX7_linkValue_0 : decode cX7_linkValue 0 = .ok (.iload_n 1, 1) := by decide +kernel
theorem dX7_linkValue_1 : decode cX7_linkValue 1 = .ok (.aload_n 0, 1) := by decide +kernel
theorem dX7_linkValue_2 : decode cX7_linkValue 2 = .ok (.getfield 10, 3) := by decide +kernel
theorem dX7_linkValue_5 : decode cX7_linkValue 5 = .ok (.getfield 55, 3) := by decide +kernel
theorem dX7_linkValue_8 : decode cX7_linkValue 8 = .ok (.getfield 59, 3) := by decide +kernel
theorem dX7_linkValue_11 : decode cX7_linkValue 11 = .ok (.invokestatic 74, 3) := by decide +kernel
theorem dX7_linkValue_14 : decode cX7_linkValue 14 = .ok (.iload_n 2, 1) := by decide +kernel
theorem dX7_linkValue_15 : decode cX7_linkValue 15 = .ok (.iconst 0, 1) := by decide +kernel
theorem dX7_linkValue_16 : decode cX7_linkValue 16 = .ok (.bipush 8, 2) := by decide +kernel
theorem dX7_linkValue_18 : decode cX7_linkValue 18 = .ok (.invokestatic 86, 3) := by decide +kernel
theorem dX7_linkValue_21 : decode cX7_linkValue 21 = .ok (.aload_n 0, 1) := by decide +kernel
theorem dX7_linkValue_22 : decode cX7_linkValue 22 = .ok (.getfield 10, 3) := by decide +kernel
theorem dX7_linkValue_25 : decode cX7_linkValue 25 = .ok (.getfield 55, 3) := by decide +kernel
theorem dX7_linkValue_28 : decode cX7_linkValue 28 = .ok (.iload_n 1, 1) := by decide +kernel
theorem dX7_linkValue_29 : decode cX7_linkValue 29 = .ok (.iload_n 2, 1) := by decide +kernel
theorem dX7_linkValue_30 : decode cX7_linkValue 30 = .ok (.invokevirtual 90, 3) := by decide +kernel
theorem dX7_linkValue_33 : decode cX7_linkValue 33 = .ok (.ireturn, 1) := by decide +kernel
theorem dX7_setting_0 : decode cX7_setting 0 = .ok (.iload_n 1, 1) := by decide +kernel
theorem dX7_setting_1 : decode cX7_setting 1 = .ok (.iconst 0, 1) := by decide +kernel
theorem dX7_setting_2 : decode cX7_setting 2 = .ok (.iconst 4, 1) := by decide +kernel
theorem dX7_setting_3 : decode cX7_setting 3 = .ok (.invokestatic 86, 3) := by decide +kernel
theorem dX7_setting_6 : decode cX7_setting 6 = .ok (.aload_n 0, 1) := by decide +kernel
theorem dX7_setting_7 : decode cX7_setting 7 = .ok (.getfield 10, 3) := by decide +kernel
theorem dX7_setting_10 : decode cX7_setting 10 = .ok (.getfield 94, 3) := by decide +kernel
theorem dX7_setting_13 : decode cX7_setting 13 = .ok (.iload_n 1, 1) := by decide +kernel
theorem dX7_setting_14 : decode cX7_setting 14 = .ok (.iaload, 1) := by decide +kernel
theorem dX7_setting_15 : decode cX7_setting 15 = .ok (.ireturn, 1) := by decide +kernel
theorem dX7_setSetting_0 : decode cX7_setSetting 0 = .ok (.iload_n 1, 1) := by decide +kernel
theorem dX7_setSetting_1 : decode cX7_setSetting 1 = .ok (.iconst 0, 1) := by decide +kernel
theorem dX7_setSetting_2 : decode cX7_setSetting 2 = .ok (.iconst 4, 1) := by decide +kernel
theorem dX7_setSetting_3 : decode cX7_setSetting 3 = .ok (.invokestatic 86, 3) := by decide +kernel
theorem dX7_setSetting_6 : decode cX7_setSetting 6 = .ok (.iload_n 2, 1) := by decide +kernel
theorem dX7_setSetting_7 : decode cX7_setSetting 7 = .ok (.getstatic 98, 3) := by decide +kernel
theorem dX7_setSetting_10 : decode cX7_setSetting 10 = .ok (.iload_n 1, 1) := by decide +kernel
theorem dX7_setSetting_11 : decode cX7_setSetting 11 = .ok (.iaload, 1) := by decide +kernel
theorem dX7_setSetting_12 : decode cX7_setSetting 12 = .ok (.getstatic 101, 3) := by decide +kernel
theorem dX7_setSetting_15 : decode cX7_setSetting 15 = .ok (.iload_n 1, 1) := by decide +kernel
theorem dX7_setSetting_16 : decode cX7_setSetting 16 = .ok (.iaload, 1) := by decide +kernel
theorem dX7_setSetting_17 : decode cX7_setSetting 17 = .ok (.invokestatic 86, 3) := by decide +kernel
theorem dX7_setSetting_20 : decode cX7_setSetting 20 = .ok (.aload_n 0, 1) := by decide +kernel
theorem dX7_setSetting_21 : decode cX7_setSetting 21 = .ok (.getfield 10, 3) := by decide +kernel
theorem dX7_setSetting_24 : decode cX7_setSetting 24 = .ok (.getfield 94, 3) := by decide +kernel
theorem dX7_setSetting_27 : decode cX7_setSetting 27 = .ok (.iload_n 1, 1) := by decide +kernel
theorem dX7_setSetting_28 : decode cX7_setSetting 28 = .ok (.iaload, 1) := by decide +kernel
theorem dX7_setSetting_29 : decode cX7_setSetting 29 = .ok (.istore_n 3, 1) := by decide +kernel
theorem dX7_setSetting_30 : decode cX7_setSetting 30 = .ok (.aload_n 0, 1) := by decide +kernel
theorem dX7_setSetting_31 : decode cX7_setSetting 31 = .ok (.getfield 10, 3) := by decide +kernel
theorem dX7_setSetting_34 : decode cX7_setSetting 34 = .ok (.getfield 94, 3) := by decide +kernel
theorem dX7_setSetting_37 : decode cX7_setSetting 37 = .ok (.iload_n 1, 1) := by decide +kernel
theorem dX7_setSetting_38 : decode cX7_setSetting 38 = .ok (.iload_n 2, 1) := by decide +kernel
theorem dX7_setSetting_39 : decode cX7_setSetting 39 = .ok (.iastore, 1) := by decide +kernel
theorem dX7_setSetting_40 : decode cX7_setSetting 40 = .ok (.iload_n 3, 1) := by decide +kernel
theorem dX7_setSetting_41 : decode cX7_setSetting 41 = .ok (.ireturn, 1) := by decide +kernel
theorem dX7_setCapacity_0 : decode cX7_setCapacity 0 = .ok (.iload_n 1, 1) := by decide +kernel
theorem dX7_setCapacity_1 : decode cX7_setCapacity 1 = .ok (.aload_n 0, 1) := by decide +kernel
theorem dX7_setCapacity_2 : decode cX7_setCapacity 2 = .ok (.getfield 10, 3) := by decide +kernel
theorem dX7_setCapacity_5 : decode cX7_setCapacity 5 = .ok (.getfield 55, 3) := by decide +kernel
theorem dX7_setCapacity_8 : decode cX7_setCapacity 8 = .ok (.getfield 59, 3) := by decide +kernel
theorem dX7_setCapacity_11 : decode cX7_setCapacity 11 = .ok (.invokestatic 74, 3) := by decide +kernel
theorem dX7_setCapacity_14 : decode cX7_setCapacity 14 = .ok (.iload_n 2, 1) := by decide +kernel
theorem dX7_setCapacity_15 : decode cX7_setCapacity 15 = .ok (.iconst 0, 1) := by decide +kernel
theorem dX7_setCapacity_16 : decode cX7_setCapacity 16 = .ok (.sipush 1000, 3) := by decide +kernel
theorem dX7_setCapacity_19 : decode cX7_setCapacity 19 = .ok (.invokestatic 86, 3) := by decide +kernel
theorem dX7_setCapacity_22 : decode cX7_setCapacity 22 = .ok (.aload_n 0, 1) := by decide +kernel
theorem dX7_setCapacity_23 : decode cX7_setCapacity 23 = .ok (.getfield 10, 3) := by decide +kernel
theorem dX7_setCapacity_26 : decode cX7_setCapacity 26 = .ok (.getfield 55, 3) := by decide +kernel
theorem dX7_setCapacity_29 : decode cX7_setCapacity 29 = .ok (.getfield 104, 3) := by decide +kernel
theorem dX7_setCapacity_32 : decode cX7_setCapacity 32 = .ok (.iload_n 1, 1) := by decide +kernel
theorem dX7_setCapacity_33 : decode cX7_setCapacity 33 = .ok (.iaload, 1) := by decide +kernel
theorem dX7_setCapacity_34 : decode cX7_setCapacity 34 = .ok (.iload_n 2, 1) := by decide +kernel
theorem dX7_setCapacity_35 : decode cX7_setCapacity 35 = .ok (.if_icmp .le 6, 3) := by decide +kernel
theorem dX7_setCapacity_38 : decode cX7_setCapacity 38 = .ok (.bipush (-3), 2) := by decide +kernel
theorem dX7_setCapacity_40 : decode cX7_setCapacity 40 = .ok (.ireturn, 1) := by decide +kernel
theorem dX7_setCapacity_41 : decode cX7_setCapacity 41 = .ok (.aload_n 0, 1) := by decide +kernel
theorem dX7_setCapacity_42 : decode cX7_setCapacity 42 = .ok (.getfield 10, 3) := by decide +kernel
theorem dX7_setCapacity_45 : decode cX7_setCapacity 45 = .ok (.getfield 55, 3) := by decide +kernel
theorem dX7_setCapacity_48 : decode cX7_setCapacity 48 = .ok (.getfield 107, 3) := by decide +kernel
theorem dX7_setCapacity_51 : decode cX7_setCapacity 51 = .ok (.iload_n 1, 1) := by decide +kernel
theorem dX7_setCapacity_52 : decode cX7_setCapacity 52 = .ok (.iaload, 1) := by decide +kernel
theorem dX7_setCapacity_53 : decode cX7_setCapacity 53 = .ok (.istore_n 3, 1) := by decide +kernel
theorem dX7_setCapacity_54 : decode cX7_setCapacity 54 = .ok (.aload_n 0, 1) := by decide +kernel
theorem dX7_setCapacity_55 : decode cX7_setCapacity 55 = .ok (.getfield 10, 3) := by decide +kernel
theorem dX7_setCapacity_58 : decode cX7_setCapacity 58 = .ok (.getfield 55, 3) := by decide +kernel
theorem dX7_setCapacity_61 : decode cX7_setCapacity 61 = .ok (.getfield 107, 3) := by decide +kernel
theorem dX7_setCapacity_64 : decode cX7_setCapacity 64 = .ok (.iload_n 1, 1) := by decide +kernel
theorem dX7_setCapacity_65 : decode cX7_setCapacity 65 = .ok (.iload_n 2, 1) := by decide +kernel
theorem dX7_setCapacity_66 : decode cX7_setCapacity 66 = .ok (.iastore, 1) := by decide +kernel
theorem dX7_setCapacity_67 : decode cX7_setCapacity 67 = .ok (.iload_n 3, 1) := by decide +kernel
theorem dX7_setCapacity_68 : decode cX7_setCapacity 68 = .ok (.ireturn, 1) := by decide +kernel
theorem dX7_takeDown_0 : decode cX7_takeDown 0 = .ok (.iload_n 1, 1) := by decide +kernel
theorem dX7_takeDown_1 : decode cX7_takeDown 1 = .ok (.aload_n 0, 1) := by decide +kernel
theorem dX7_takeDown_2 : decode cX7_takeDown 2 = .ok (.getfield 10, 3) := by decide +kernel
theorem dX7_takeDown_5 : decode cX7_takeDown 5 = .ok (.getfield 55, 3) := by decide +kernel
theorem dX7_takeDown_8 : decode cX7_takeDown 8 = .ok (.getfield 59, 3) := by decide +kernel
theorem dX7_takeDown_11 : decode cX7_takeDown 11 = .ok (.invokestatic 74, 3) := by decide +kernel
theorem dX7_takeDown_14 : decode cX7_takeDown 14 = .ok (.aload_n 0, 1) := by decide +kernel
theorem dX7_takeDown_15 : decode cX7_takeDown 15 = .ok (.getfield 10, 3) := by decide +kernel
theorem dX7_takeDown_18 : decode cX7_takeDown 18 = .ok (.getfield 55, 3) := by decide +kernel
theorem dX7_takeDown_21 : decode cX7_takeDown 21 = .ok (.iload_n 1, 1) := by decide +kernel
theorem dX7_takeDown_22 : decode cX7_takeDown 22 = .ok (.invokevirtual 110, 3) := by decide +kernel
theorem dX7_takeDown_25 : decode cX7_takeDown 25 = .ok (.ifCond .eq 14, 3) := by decide +kernel
theorem dX7_takeDown_28 : decode cX7_takeDown 28 = .ok (.aload_n 0, 1) := by decide +kernel
theorem dX7_takeDown_29 : decode cX7_takeDown 29 = .ok (.getfield 10, 3) := by decide +kernel
theorem dX7_takeDown_32 : decode cX7_takeDown 32 = .ok (.iload_n 1, 1) := by decide +kernel
theorem dX7_takeDown_33 : decode cX7_takeDown 33 = .ok (.invokevirtual 114, 3) := by decide +kernel
theorem dX7_takeDown_36 : decode cX7_takeDown 36 = .ok (.goto 5, 3) := by decide +kernel
theorem dX7_takeDown_39 : decode cX7_takeDown 39 = .ok (.bipush (-3), 2) := by decide +kernel
theorem dX7_takeDown_41 : decode cX7_takeDown 41 = .ok (.ireturn, 1) := by decide +kernel
theorem dX7_bringUp_0 : decode cX7_bringUp 0 = .ok (.iload_n 1, 1) := by decide +kernel
theorem dX7_bringUp_1 : decode cX7_bringUp 1 = .ok (.aload_n 0, 1) := by decide +kernel
theorem dX7_bringUp_2 : decode cX7_bringUp 2 = .ok (.getfield 10, 3) := by decide +kernel
theorem dX7_bringUp_5 : decode cX7_bringUp 5 = .ok (.getfield 55, 3) := by decide +kernel
theorem dX7_bringUp_8 : decode cX7_bringUp 8 = .ok (.getfield 59, 3) := by decide +kernel
theorem dX7_bringUp_11 : decode cX7_bringUp 11 = .ok (.invokestatic 74, 3) := by decide +kernel
theorem dX7_bringUp_14 : decode cX7_bringUp 14 = .ok (.aload_n 0, 1) := by decide +kernel
theorem dX7_bringUp_15 : decode cX7_bringUp 15 = .ok (.getfield 10, 3) := by decide +kernel
theorem dX7_bringUp_18 : decode cX7_bringUp 18 = .ok (.getfield 55, 3) := by decide +kernel
theorem dX7_bringUp_21 : decode cX7_bringUp 21 = .ok (.iload_n 1, 1) := by decide +kernel
theorem dX7_bringUp_22 : decode cX7_bringUp 22 = .ok (.invokevirtual 110, 3) := by decide +kernel
theorem dX7_bringUp_25 : decode cX7_bringUp 25 = .ok (.ifCond .eq 6, 3) := by decide +kernel
theorem dX7_bringUp_28 : decode cX7_bringUp 28 = .ok (.bipush (-3), 2) := by decide +kernel
theorem dX7_bringUp_30 : decode cX7_bringUp 30 = .ok (.ireturn, 1) := by decide +kernel
theorem dX7_bringUp_31 : decode cX7_bringUp 31 = .ok (.aload_n 0, 1) := by decide +kernel
theorem dX7_bringUp_32 : decode cX7_bringUp 32 = .ok (.getfield 10, 3) := by decide +kernel
theorem dX7_bringUp_35 : decode cX7_bringUp 35 = .ok (.getfield 55, 3) := by decide +kernel
theorem dX7_bringUp_38 : decode cX7_bringUp 38 = .ok (.dup, 1) := by decide +kernel
theorem dX7_bringUp_39 : decode cX7_bringUp 39 = .ok (.getfield 118, 3) := by decide +kernel
theorem dX7_bringUp_42 : decode cX7_bringUp 42 = .ok (.iconst 1, 1) := by decide +kernel
theorem dX7_bringUp_43 : decode cX7_bringUp 43 = .ok (.iload_n 1, 1) := by decide +kernel
theorem dX7_bringUp_44 : decode cX7_bringUp 44 = .ok (.ishl, 1) := by decide +kernel
theorem dX7_bringUp_45 : decode cX7_bringUp 45 = .ok (.ior, 1) := by decide +kernel
theorem dX7_bringUp_46 : decode cX7_bringUp 46 = .ok (.putfield 118, 3) := by decide +kernel
theorem dX7_bringUp_49 : decode cX7_bringUp 49 = .ok (.aload_n 0, 1) := by decide +kernel
theorem dX7_bringUp_50 : decode cX7_bringUp 50 = .ok (.getfield 10, 3) := by decide +kernel
theorem dX7_bringUp_53 : decode cX7_bringUp 53 = .ok (.getfield 121, 3) := by decide +kernel
theorem dX7_bringUp_56 : decode cX7_bringUp 56 = .ok (.ireturn, 1) := by decide +kernel
theorem dX7_request_0 : decode cX7_request 0 = .ok (.aload_n 0, 1) := by decide +kernel
theorem dX7_request_1 : decode cX7_request 1 = .ok (.iload_n 1, 1) := by decide +kernel
theorem dX7_request_2 : decode cX7_request 2 = .ok (.iload_n 2, 1) := by decide +kernel
theorem dX7_request_3 : decode cX7_request 3 = .ok (.invokevirtual 124, 3) := by decide +kernel
theorem dX7_request_6 : decode cX7_request 6 = .ok (.iload_n 3, 1) := by decide +kernel
theorem dX7_request_7 : decode cX7_request 7 = .ok (.iconst 1, 1) := by decide +kernel
theorem dX7_request_8 : decode cX7_request 8 = .ok (.sipush 1000, 3) := by decide +kernel
theorem dX7_request_11 : decode cX7_request 11 = .ok (.invokestatic 86, 3) := by decide +kernel
theorem dX7_request_14 : decode cX7_request 14 = .ok (.iload 4, 2) := by decide +kernel
theorem dX7_request_16 : decode cX7_request 16 = .ok (.iconst 1, 1) := by decide +kernel
theorem dX7_request_17 : decode cX7_request 17 = .ok (.sipush 10000, 3) := by decide +kernel
theorem dX7_request_20 : decode cX7_request 20 = .ok (.invokestatic 86, 3) := by decide +kernel
theorem dX7_request_23 : decode cX7_request 23 = .ok (.aload_n 0, 1) := by decide +kernel
theorem dX7_request_24 : decode cX7_request 24 = .ok (.getfield 10, 3) := by decide +kernel
theorem dX7_request_27 : decode cX7_request 27 = .ok (.iload_n 1, 1) := by decide +kernel
theorem dX7_request_28 : decode cX7_request 28 = .ok (.iload_n 2, 1) := by decide +kernel
theorem dX7_request_29 : decode cX7_request 29 = .ok (.iload_n 3, 1) := by decide +kernel
theorem dX7_request_30 : decode cX7_request 30 = .ok (.iload 4, 2) := by decide +kernel
theorem dX7_request_32 : decode cX7_request 32 = .ok (.invokevirtual 127, 3) := by decide +kernel
theorem dX7_request_35 : decode cX7_request 35 = .ok (.ireturn, 1) := by decide +kernel
theorem dX7_cancel_0 : decode cX7_cancel 0 = .ok (.iload_n 1, 1) := by decide +kernel
theorem dX7_cancel_1 : decode cX7_cancel 1 = .ok (.aload_n 0, 1) := by decide +kernel
theorem dX7_cancel_2 : decode cX7_cancel 2 = .ok (.getfield 10, 3) := by decide +kernel
theorem dX7_cancel_5 : decode cX7_cancel 5 = .ok (.getfield 131, 3) := by decide +kernel
theorem dX7_cancel_8 : decode cX7_cancel 8 = .ok (.getfield 135, 3) := by decide +kernel
theorem dX7_cancel_11 : decode cX7_cancel 11 = .ok (.invokestatic 74, 3) := by decide +kernel
theorem dX7_cancel_14 : decode cX7_cancel 14 = .ok (.aload_n 0, 1) := by decide +kernel
theorem dX7_cancel_15 : decode cX7_cancel 15 = .ok (.getfield 10, 3) := by decide +kernel
theorem dX7_cancel_18 : decode cX7_cancel 18 = .ok (.getfield 131, 3) := by decide +kernel
theorem dX7_cancel_21 : decode cX7_cancel 21 = .ok (.iload_n 1, 1) := by decide +kernel
theorem dX7_cancel_22 : decode cX7_cancel 22 = .ok (.invokevirtual 138, 3) := by decide +kernel
theorem dX7_cancel_25 : decode cX7_cancel 25 = .ok (.ifCond .ne 19, 3) := by decide +kernel
theorem dX7_cancel_28 : decode cX7_cancel 28 = .ok (.aload_n 0, 1) := by decide +kernel
theorem dX7_cancel_29 : decode cX7_cancel 29 = .ok (.getfield 10, 3) := by decide +kernel
theorem dX7_cancel_32 : decode cX7_cancel 32 = .ok (.getfield 131, 3) := by decide +kernel
theorem dX7_cancel_35 : decode cX7_cancel 35 = .ok (.getfield 141, 3) := by decide +kernel
theorem dX7_cancel_38 : decode cX7_cancel 38 = .ok (.iload_n 1, 1) := by decide +kernel
theorem dX7_cancel_39 : decode cX7_cancel 39 = .ok (.iaload, 1) := by decide +kernel
theorem dX7_cancel_40 : decode cX7_cancel 40 = .ok (.iconst 2, 1) := by decide +kernel
theorem dX7_cancel_41 : decode cX7_cancel 41 = .ok (.if_icmp .ne 7, 3) := by decide +kernel
theorem dX7_cancel_44 : decode cX7_cancel 44 = .ok (.iconst 1, 1) := by decide +kernel
theorem dX7_cancel_45 : decode cX7_cancel 45 = .ok (.goto 4, 3) := by decide +kernel
theorem dX7_cancel_48 : decode cX7_cancel 48 = .ok (.iconst 0, 1) := by decide +kernel
theorem dX7_cancel_49 : decode cX7_cancel 49 = .ok (.istore_n 2, 1) := by decide +kernel
theorem dX7_cancel_50 : decode cX7_cancel 50 = .ok (.iload_n 2, 1) := by decide +kernel
theorem dX7_cancel_51 : decode cX7_cancel 51 = .ok (.ifCond .eq 14, 3) := by decide +kernel
theorem dX7_cancel_54 : decode cX7_cancel 54 = .ok (.aload_n 0, 1) := by decide +kernel
theorem dX7_cancel_55 : decode cX7_cancel 55 = .ok (.getfield 10, 3) := by decide +kernel
theorem dX7_cancel_58 : decode cX7_cancel 58 = .ok (.iload_n 1, 1) := by decide +kernel
theorem dX7_cancel_59 : decode cX7_cancel 59 = .ok (.invokevirtual 144, 3) := by decide +kernel
theorem dX7_cancel_62 : decode cX7_cancel 62 = .ok (.goto 5, 3) := by decide +kernel
theorem dX7_cancel_65 : decode cX7_cancel 65 = .ok (.bipush (-3), 2) := by decide +kernel
theorem dX7_cancel_67 : decode cX7_cancel 67 = .ok (.ireturn, 1) := by decide +kernel
theorem dX7_extend_0 : decode cX7_extend 0 = .ok (.iload_n 1, 1) := by decide +kernel
theorem dX7_extend_1 : decode cX7_extend 1 = .ok (.aload_n 0, 1) := by decide +kernel
theorem dX7_extend_2 : decode cX7_extend 2 = .ok (.getfield 10, 3) := by decide +kernel
theorem dX7_extend_5 : decode cX7_extend 5 = .ok (.getfield 131, 3) := by decide +kernel
theorem dX7_extend_8 : decode cX7_extend 8 = .ok (.getfield 135, 3) := by decide +kernel
theorem dX7_extend_11 : decode cX7_extend 11 = .ok (.invokestatic 74, 3) := by decide +kernel
theorem dX7_extend_14 : decode cX7_extend 14 = .ok (.aload_n 0, 1) := by decide +kernel
theorem dX7_extend_15 : decode cX7_extend 15 = .ok (.getfield 10, 3) := by decide +kernel
theorem dX7_extend_18 : decode cX7_extend 18 = .ok (.getfield 147, 3) := by decide +kernel
theorem dX7_extend_21 : decode cX7_extend 21 = .ok (.iload_n 1, 1) := by decide +kernel
theorem dX7_extend_22 : decode cX7_extend 22 = .ok (.aload_n 0, 1) := by decide +kernel
theorem dX7_extend_23 : decode cX7_extend 23 = .ok (.getfield 10, 3) := by decide +kernel
theorem dX7_extend_26 : decode cX7_extend 26 = .ok (.getfield 121, 3) := by decide +kernel
theorem dX7_extend_29 : decode cX7_extend 29 = .ok (.aload_n 0, 1) := by decide +kernel
theorem dX7_extend_30 : decode cX7_extend 30 = .ok (.getfield 10, 3) := by decide +kernel
theorem dX7_extend_33 : decode cX7_extend 33 = .ok (.getfield 94, 3) := by decide +kernel
theorem dX7_extend_36 : decode cX7_extend 36 = .ok (.iconst 0, 1) := by decide +kernel
theorem dX7_extend_37 : decode cX7_extend 37 = .ok (.iaload, 1) := by decide +kernel
theorem dX7_extend_38 : decode cX7_extend 38 = .ok (.iadd, 1) := by decide +kernel
theorem dX7_extend_39 : decode cX7_extend 39 = .ok (.invokevirtual 151, 3) := by decide +kernel
theorem dX7_extend_42 : decode cX7_extend 42 = .ok (.ireturn, 1) := by decide +kernel
theorem dX7_advance_0 : decode cX7_advance 0 = .ok (.iload_n 1, 1) := by decide +kernel
theorem dX7_advance_1 : decode cX7_advance 1 = .ok (.iconst 1, 1) := by decide +kernel
theorem dX7_advance_2 : decode cX7_advance 2 = .ok (.sipush 1000, 3) := by decide +kernel
theorem dX7_advance_5 : decode cX7_advance 5 = .ok (.invokestatic 86, 3) := by decide +kernel
theorem dX7_advance_8 : decode cX7_advance 8 = .ok (.aload_n 0, 1) := by decide +kernel
theorem dX7_advance_9 : decode cX7_advance 9 = .ok (.getfield 10, 3) := by decide +kernel
theorem dX7_advance_12 : decode cX7_advance 12 = .ok (.getfield 121, 3) := by decide +kernel
theorem dX7_advance_15 : decode cX7_advance 15 = .ok (.iload_n 1, 1) := by decide +kernel
theorem dX7_advance_16 : decode cX7_advance 16 = .ok (.iadd, 1) := by decide +kernel
theorem dX7_advance_17 : decode cX7_advance 17 = .ok (.ldc 156, 2) := by decide +kernel
theorem dX7_advance_19 : decode cX7_advance 19 = .ok (.if_icmp .le 6, 3) := by decide +kernel
theorem dX7_advance_22 : decode cX7_advance 22 = .ok (.bipush (-2), 2) := by decide +kernel
theorem dX7_advance_24 : decode cX7_advance 24 = .ok (.ireturn, 1) := by decide +kernel
theorem dX7_advance_25 : decode cX7_advance 25 = .ok (.aload_n 0, 1) := by decide +kernel
theorem dX7_advance_26 : decode cX7_advance 26 = .ok (.getfield 10, 3) := by decide +kernel
theorem dX7_advance_29 : decode cX7_advance 29 = .ok (.aload_n 0, 1) := by decide +kernel
theorem dX7_advance_30 : decode cX7_advance 30 = .ok (.getfield 10, 3) := by decide +kernel
theorem dX7_advance_33 : decode cX7_advance 33 = .ok (.getfield 121, 3) := by decide +kernel
theorem dX7_advance_36 : decode cX7_advance 36 = .ok (.iload_n 1, 1) := by decide +kernel
theorem dX7_advance_37 : decode cX7_advance 37 = .ok (.iadd, 1) := by decide +kernel
theorem dX7_advance_38 : decode cX7_advance 38 = .ok (.invokevirtual 157, 3) := by decide +kernel
theorem dX7_advance_41 : decode cX7_advance 41 = .ok (.aload_n 0, 1) := by decide +kernel
theorem dX7_advance_42 : decode cX7_advance 42 = .ok (.getfield 10, 3) := by decide +kernel
theorem dX7_advance_45 : decode cX7_advance 45 = .ok (.getfield 121, 3) := by decide +kernel
theorem dX7_advance_48 : decode cX7_advance 48 = .ok (.ireturn, 1) := by decide +kernel
theorem dX7_time_0 : decode cX7_time 0 = .ok (.aload_n 0, 1) := by decide +kernel
theorem dX7_time_1 : decode cX7_time 1 = .ok (.getfield 10, 3) := by decide +kernel
theorem dX7_time_4 : decode cX7_time 4 = .ok (.getfield 121, 3) := by decide +kernel
theorem dX7_time_7 : decode cX7_time 7 = .ok (.ireturn, 1) := by decide +kernel
theorem dX7_requestCount_0 : decode cX7_requestCount 0 = .ok (.aload_n 0, 1) := by decide +kernel
theorem dX7_requestCount_1 : decode cX7_requestCount 1 = .ok (.getfield 10, 3) := by decide +kernel
theorem dX7_requestCount_4 : decode cX7_requestCount 4 = .ok (.getfield 131, 3) := by decide +kernel
theorem dX7_requestCount_7 : decode cX7_requestCount 7 = .ok (.getfield 135, 3) := by decide +kernel
theorem dX7_requestCount_10 : decode cX7_requestCount 10 = .ok (.ireturn, 1) := by decide +kernel
theorem dX7_requestValue_0 : decode cX7_requestValue 0 = .ok (.iload_n 1, 1) := by decide +kernel
theorem dX7_requestValue_1 : decode cX7_requestValue 1 = .ok (.aload_n 0, 1) := by decide +kernel
theorem dX7_requestValue_2 : decode cX7_requestValue 2 = .ok (.getfield 10, 3) := by decide +kernel
theorem dX7_requestValue_5 : decode cX7_requestValue 5 = .ok (.getfield 131, 3) := by decide +kernel
theorem dX7_requestValue_8 : decode cX7_requestValue 8 = .ok (.getfield 135, 3) := by decide +kernel
theorem dX7_requestValue_11 : decode cX7_requestValue 11 = .ok (.invokestatic 74, 3) := by decide +kernel
theorem dX7_requestValue_14 : decode cX7_requestValue 14 = .ok (.iload_n 2, 1) := by decide +kernel
theorem dX7_requestValue_15 : decode cX7_requestValue 15 = .ok (.iconst 0, 1) := by decide +kernel
theorem dX7_requestValue_16 : decode cX7_requestValue 16 = .ok (.bipush 12, 2) := by decide +kernel
theorem dX7_requestValue_18 : decode cX7_requestValue 18 = .ok (.invokestatic 86, 3) := by decide +kernel
theorem dX7_requestValue_21 : decode cX7_requestValue 21 = .ok (.aload_n 0, 1) := by decide +kernel
theorem dX7_requestValue_22 : decode cX7_requestValue 22 = .ok (.getfield 10, 3) := by decide +kernel
theorem dX7_requestValue_25 : decode cX7_requestValue 25 = .ok (.getfield 131, 3) := by decide +kernel
theorem dX7_requestValue_28 : decode cX7_requestValue 28 = .ok (.iload_n 1, 1) := by decide +kernel
theorem dX7_requestValue_29 : decode cX7_requestValue 29 = .ok (.iload_n 2, 1) := by decide +kernel
theorem dX7_requestValue_30 : decode cX7_requestValue 30 = .ok (.invokevirtual 161, 3) := by decide +kernel
theorem dX7_requestValue_33 : decode cX7_requestValue 33 = .ok (.ireturn, 1) := by decide +kernel
theorem dX7_pathLength_0 : decode cX7_pathLength 0 = .ok (.iload_n 1, 1) := by decide +kernel
theorem dX7_pathLength_1 : decode cX7_pathLength 1 = .ok (.aload_n 0, 1) := by decide +kernel
theorem dX7_pathLength_2 : decode cX7_pathLength 2 = .ok (.getfield 10, 3) := by decide +kernel
theorem dX7_pathLength_5 : decode cX7_pathLength 5 = .ok (.getfield 131, 3) := by decide +kernel
theorem dX7_pathLength_8 : decode cX7_pathLength 8 = .ok (.getfield 135, 3) := by decide +kernel
theorem dX7_pathLength_11 : decode cX7_pathLength 11 = .ok (.invokestatic 74, 3) := by decide +kernel
theorem dX7_pathLength_14 : decode cX7_pathLength 14 = .ok (.aload_n 0, 1) := by decide +kernel
theorem dX7_pathLength_15 : decode cX7_pathLength 15 = .ok (.getfield 10, 3) := by decide +kernel
theorem dX7_pathLength_18 : decode cX7_pathLength 18 = .ok (.getfield 131, 3) := by decide +kernel
theorem dX7_pathLength_21 : decode cX7_pathLength 21 = .ok (.getfield 162, 3) := by decide +kernel
theorem dX7_pathLength_24 : decode cX7_pathLength 24 = .ok (.iload_n 1, 1) := by decide +kernel
theorem dX7_pathLength_25 : decode cX7_pathLength 25 = .ok (.iaload, 1) := by decide +kernel
theorem dX7_pathLength_26 : decode cX7_pathLength 26 = .ok (.ireturn, 1) := by decide +kernel
theorem dX7_pathLink_0 : decode cX7_pathLink 0 = .ok (.iload_n 1, 1) := by decide +kernel
theorem dX7_pathLink_1 : decode cX7_pathLink 1 = .ok (.aload_n 0, 1) := by decide +kernel
theorem dX7_pathLink_2 : decode cX7_pathLink 2 = .ok (.getfield 10, 3) := by decide +kernel
theorem dX7_pathLink_5 : decode cX7_pathLink 5 = .ok (.getfield 131, 3) := by decide +kernel
theorem dX7_pathLink_8 : decode cX7_pathLink 8 = .ok (.getfield 135, 3) := by decide +kernel
theorem dX7_pathLink_11 : decode cX7_pathLink 11 = .ok (.invokestatic 74, 3) := by decide +kernel
theorem dX7_pathLink_14 : decode cX7_pathLink 14 = .ok (.iload_n 2, 1) := by decide +kernel
theorem dX7_pathLink_15 : decode cX7_pathLink 15 = .ok (.ifCond .lt 23, 3) := by decide +kernel
theorem dX7_pathLink_18 : decode cX7_pathLink 18 = .ok (.iload_n 2, 1) := by decide +kernel
theorem dX7_pathLink_19 : decode cX7_pathLink 19 = .ok (.aload_n 0, 1) := by decide +kernel
theorem dX7_pathLink_20 : decode cX7_pathLink 20 = .ok (.getfield 10, 3) := by decide +kernel
theorem dX7_pathLink_23 : decode cX7_pathLink 23 = .ok (.getfield 131, 3) := by decide +kernel
theorem dX7_pathLink_26 : decode cX7_pathLink 26 = .ok (.getfield 162, 3) := by decide +kernel
theorem dX7_pathLink_29 : decode cX7_pathLink 29 = .ok (.iload_n 1, 1) := by decide +kernel
theorem dX7_pathLink_30 : decode cX7_pathLink 30 = .ok (.iaload, 1) := by decide +kernel
theorem dX7_pathLink_31 : decode cX7_pathLink 31 = .ok (.if_icmp .ge 7, 3) := by decide +kernel
theorem dX7_pathLink_34 : decode cX7_pathLink 34 = .ok (.iconst 1, 1) := by decide +kernel
theorem dX7_pathLink_35 : decode cX7_pathLink 35 = .ok (.goto 4, 3) := by decide +kernel
theorem dX7_pathLink_38 : decode cX7_pathLink 38 = .ok (.iconst 0, 1) := by decide +kernel
theorem dX7_pathLink_39 : decode cX7_pathLink 39 = .ok (.istore_n 3, 1) := by decide +kernel
theorem dX7_pathLink_40 : decode cX7_pathLink 40 = .ok (.iload_n 3, 1) := by decide +kernel
theorem dX7_pathLink_41 : decode cX7_pathLink 41 = .ok (.ifCond .eq 20, 3) := by decide +kernel
theorem dX7_pathLink_44 : decode cX7_pathLink 44 = .ok (.aload_n 0, 1) := by decide +kernel
theorem dX7_pathLink_45 : decode cX7_pathLink 45 = .ok (.getfield 10, 3) := by decide +kernel
theorem dX7_pathLink_48 : decode cX7_pathLink 48 = .ok (.getfield 131, 3) := by decide +kernel
theorem dX7_pathLink_51 : decode cX7_pathLink 51 = .ok (.getfield 165, 3) := by decide +kernel
theorem dX7_pathLink_54 : decode cX7_pathLink 54 = .ok (.iload_n 1, 1) := by decide +kernel
theorem dX7_pathLink_55 : decode cX7_pathLink 55 = .ok (.aaload, 1) := by decide +kernel
theorem dX7_pathLink_56 : decode cX7_pathLink 56 = .ok (.iload_n 2, 1) := by decide +kernel
theorem dX7_pathLink_57 : decode cX7_pathLink 57 = .ok (.iaload, 1) := by decide +kernel
theorem dX7_pathLink_58 : decode cX7_pathLink 58 = .ok (.goto 4, 3) := by decide +kernel
theorem dX7_pathLink_61 : decode cX7_pathLink 61 = .ok (.iconst (-1), 1) := by decide +kernel
theorem dX7_pathLink_62 : decode cX7_pathLink 62 = .ok (.ireturn, 1) := by decide +kernel
theorem dX7_placeOf_0 : decode cX7_placeOf 0 = .ok (.iload_n 1, 1) := by decide +kernel
theorem dX7_placeOf_1 : decode cX7_placeOf 1 = .ok (.aload_n 0, 1) := by decide +kernel
theorem dX7_placeOf_2 : decode cX7_placeOf 2 = .ok (.getfield 10, 3) := by decide +kernel
theorem dX7_placeOf_5 : decode cX7_placeOf 5 = .ok (.getfield 131, 3) := by decide +kernel
theorem dX7_placeOf_8 : decode cX7_placeOf 8 = .ok (.getfield 135, 3) := by decide +kernel
theorem dX7_placeOf_11 : decode cX7_placeOf 11 = .ok (.invokestatic 74, 3) := by decide +kernel
theorem dX7_placeOf_14 : decode cX7_placeOf 14 = .ok (.aload_n 0, 1) := by decide +kernel
theorem dX7_placeOf_15 : decode cX7_placeOf 15 = .ok (.getfield 10, 3) := by decide +kernel
theorem dX7_placeOf_18 : decode cX7_placeOf 18 = .ok (.getfield 131, 3) := by decide +kernel
theorem dX7_placeOf_21 : decode cX7_placeOf 21 = .ok (.getfield 141, 3) := by decide +kernel
theorem dX7_placeOf_24 : decode cX7_placeOf 24 = .ok (.iload_n 1, 1) := by decide +kernel
theorem dX7_placeOf_25 : decode cX7_placeOf 25 = .ok (.iaload, 1) := by decide +kernel
theorem dX7_placeOf_26 : decode cX7_placeOf 26 = .ok (.istore_n 2, 1) := by decide +kernel
theorem dX7_placeOf_27 : decode cX7_placeOf 27 = .ok (.iload_n 2, 1) := by decide +kernel
theorem dX7_placeOf_28 : decode cX7_placeOf 28 = .ok (.ifCond .eq 8, 3) := by decide +kernel
theorem dX7_placeOf_31 : decode cX7_placeOf 31 = .ok (.iload_n 2, 1) := by decide +kernel
theorem dX7_placeOf_32 : decode cX7_placeOf 32 = .ok (.iconst 1, 1) := by decide +kernel
theorem dX7_placeOf_33 : decode cX7_placeOf 33 = .ok (.if_icmp .ne 18, 3) := by decide +kernel
theorem dX7_placeOf_36 : decode cX7_placeOf 36 = .ok (.aload_n 0, 1) := by decide +kernel
theorem dX7_placeOf_37 : decode cX7_placeOf 37 = .ok (.getfield 10, 3) := by decide +kernel
theorem dX7_placeOf_40 : decode cX7_placeOf 40 = .ok (.getfield 131, 3) := by decide +kernel
theorem dX7_placeOf_43 : decode cX7_placeOf 43 = .ok (.getfield 169, 3) := by decide +kernel
theorem dX7_placeOf_46 : decode cX7_placeOf 46 = .ok (.iload_n 1, 1) := by decide +kernel
theorem dX7_placeOf_47 : decode cX7_placeOf 47 = .ok (.iaload, 1) := by decide +kernel
theorem dX7_placeOf_48 : decode cX7_placeOf 48 = .ok (.goto 4, 3) := by decide +kernel
theorem dX7_placeOf_51 : decode cX7_placeOf 51 = .ok (.iconst (-1), 1) := by decide +kernel
theorem dX7_placeOf_52 : decode cX7_placeOf 52 = .ok (.ireturn, 1) := by decide +kernel
theorem dX7_inState_0 : decode cX7_inState 0 = .ok (.iload_n 1, 1) := by decide +kernel
theorem dX7_inState_1 : decode cX7_inState 1 = .ok (.iconst 0, 1) := by decide +kernel
theorem dX7_inState_2 : decode cX7_inState 2 = .ok (.bipush 7, 2) := by decide +kernel
theorem dX7_inState_4 : decode cX7_inState 4 = .ok (.invokestatic 86, 3) := by decide +kernel
theorem dX7_inState_7 : decode cX7_inState 7 = .ok (.aload_n 0, 1) := by decide +kernel
theorem dX7_inState_8 : decode cX7_inState 8 = .ok (.getfield 10, 3) := by decide +kernel
theorem dX7_inState_11 : decode cX7_inState 11 = .ok (.getfield 131, 3) := by decide +kernel
theorem dX7_inState_14 : decode cX7_inState 14 = .ok (.iload_n 1, 1) := by decide +kernel
theorem dX7_inState_15 : decode cX7_inState 15 = .ok (.invokevirtual 172, 3) := by decide +kernel
theorem dX7_inState_18 : decode cX7_inState 18 = .ok (.ireturn, 1) := by decide +kernel
theorem dX7_requestInState_0 : decode cX7_requestInState 0 = .ok (.iload_n 1, 1) := by decide +kernel
theorem dX7_requestInState_1 : decode cX7_requestInState 1 = .ok (.iconst 0, 1) := by decide +kernel
theorem dX7_requestInState_2 : decode cX7_requestInState 2 = .ok (.bipush 7, 2) := by decide +kernel
theorem dX7_requestInState_4 : decode cX7_requestInState 4 = .ok (.invokestatic 86, 3) := by decide +kernel
theorem dX7_requestInState_7 : decode cX7_requestInState 7 = .ok (.aload_n 0, 1) := by decide +kernel
theorem dX7_requestInState_8 : decode cX7_requestInState 8 = .ok (.getfield 10, 3) := by decide +kernel
theorem dX7_requestInState_11 : decode cX7_requestInState 11 = .ok (.getfield 131, 3) := by decide +kernel
theorem dX7_requestInState_14 : decode cX7_requestInState 14 = .ok (.iload_n 1, 1) := by decide +kernel
theorem dX7_requestInState_15 : decode cX7_requestInState 15 = .ok (.iload_n 2, 1) := by decide +kernel
theorem dX7_requestInState_16 : decode cX7_requestInState 16 = .ok (.invokevirtual 175, 3) := by decide +kernel
theorem dX7_requestInState_19 : decode cX7_requestInState 19 = .ok (.ireturn, 1) := by decide +kernel
theorem dX7_ticketCount_0 : decode cX7_ticketCount 0 = .ok (.aload_n 0, 1) := by decide +kernel
theorem dX7_ticketCount_1 : decode cX7_ticketCount 1 = .ok (.getfield 10, 3) := by decide +kernel
theorem dX7_ticketCount_4 : decode cX7_ticketCount 4 = .ok (.getfield 147, 3) := by decide +kernel
theorem dX7_ticketCount_7 : decode cX7_ticketCount 7 = .ok (.getfield 178, 3) := by decide +kernel
theorem dX7_ticketCount_10 : decode cX7_ticketCount 10 = .ok (.ireturn, 1) := by decide +kernel
theorem dX7_ticketValue_0 : decode cX7_ticketValue 0 = .ok (.iload_n 1, 1) := by decide +kernel
theorem dX7_ticketValue_1 : decode cX7_ticketValue 1 = .ok (.aload_n 0, 1) := by decide +kernel
theorem dX7_ticketValue_2 : decode cX7_ticketValue 2 = .ok (.getfield 10, 3) := by decide +kernel
theorem dX7_ticketValue_5 : decode cX7_ticketValue 5 = .ok (.getfield 147, 3) := by decide +kernel
theorem dX7_ticketValue_8 : decode cX7_ticketValue 8 = .ok (.getfield 178, 3) := by decide +kernel
theorem dX7_ticketValue_11 : decode cX7_ticketValue 11 = .ok (.invokestatic 74, 3) := by decide +kernel
theorem dX7_ticketValue_14 : decode cX7_ticketValue 14 = .ok (.iload_n 2, 1) := by decide +kernel
theorem dX7_ticketValue_15 : decode cX7_ticketValue 15 = .ok (.iconst 0, 1) := by decide +kernel
theorem dX7_ticketValue_16 : decode cX7_ticketValue 16 = .ok (.bipush 7, 2) := by decide +kernel
theorem dX7_ticketValue_18 : decode cX7_ticketValue 18 = .ok (.invokestatic 86, 3) := by decide +kernel
theorem dX7_ticketValue_21 : decode cX7_ticketValue 21 = .ok (.aload_n 0, 1) := by decide +kernel
theorem dX7_ticketValue_22 : decode cX7_ticketValue 22 = .ok (.getfield 10, 3) := by decide +kernel
theorem dX7_ticketValue_25 : decode cX7_ticketValue 25 = .ok (.getfield 147, 3) := by decide +kernel
theorem dX7_ticketValue_28 : decode cX7_ticketValue 28 = .ok (.iload_n 1, 1) := by decide +kernel
theorem dX7_ticketValue_29 : decode cX7_ticketValue 29 = .ok (.iload_n 2, 1) := by decide +kernel
theorem dX7_ticketValue_30 : decode cX7_ticketValue 30 = .ok (.invokevirtual 179, 3) := by decide +kernel
theorem dX7_ticketValue_33 : decode cX7_ticketValue 33 = .ok (.ireturn, 1) := by decide +kernel
theorem dX7_ticketOn_0 : decode cX7_ticketOn 0 = .ok (.iload_n 1, 1) := by decide +kernel
theorem dX7_ticketOn_1 : decode cX7_ticketOn 1 = .ok (.aload_n 0, 1) := by decide +kernel
theorem dX7_ticketOn_2 : decode cX7_ticketOn 2 = .ok (.getfield 10, 3) := by decide +kernel
theorem dX7_ticketOn_5 : decode cX7_ticketOn 5 = .ok (.getfield 55, 3) := by decide +kernel
theorem dX7_ticketOn_8 : decode cX7_ticketOn 8 = .ok (.getfield 59, 3) := by decide +kernel
theorem dX7_ticketOn_11 : decode cX7_ticketOn 11 = .ok (.invokestatic 74, 3) := by decide +kernel
theorem dX7_ticketOn_14 : decode cX7_ticketOn 14 = .ok (.aload_n 0, 1) := by decide +kernel
theorem dX7_ticketOn_15 : decode cX7_ticketOn 15 = .ok (.getfield 10, 3) := by decide +kernel
theorem dX7_ticketOn_18 : decode cX7_ticketOn 18 = .ok (.getfield 147, 3) := by decide +kernel
theorem dX7_ticketOn_21 : decode cX7_ticketOn 21 = .ok (.iload_n 1, 1) := by decide +kernel
theorem dX7_ticketOn_22 : decode cX7_ticketOn 22 = .ok (.iload_n 2, 1) := by decide +kernel
theorem dX7_ticketOn_23 : decode cX7_ticketOn 23 = .ok (.invokevirtual 180, 3) := by decide +kernel
theorem dX7_ticketOn_26 : decode cX7_ticketOn 26 = .ok (.ireturn, 1) := by decide +kernel
theorem dX7_ticketsInState_0 : decode cX7_ticketsInState 0 = .ok (.iload_n 1, 1) := by decide +kernel
theorem dX7_ticketsInState_1 : decode cX7_ticketsInState 1 = .ok (.iconst 0, 1) := by decide +kernel
theorem dX7_ticketsInState_2 : decode cX7_ticketsInState 2 = .ok (.iconst 3, 1) := by decide +kernel
theorem dX7_ticketsInState_3 : decode cX7_ticketsInState 3 = .ok (.invokestatic 86, 3) := by decide +kernel
theorem dX7_ticketsInState_6 : decode cX7_ticketsInState 6 = .ok (.iconst 0, 1) := by decide +kernel
theorem dX7_ticketsInState_7 : decode cX7_ticketsInState 7 = .ok (.istore_n 2, 1) := by decide +kernel
theorem dX7_ticketsInState_8 : decode cX7_ticketsInState 8 = .ok (.iconst 0, 1) := by decide +kernel
theorem dX7_ticketsInState_9 : decode cX7_ticketsInState 9 = .ok (.istore_n 3, 1) := by decide +kernel
theorem dX7_ticketsInState_10 : decode cX7_ticketsInState 10 = .ok (.iload_n 3, 1) := by decide +kernel
theorem dX7_ticketsInState_11 : decode cX7_ticketsInState 11 = .ok (.aload_n 0, 1) := by decide +kernel
theorem dX7_ticketsInState_12 : decode cX7_ticketsInState 12 = .ok (.getfield 10, 3) := by decide +kernel
theorem dX7_ticketsInState_15 : decode cX7_ticketsInState 15 = .ok (.getfield 131, 3) := by decide +kernel
theorem dX7_ticketsInState_18 : decode cX7_ticketsInState 18 = .ok (.getfield 135, 3) := by decide +kernel
theorem dX7_ticketsInState_21 : decode cX7_ticketsInState 21 = .ok (.if_icmp .ge 24, 3) := by decide +kernel
theorem dX7_ticketsInState_24 : decode cX7_ticketsInState 24 = .ok (.iload_n 2, 1) := by decide +kernel
theorem dX7_ticketsInState_25 : decode cX7_ticketsInState 25 = .ok (.aload_n 0, 1) := by decide +kernel
theorem dX7_ticketsInState_26 : decode cX7_ticketsInState 26 = .ok (.getfield 10, 3) := by decide +kernel
theorem dX7_ticketsInState_29 : decode cX7_ticketsInState 29 = .ok (.getfield 147, 3) := by decide +kernel
theorem dX7_ticketsInState_32 : decode cX7_ticketsInState 32 = .ok (.iload_n 3, 1) := by decide +kernel
theorem dX7_ticketsInState_33 : decode cX7_ticketsInState 33 = .ok (.iload_n 1, 1) := by decide +kernel
theorem dX7_ticketsInState_34 : decode cX7_ticketsInState 34 = .ok (.invokevirtual 183, 3) := by decide +kernel
theorem dX7_ticketsInState_37 : decode cX7_ticketsInState 37 = .ok (.iadd, 1) := by decide +kernel
theorem dX7_ticketsInState_38 : decode cX7_ticketsInState 38 = .ok (.istore_n 2, 1) := by decide +kernel
theorem dX7_ticketsInState_39 : decode cX7_ticketsInState 39 = .ok (.iinc 3 1, 3) := by decide +kernel
theorem dX7_ticketsInState_42 : decode cX7_ticketsInState 42 = .ok (.goto (-32), 3) := by decide +kernel
theorem dX7_ticketsInState_45 : decode cX7_ticketsInState 45 = .ok (.iload_n 2, 1) := by decide +kernel
theorem dX7_ticketsInState_46 : decode cX7_ticketsInState 46 = .ok (.ireturn, 1) := by decide +kernel
theorem dX7_ticketsOf_0 : decode cX7_ticketsOf 0 = .ok (.iload_n 1, 1) := by decide +kernel
theorem dX7_ticketsOf_1 : decode cX7_ticketsOf 1 = .ok (.aload_n 0, 1) := by decide +kernel
theorem dX7_ticketsOf_2 : decode cX7_ticketsOf 2 = .ok (.getfield 10, 3) := by decide +kernel
theorem dX7_ticketsOf_5 : decode cX7_ticketsOf 5 = .ok (.getfield 131, 3) := by decide +kernel
theorem dX7_ticketsOf_8 : decode cX7_ticketsOf 8 = .ok (.getfield 135, 3) := by decide +kernel
theorem dX7_ticketsOf_11 : decode cX7_ticketsOf 11 = .ok (.invokestatic 74, 3) := by decide +kernel
theorem dX7_ticketsOf_14 : decode cX7_ticketsOf 14 = .ok (.iload_n 2, 1) := by decide +kernel
theorem dX7_ticketsOf_15 : decode cX7_ticketsOf 15 = .ok (.iconst 0, 1) := by decide +kernel
theorem dX7_ticketsOf_16 : decode cX7_ticketsOf 16 = .ok (.iconst 3, 1) := by decide +kernel
theorem dX7_ticketsOf_17 : decode cX7_ticketsOf 17 = .ok (.invokestatic 86, 3) := by decide +kernel
theorem dX7_ticketsOf_20 : decode cX7_ticketsOf 20 = .ok (.aload_n 0, 1) := by decide +kernel
theorem dX7_ticketsOf_21 : decode cX7_ticketsOf 21 = .ok (.getfield 10, 3) := by decide +kernel
theorem dX7_ticketsOf_24 : decode cX7_ticketsOf 24 = .ok (.getfield 147, 3) := by decide +kernel
theorem dX7_ticketsOf_27 : decode cX7_ticketsOf 27 = .ok (.iload_n 1, 1) := by decide +kernel
theorem dX7_ticketsOf_28 : decode cX7_ticketsOf 28 = .ok (.iload_n 2, 1) := by decide +kernel
theorem dX7_ticketsOf_29 : decode cX7_ticketsOf 29 = .ok (.invokevirtual 183, 3) := by decide +kernel
theorem dX7_ticketsOf_32 : decode cX7_ticketsOf 32 = .ok (.ireturn, 1) := by decide +kernel
theorem dX7_revenue_0 : decode cX7_revenue 0 = .ok (.aload_n 0, 1) := by decide +kernel
theorem dX7_revenue_1 : decode cX7_revenue 1 = .ok (.getfield 10, 3) := by decide +kernel
theorem dX7_revenue_4 : decode cX7_revenue 4 = .ok (.invokevirtual 185, 3) := by decide +kernel
theorem dX7_revenue_7 : decode cX7_revenue 7 = .ok (.lreturn, 1) := by decide +kernel
theorem dX7_refunds_0 : decode cX7_refunds 0 = .ok (.aload_n 0, 1) := by decide +kernel
theorem dX7_refunds_1 : decode cX7_refunds 1 = .ok (.getfield 10, 3) := by decide +kernel
theorem dX7_refunds_4 : decode cX7_refunds 4 = .ok (.getfield 131, 3) := by decide +kernel
theorem dX7_refunds_7 : decode cX7_refunds 7 = .ok (.aload_n 0, 1) := by decide +kernel
theorem dX7_refunds_8 : decode cX7_refunds 8 = .ok (.getfield 10, 3) := by decide +kernel
theorem dX7_refunds_11 : decode cX7_refunds 11 = .ok (.getfield 131, 3) := by decide +kernel
theorem dX7_refunds_14 : decode cX7_refunds 14 = .ok (.getfield 188, 3) := by decide +kernel
theorem dX7_refunds_17 : decode cX7_refunds 17 = .ok (.invokevirtual 191, 3) := by decide +kernel
theorem dX7_refunds_20 : decode cX7_refunds 20 = .ok (.lreturn, 1) := by decide +kernel
theorem dX7_nextExpiry_0 : decode cX7_nextExpiry 0 = .ok (.aload_n 0, 1) := by decide +kernel
theorem dX7_nextExpiry_1 : decode cX7_nextExpiry 1 = .ok (.getfield 10, 3) := by decide +kernel
theorem dX7_nextExpiry_4 : decode cX7_nextExpiry 4 = .ok (.getfield 147, 3) := by decide +kernel
theorem dX7_nextExpiry_7 : decode cX7_nextExpiry 7 = .ok (.invokevirtual 195, 3) := by decide +kernel
theorem dX7_nextExpiry_10 : decode cX7_nextExpiry 10 = .ok (.ireturn, 1) := by decide +kernel
theorem dX7_nextEvent_0 : decode cX7_nextEvent 0 = .ok (.aload_n 0, 1) := by decide +kernel
theorem dX7_nextEvent_1 : decode cX7_nextEvent 1 = .ok (.getfield 10, 3) := by decide +kernel
theorem dX7_nextEvent_4 : decode cX7_nextEvent 4 = .ok (.invokevirtual 199, 3) := by decide +kernel
theorem dX7_nextEvent_7 : decode cX7_nextEvent 7 = .ok (.ireturn, 1) := by decide +kernel
theorem dX7_isSafe_0 : decode cX7_isSafe 0 = .ok (.iconst 0, 1) := by decide +kernel
theorem dX7_isSafe_1 : decode cX7_isSafe 1 = .ok (.istore_n 1, 1) := by decide +kernel
theorem dX7_isSafe_2 : decode cX7_isSafe 2 = .ok (.iload_n 1, 1) := by decide +kernel
theorem dX7_isSafe_3 : decode cX7_isSafe 3 = .ok (.aload_n 0, 1) := by decide +kernel
theorem dX7_isSafe_4 : decode cX7_isSafe 4 = .ok (.getfield 10, 3) := by decide +kernel
theorem dX7_isSafe_7 : decode cX7_isSafe 7 = .ok (.getfield 55, 3) := by decide +kernel
theorem dX7_isSafe_10 : decode cX7_isSafe 10 = .ok (.getfield 59, 3) := by decide +kernel
theorem dX7_isSafe_13 : decode cX7_isSafe 13 = .ok (.if_icmp .ge 38, 3) := by decide +kernel
theorem dX7_isSafe_16 : decode cX7_isSafe 16 = .ok (.aload_n 0, 1) := by decide +kernel
theorem dX7_isSafe_17 : decode cX7_isSafe 17 = .ok (.getfield 10, 3) := by decide +kernel
theorem dX7_isSafe_20 : decode cX7_isSafe 20 = .ok (.getfield 55, 3) := by decide +kernel
theorem dX7_isSafe_23 : decode cX7_isSafe 23 = .ok (.getfield 104, 3) := by decide +kernel
theorem dX7_isSafe_26 : decode cX7_isSafe 26 = .ok (.iload_n 1, 1) := by decide +kernel
theorem dX7_isSafe_27 : decode cX7_isSafe 27 = .ok (.iaload, 1) := by decide +kernel
theorem dX7_isSafe_28 : decode cX7_isSafe 28 = .ok (.aload_n 0, 1) := by decide +kernel
theorem dX7_isSafe_29 : decode cX7_isSafe 29 = .ok (.getfield 10, 3) := by decide +kernel
theorem dX7_isSafe_32 : decode cX7_isSafe 32 = .ok (.getfield 55, 3) := by decide +kernel
theorem dX7_isSafe_35 : decode cX7_isSafe 35 = .ok (.getfield 107, 3) := by decide +kernel
theorem dX7_isSafe_38 : decode cX7_isSafe 38 = .ok (.iload_n 1, 1) := by decide +kernel
theorem dX7_isSafe_39 : decode cX7_isSafe 39 = .ok (.iaload, 1) := by decide +kernel
theorem dX7_isSafe_40 : decode cX7_isSafe 40 = .ok (.if_icmp .le 5, 3) := by decide +kernel
theorem dX7_isSafe_43 : decode cX7_isSafe 43 = .ok (.iconst 0, 1) := by decide +kernel
theorem dX7_isSafe_44 : decode cX7_isSafe 44 = .ok (.ireturn, 1) := by decide +kernel
theorem dX7_isSafe_45 : decode cX7_isSafe 45 = .ok (.iinc 1 1, 3) := by decide +kernel
theorem dX7_isSafe_48 : decode cX7_isSafe 48 = .ok (.goto (-46), 3) := by decide +kernel
theorem dX7_isSafe_51 : decode cX7_isSafe 51 = .ok (.iconst 1, 1) := by decide +kernel
theorem dX7_isSafe_52 : decode cX7_isSafe 52 = .ok (.ireturn, 1) := by decide +kernel
theorem dX7_cheapest_0 : decode cX7_cheapest 0 = .ok (.aload_n 0, 1) := by decide +kernel
theorem dX7_cheapest_1 : decode cX7_cheapest 1 = .ok (.iload_n 1, 1) := by decide +kernel
theorem dX7_cheapest_2 : decode cX7_cheapest 2 = .ok (.iload_n 2, 1) := by decide +kernel
theorem dX7_cheapest_3 : decode cX7_cheapest 3 = .ok (.iload_n 3, 1) := by decide +kernel
theorem dX7_cheapest_4 : decode cX7_cheapest 4 = .ok (.invokevirtual 202, 3) := by decide +kernel
theorem dX7_cheapest_7 : decode cX7_cheapest 7 = .ok (.istore 4, 2) := by decide +kernel
theorem dX7_cheapest_9 : decode cX7_cheapest 9 = .ok (.iload 4, 2) := by decide +kernel
theorem dX7_cheapest_11 : decode cX7_cheapest 11 = .ok (.ifCond .ne 7, 3) := by decide +kernel
theorem dX7_cheapest_14 : decode cX7_cheapest 14 = .ok (.iconst (-1), 1) := by decide +kernel
theorem dX7_cheapest_15 : decode cX7_cheapest 15 = .ok (.goto 24, 3) := by decide +kernel
theorem dX7_cheapest_18 : decode cX7_cheapest 18 = .ok (.aload_n 0, 1) := by decide +kernel
theorem dX7_cheapest_19 : decode cX7_cheapest 19 = .ok (.getfield 10, 3) := by decide +kernel
theorem dX7_cheapest_22 : decode cX7_cheapest 22 = .ok (.getfield 206, 3) := by decide +kernel
theorem dX7_cheapest_25 : decode cX7_cheapest 25 = .ok (.aload_n 0, 1) := by decide +kernel
theorem dX7_cheapest_26 : decode cX7_cheapest 26 = .ok (.getfield 10, 3) := by decide +kernel
theorem dX7_cheapest_29 : decode cX7_cheapest 29 = .ok (.getfield 55, 3) := by decide +kernel
theorem dX7_cheapest_32 : decode cX7_cheapest 32 = .ok (.getfield 210, 3) := by decide +kernel
theorem dX7_cheapest_35 : decode cX7_cheapest 35 = .ok (.iconst 0, 1) := by decide +kernel
theorem dX7_cheapest_36 : decode cX7_cheapest 36 = .ok (.invokevirtual 213, 3) := by decide +kernel
theorem dX7_cheapest_39 : decode cX7_cheapest 39 = .ok (.ireturn, 1) := by decide +kernel
theorem dX7_cheapestLink_0 : decode cX7_cheapestLink 0 = .ok (.aload_n 0, 1) := by decide +kernel
theorem dX7_cheapestLink_1 : decode cX7_cheapestLink 1 = .ok (.iload_n 1, 1) := by decide +kernel
theorem dX7_cheapestLink_2 : decode cX7_cheapestLink 2 = .ok (.iload_n 2, 1) := by decide +kernel
theorem dX7_cheapestLink_3 : decode cX7_cheapestLink 3 = .ok (.iload_n 3, 1) := by decide +kernel
theorem dX7_cheapestLink_4 : decode cX7_cheapestLink 4 = .ok (.invokevirtual 202, 3) := by decide +kernel
theorem dX7_cheapestLink_7 : decode cX7_cheapestLink 7 = .ok (.istore 5, 2) := by decide +kernel
theorem dX7_cheapestLink_9 : decode cX7_cheapestLink 9 = .ok (.iload 4, 2) := by decide +kernel
theorem dX7_cheapestLink_11 : decode cX7_cheapestLink 11 = .ok (.ifCond .lt 26, 3) := by decide +kernel
theorem dX7_cheapestLink_14 : decode cX7_cheapestLink 14 = .ok (.iload 4, 2) := by decide +kernel
theorem dX7_cheapestLink_16 : decode cX7_cheapestLink 16 = .ok (.iload 5, 2) := by decide +kernel
theorem dX7_cheapestLink_18 : decode cX7_cheapestLink 18 = .ok (.if_icmp .ge 19, 3) := by decide +kernel
theorem dX7_cheapestLink_21 : decode cX7_cheapestLink 21 = .ok (.aload_n 0, 1) := by decide +kernel
theorem dX7_cheapestLink_22 : decode cX7_cheapestLink 22 = .ok (.getfield 10, 3) := by decide +kernel
theorem dX7_cheapestLink_25 : decode cX7_cheapestLink 25 = .ok (.getfield 206, 3) := by decide +kernel
theorem dX7_cheapestLink_28 : decode cX7_cheapestLink 28 = .ok (.getfield 219, 3) := by decide +kernel
theorem dX7_cheapestLink_31 : decode cX7_cheapestLink 31 = .ok (.iload 4, 2) := by decide +kernel
theorem dX7_cheapestLink_33 : decode cX7_cheapestLink 33 = .ok (.iaload, 1) := by decide +kernel
theorem dX7_cheapestLink_34 : decode cX7_cheapestLink 34 = .ok (.goto 4, 3) := by decide +kernel
theorem dX7_cheapestLink_37 : decode cX7_cheapestLink 37 = .ok (.iconst (-1), 1) := by decide +kernel
theorem dX7_cheapestLink_38 : decode cX7_cheapestLink 38 = .ok (.ireturn, 1) := by decide +kernel
theorem dX7_roundTrip_0 : decode cX7_roundTrip 0 = .ok (.aload_n 0, 1) := by decide +kernel
theorem dX7_roundTrip_1 : decode cX7_roundTrip 1 = .ok (.iload_n 1, 1) := by decide +kernel
theorem dX7_roundTrip_2 : decode cX7_roundTrip 2 = .ok (.iload_n 2, 1) := by decide +kernel
theorem dX7_roundTrip_3 : decode cX7_roundTrip 3 = .ok (.iload_n 3, 1) := by decide +kernel
theorem dX7_roundTrip_4 : decode cX7_roundTrip 4 = .ok (.invokevirtual 202, 3) := by decide +kernel
theorem dX7_roundTrip_7 : decode cX7_roundTrip 7 = .ok (.istore 4, 2) := by decide +kernel
theorem dX7_roundTrip_9 : decode cX7_roundTrip 9 = .ok (.iload 4, 2) := by decide +kernel
theorem dX7_roundTrip_11 : decode cX7_roundTrip 11 = .ok (.ifCond .ne 7, 3) := by decide +kernel
theorem dX7_roundTrip_14 : decode cX7_roundTrip 14 = .ok (.iconst (-1), 1) := by decide +kernel
theorem dX7_roundTrip_15 : decode cX7_roundTrip 15 = .ok (.goto 26, 3) := by decide +kernel
theorem dX7_roundTrip_18 : decode cX7_roundTrip 18 = .ok (.iconst 2, 1) := by decide +kernel
theorem dX7_roundTrip_19 : decode cX7_roundTrip 19 = .ok (.aload_n 0, 1) := by decide +kernel
theorem dX7_roundTrip_20 : decode cX7_roundTrip 20 = .ok (.getfield 10, 3) := by decide +kernel
theorem dX7_roundTrip_23 : decode cX7_roundTrip 23 = .ok (.getfield 206, 3) := by decide +kernel
theorem dX7_roundTrip_26 : decode cX7_roundTrip 26 = .ok (.aload_n 0, 1) := by decide +kernel
theorem dX7_roundTrip_27 : decode cX7_roundTrip 27 = .ok (.getfield 10, 3) := by decide +kernel
theorem dX7_roundTrip_30 : decode cX7_roundTrip 30 = .ok (.getfield 55, 3) := by decide +kernel
theorem dX7_roundTrip_33 : decode cX7_roundTrip 33 = .ok (.getfield 222, 3) := by decide +kernel
theorem dX7_roundTrip_36 : decode cX7_roundTrip 36 = .ok (.iconst 0, 1) := by decide +kernel
theorem dX7_roundTrip_37 : decode cX7_roundTrip 37 = .ok (.invokevirtual 213, 3) := by decide +kernel
theorem dX7_roundTrip_40 : decode cX7_roundTrip 40 = .ok (.imul, 1) := by decide +kernel
theorem dX7_roundTrip_41 : decode cX7_roundTrip 41 = .ok (.ireturn, 1) := by decide +kernel
theorem dX7_neededHold_0 : decode cX7_neededHold 0 = .ok (.aload_n 0, 1) := by decide +kernel
theorem dX7_neededHold_1 : decode cX7_neededHold 1 = .ok (.iload_n 1, 1) := by decide +kernel
theorem dX7_neededHold_2 : decode cX7_neededHold 2 = .ok (.iload_n 2, 1) := by decide +kernel
theorem dX7_neededHold_3 : decode cX7_neededHold 3 = .ok (.iload_n 3, 1) := by decide +kernel
theorem dX7_neededHold_4 : decode cX7_neededHold 4 = .ok (.invokevirtual 202, 3) := by decide +kernel
theorem dX7_neededHold_7 : decode cX7_neededHold 7 = .ok (.istore 4, 2) := by decide +kernel
theorem dX7_neededHold_9 : decode cX7_neededHold 9 = .ok (.iconst 0, 1) := by decide +kernel
theorem dX7_neededHold_10 : decode cX7_neededHold 10 = .ok (.istore 5, 2) := by decide +kernel
theorem dX7_neededHold_12 : decode cX7_neededHold 12 = .ok (.iconst 0, 1) := by decide +kernel
theorem dX7_neededHold_13 : decode cX7_neededHold 13 = .ok (.istore 6, 2) := by decide +kernel
theorem dX7_neededHold_15 : decode cX7_neededHold 15 = .ok (.iload 6, 2) := by decide +kernel
theorem dX7_neededHold_17 : decode cX7_neededHold 17 = .ok (.iload 4, 2) := by decide +kernel
theorem dX7_neededHold_19 : decode cX7_neededHold 19 = .ok (.if_icmp .ge 71, 3) := by decide +kernel
theorem dX7_neededHold_22 : decode cX7_neededHold 22 = .ok (.aload_n 0, 1) := by decide +kernel
theorem dX7_neededHold_23 : decode cX7_neededHold 23 = .ok (.getfield 10, 3) := by decide +kernel
theorem dX7_neededHold_26 : decode cX7_neededHold 26 = .ok (.getfield 55, 3) := by decide +kernel
theorem dX7_neededHold_29 : decode cX7_neededHold 29 = .ok (.getfield 222, 3) := by decide +kernel
theorem dX7_neededHold_32 : decode cX7_neededHold 32 = .ok (.aload_n 0, 1) := by decide +kernel
theorem dX7_neededHold_33 : decode cX7_neededHold 33 = .ok (.getfield 10, 3) := by decide +kernel
theorem dX7_neededHold_36 : decode cX7_neededHold 36 = .ok (.getfield 206, 3) := by decide +kernel
theorem dX7_neededHold_39 : decode cX7_neededHold 39 = .ok (.getfield 219, 3) := by decide +kernel
theorem dX7_neededHold_42 : decode cX7_neededHold 42 = .ok (.iload 6, 2) := by decide +kernel
theorem dX7_neededHold_44 : decode cX7_neededHold 44 = .ok (.iaload, 1) := by decide +kernel
theorem dX7_neededHold_45 : decode cX7_neededHold 45 = .ok (.iaload, 1) := by decide +kernel
theorem dX7_neededHold_46 : decode cX7_neededHold 46 = .ok (.istore 7, 2) := by decide +kernel
theorem dX7_neededHold_48 : decode cX7_neededHold 48 = .ok (.iload 5, 2) := by decide +kernel
theorem dX7_neededHold_50 : decode cX7_neededHold 50 = .ok (.iconst 2, 1) := by decide +kernel
theorem dX7_neededHold_51 : decode cX7_neededHold 51 = .ok (.aload_n 0, 1) := by decide +kernel
theorem dX7_neededHold_52 : decode cX7_neededHold 52 = .ok (.getfield 10, 3) := by decide +kernel
theorem dX7_neededHold_55 : decode cX7_neededHold 55 = .ok (.getfield 206, 3) := by decide +kernel
theorem dX7_neededHold_58 : decode cX7_neededHold 58 = .ok (.aload_n 0, 1) := by decide +kernel
theorem dX7_neededHold_59 : decode cX7_neededHold 59 = .ok (.getfield 10, 3) := by decide +kernel
theorem dX7_neededHold_62 : decode cX7_neededHold 62 = .ok (.getfield 55, 3) := by decide +kernel
theorem dX7_neededHold_65 : decode cX7_neededHold 65 = .ok (.getfield 222, 3) := by decide +kernel
theorem dX7_neededHold_68 : decode cX7_neededHold 68 = .ok (.iload 6, 2) := by decide +kernel
theorem dX7_neededHold_70 : decode cX7_neededHold 70 = .ok (.iconst 1, 1) := by decide +kernel
theorem dX7_neededHold_71 : decode cX7_neededHold 71 = .ok (.iadd, 1) := by decide +kernel
theorem dX7_neededHold_72 : decode cX7_neededHold 72 = .ok (.invokevirtual 213, 3) := by decide +kernel
theorem dX7_neededHold_75 : decode cX7_neededHold 75 = .ok (.imul, 1) := by decide +kernel
theorem dX7_neededHold_76 : decode cX7_neededHold 76 = .ok (.iload 7, 2) := by decide +kernel
theorem dX7_neededHold_78 : decode cX7_neededHold 78 = .ok (.iadd, 1) := by decide +kernel
theorem dX7_neededHold_79 : decode cX7_neededHold 79 = .ok (.invokestatic 225, 3) := by decide +kernel
theorem dX7_neededHold_82 : decode cX7_neededHold 82 = .ok (.istore 5, 2) := by decide +kernel
theorem dX7_neededHold_84 : decode cX7_neededHold 84 = .ok (.iinc 6 1, 3) := by decide +kernel
theorem dX7_neededHold_87 : decode cX7_neededHold 87 = .ok (.goto (-72), 3) := by decide +kernel
theorem dX7_neededHold_90 : decode cX7_neededHold 90 = .ok (.iload 4, 2) := by decide +kernel
theorem dX7_neededHold_92 : decode cX7_neededHold 92 = .ok (.ifCond .ne 7, 3) := by decide +kernel
theorem dX7_neededHold_95 : decode cX7_neededHold 95 = .ok (.iconst (-1), 1) := by decide +kernel
theorem dX7_neededHold_96 : decode cX7_neededHold 96 = .ok (.goto 7, 3) := by decide +kernel
theorem dX7_neededHold_99 : decode cX7_neededHold 99 = .ok (.iload 5, 2) := by decide +kernel
theorem dX7_neededHold_101 : decode cX7_neededHold 101 = .ok (.iconst 1, 1) := by decide +kernel
theorem dX7_neededHold_102 : decode cX7_neededHold 102 = .ok (.iadd, 1) := by decide +kernel
theorem dX7_neededHold_103 : decode cX7_neededHold 103 = .ok (.ireturn, 1) := by decide +kernel
theorem dX7_widest_0 : decode cX7_widest 0 = .ok (.aload_n 0, 1) := by decide +kernel
theorem dX7_widest_1 : decode cX7_widest 1 = .ok (.iload_n 1, 1) := by decide +kernel
theorem dX7_widest_2 : decode cX7_widest 2 = .ok (.iload_n 2, 1) := by decide +kernel
theorem dX7_widest_3 : decode cX7_widest 3 = .ok (.invokevirtual 124, 3) := by decide +kernel
theorem dX7_widest_6 : decode cX7_widest 6 = .ok (.aload_n 0, 1) := by decide +kernel
theorem dX7_widest_7 : decode cX7_widest 7 = .ok (.getfield 10, 3) := by decide +kernel
theorem dX7_widest_10 : decode cX7_widest 10 = .ok (.getfield 206, 3) := by decide +kernel
theorem dX7_widest_13 : decode cX7_widest 13 = .ok (.aload_n 0, 1) := by decide +kernel
theorem dX7_widest_14 : decode cX7_widest 14 = .ok (.getfield 10, 3) := by decide +kernel
theorem dX7_widest_17 : decode cX7_widest 17 = .ok (.getfield 55, 3) := by decide +kernel
theorem dX7_widest_20 : decode cX7_widest 20 = .ok (.iload_n 1, 1) := by decide +kernel
theorem dX7_widest_21 : decode cX7_widest 21 = .ok (.iload_n 2, 1) := by decide +kernel
theorem dX7_widest_22 : decode cX7_widest 22 = .ok (.invokevirtual 230, 3) := by decide +kernel
theorem dX7_widest_25 : decode cX7_widest 25 = .ok (.ireturn, 1) := by decide +kernel
theorem dX7_greatestFlow_0 : decode cX7_greatestFlow 0 = .ok (.aload_n 0, 1) := by decide +kernel
theorem dX7_greatestFlow_1 : decode cX7_greatestFlow 1 = .ok (.iload_n 1, 1) := by decide +kernel
theorem dX7_greatestFlow_2 : decode cX7_greatestFlow 2 = .ok (.iload_n 2, 1) := by decide +kernel
theorem dX7_greatestFlow_3 : decode cX7_greatestFlow 3 = .ok (.invokevirtual 124, 3) := by decide +kernel
theorem dX7_greatestFlow_6 : decode cX7_greatestFlow 6 = .ok (.aload_n 0, 1) := by decide +kernel
theorem dX7_greatestFlow_7 : decode cX7_greatestFlow 7 = .ok (.getfield 26, 3) := by decide +kernel
theorem dX7_greatestFlow_10 : decode cX7_greatestFlow 10 = .ok (.aload_n 0, 1) := by decide +kernel
theorem dX7_greatestFlow_11 : decode cX7_greatestFlow 11 = .ok (.getfield 10, 3) := by decide +kernel
theorem dX7_greatestFlow_14 : decode cX7_greatestFlow 14 = .ok (.getfield 55, 3) := by decide +kernel
theorem dX7_greatestFlow_17 : decode cX7_greatestFlow 17 = .ok (.invokevirtual 234, 3) := by decide +kernel
theorem dX7_greatestFlow_20 : decode cX7_greatestFlow 20 = .ok (.aload_n 0, 1) := by decide +kernel
theorem dX7_greatestFlow_21 : decode cX7_greatestFlow 21 = .ok (.getfield 26, 3) := by decide +kernel
theorem dX7_greatestFlow_24 : decode cX7_greatestFlow 24 = .ok (.aload_n 0, 1) := by decide +kernel
theorem dX7_greatestFlow_25 : decode cX7_greatestFlow 25 = .ok (.getfield 10, 3) := by decide +kernel
theorem dX7_greatestFlow_28 : decode cX7_greatestFlow 28 = .ok (.getfield 55, 3) := by decide +kernel
theorem dX7_greatestFlow_31 : decode cX7_greatestFlow 31 = .ok (.iload_n 1, 1) := by decide +kernel
theorem dX7_greatestFlow_32 : decode cX7_greatestFlow 32 = .ok (.iload_n 2, 1) := by decide +kernel
theorem dX7_greatestFlow_33 : decode cX7_greatestFlow 33 = .ok (.invokevirtual 238, 3) := by decide +kernel
theorem dX7_greatestFlow_36 : decode cX7_greatestFlow 36 = .ok (.ireturn, 1) := by decide +kernel
theorem dX7_smallestCut_0 : decode cX7_smallestCut 0 = .ok (.aload_n 0, 1) := by decide +kernel
theorem dX7_smallestCut_1 : decode cX7_smallestCut 1 = .ok (.iload_n 1, 1) := by decide +kernel
theorem dX7_smallestCut_2 : decode cX7_smallestCut 2 = .ok (.iload_n 2, 1) := by decide +kernel
theorem dX7_smallestCut_3 : decode cX7_smallestCut 3 = .ok (.invokevirtual 124, 3) := by decide +kernel
theorem dX7_smallestCut_6 : decode cX7_smallestCut 6 = .ok (.aload_n 0, 1) := by decide +kernel
theorem dX7_smallestCut_7 : decode cX7_smallestCut 7 = .ok (.getfield 26, 3) := by decide +kernel
theorem dX7_smallestCut_10 : decode cX7_smallestCut 10 = .ok (.aload_n 0, 1) := by decide +kernel
theorem dX7_smallestCut_11 : decode cX7_smallestCut 11 = .ok (.getfield 10, 3) := by decide +kernel
theorem dX7_smallestCut_14 : decode cX7_smallestCut 14 = .ok (.getfield 55, 3) := by decide +kernel
theorem dX7_smallestCut_17 : decode cX7_smallestCut 17 = .ok (.invokevirtual 234, 3) := by decide +kernel
theorem dX7_smallestCut_20 : decode cX7_smallestCut 20 = .ok (.aload_n 0, 1) := by decide +kernel
theorem dX7_smallestCut_21 : decode cX7_smallestCut 21 = .ok (.getfield 26, 3) := by decide +kernel
theorem dX7_smallestCut_24 : decode cX7_smallestCut 24 = .ok (.aload_n 0, 1) := by decide +kernel
theorem dX7_smallestCut_25 : decode cX7_smallestCut 25 = .ok (.getfield 10, 3) := by decide +kernel
theorem dX7_smallestCut_28 : decode cX7_smallestCut 28 = .ok (.getfield 55, 3) := by decide +kernel
theorem dX7_smallestCut_31 : decode cX7_smallestCut 31 = .ok (.iload_n 1, 1) := by decide +kernel
theorem dX7_smallestCut_32 : decode cX7_smallestCut 32 = .ok (.iload_n 2, 1) := by decide +kernel
theorem dX7_smallestCut_33 : decode cX7_smallestCut 33 = .ok (.invokevirtual 238, 3) := by decide +kernel
theorem dX7_smallestCut_36 : decode cX7_smallestCut 36 = .ok (.pop, 1) := by decide +kernel
theorem dX7_smallestCut_37 : decode cX7_smallestCut 37 = .ok (.iconst 0, 1) := by decide +kernel
theorem dX7_smallestCut_38 : decode cX7_smallestCut 38 = .ok (.istore_n 3, 1) := by decide +kernel
theorem dX7_smallestCut_39 : decode cX7_smallestCut 39 = .ok (.iconst 0, 1) := by decide +kernel
theorem dX7_smallestCut_40 : decode cX7_smallestCut 40 = .ok (.istore 4, 2) := by decide +kernel
theorem dX7_smallestCut_42 : decode cX7_smallestCut 42 = .ok (.iload 4, 2) := by decide +kernel
theorem dX7_smallestCut_44 : decode cX7_smallestCut 44 = .ok (.aload_n 0, 1) := by decide +kernel
theorem dX7_smallestCut_45 : decode cX7_smallestCut 45 = .ok (.getfield 10, 3) := by decide +kernel
theorem dX7_smallestCut_48 : decode cX7_smallestCut 48 = .ok (.getfield 55, 3) := by decide +kernel
theorem dX7_smallestCut_51 : decode cX7_smallestCut 51 = .ok (.getfield 59, 3) := by decide +kernel
theorem dX7_smallestCut_54 : decode cX7_smallestCut 54 = .ok (.if_icmp .ge 78, 3) := by decide +kernel
theorem dX7_smallestCut_57 : decode cX7_smallestCut 57 = .ok (.aload_n 0, 1) := by decide +kernel
theorem dX7_smallestCut_58 : decode cX7_smallestCut 58 = .ok (.getfield 26, 3) := by decide +kernel
theorem dX7_smallestCut_61 : decode cX7_smallestCut 61 = .ok (.aload_n 0, 1) := by decide +kernel
theorem dX7_smallestCut_62 : decode cX7_smallestCut 62 = .ok (.getfield 10, 3) := by decide +kernel
theorem dX7_smallestCut_65 : decode cX7_smallestCut 65 = .ok (.getfield 55, 3) := by decide +kernel
theorem dX7_smallestCut_68 : decode cX7_smallestCut 68 = .ok (.getfield 241, 3) := by decide +kernel
theorem dX7_smallestCut_71 : decode cX7_smallestCut 71 = .ok (.iload 4, 2) := by decide +kernel
theorem dX7_smallestCut_73 : decode cX7_smallestCut 73 = .ok (.iaload, 1) := by decide +kernel
theorem dX7_smallestCut_74 : decode cX7_smallestCut 74 = .ok (.invokevirtual 244, 3) := by decide +kernel
theorem dX7_smallestCut_77 : decode cX7_smallestCut 77 = .ok (.ifCond .eq 30, 3) := by decide +kernel
theorem dX7_smallestCut_80 : decode cX7_smallestCut 80 = .ok (.aload_n 0, 1) := by decide +kernel
theorem dX7_smallestCut_81 : decode cX7_smallestCut 81 = .ok (.getfield 26, 3) := by decide +kernel
theorem dX7_smallestCut_84 : decode cX7_smallestCut 84 = .ok (.aload_n 0, 1) := by decide +kernel
theorem dX7_smallestCut_85 : decode cX7_smallestCut 85 = .ok (.getfield 10, 3) := by decide +kernel
theorem dX7_smallestCut_88 : decode cX7_smallestCut 88 = .ok (.getfield 55, 3) := by decide +kernel
theorem dX7_smallestCut_91 : decode cX7_smallestCut 91 = .ok (.getfield 247, 3) := by decide +kernel
theorem dX7_smallestCut_94 : decode cX7_smallestCut 94 = .ok (.iload 4, 2) := by decide +kernel
theorem dX7_smallestCut_96 : decode cX7_smallestCut 96 = .ok (.iaload, 1) := by decide +kernel
theorem dX7_smallestCut_97 : decode cX7_smallestCut 97 = .ok (.invokevirtual 244, 3) := by decide +kernel
theorem dX7_smallestCut_100 : decode cX7_smallestCut 100 = .ok (.ifCond .ne 7, 3) := by decide +kernel
theorem dX7_smallestCut_103 : decode cX7_smallestCut 103 = .ok (.iconst 1, 1) := by decide +kernel
theorem dX7_smallestCut_104 : decode cX7_smallestCut 104 = .ok (.goto 4, 3) := by decide +kernel
theorem dX7_smallestCut_107 : decode cX7_smallestCut 107 = .ok (.iconst 0, 1) := by decide +kernel
theorem dX7_smallestCut_108 : decode cX7_smallestCut 108 = .ok (.istore 5, 2) := by decide +kernel
theorem dX7_smallestCut_110 : decode cX7_smallestCut 110 = .ok (.iload_n 3, 1) := by decide +kernel
theorem dX7_smallestCut_111 : decode cX7_smallestCut 111 = .ok (.iload 5, 2) := by decide +kernel
theorem dX7_smallestCut_113 : decode cX7_smallestCut 113 = .ok (.ifCond .eq 10, 3) := by decide +kernel
theorem dX7_smallestCut_116 : decode cX7_smallestCut 116 = .ok (.iconst 1, 1) := by decide +kernel
theorem dX7_smallestCut_117 : decode cX7_smallestCut 117 = .ok (.iload 4, 2) := by decide +kernel
theorem dX7_smallestCut_119 : decode cX7_smallestCut 119 = .ok (.ishl, 1) := by decide +kernel
theorem dX7_smallestCut_120 : decode cX7_smallestCut 120 = .ok (.goto 4, 3) := by decide +kernel
theorem dX7_smallestCut_123 : decode cX7_smallestCut 123 = .ok (.iconst 0, 1) := by decide +kernel
theorem dX7_smallestCut_124 : decode cX7_smallestCut 124 = .ok (.ior, 1) := by decide +kernel
theorem dX7_smallestCut_125 : decode cX7_smallestCut 125 = .ok (.istore_n 3, 1) := by decide +kernel
theorem dX7_smallestCut_126 : decode cX7_smallestCut 126 = .ok (.iinc 4 1, 3) := by decide +kernel
theorem dX7_smallestCut_129 : decode cX7_smallestCut 129 = .ok (.goto (-87), 3) := by decide +kernel
theorem dX7_smallestCut_132 : decode cX7_smallestCut 132 = .ok (.iload_n 3, 1) := by decide +kernel
theorem dX7_smallestCut_133 : decode cX7_smallestCut 133 = .ok (.aload_n 0, 1) := by decide +kernel
theorem dX7_smallestCut_134 : decode cX7_smallestCut 134 = .ok (.getfield 10, 3) := by decide +kernel
theorem dX7_smallestCut_137 : decode cX7_smallestCut 137 = .ok (.getfield 55, 3) := by decide +kernel
theorem dX7_smallestCut_140 : decode cX7_smallestCut 140 = .ok (.getfield 118, 3) := by decide +kernel
theorem dX7_smallestCut_143 : decode cX7_smallestCut 143 = .ok (.iand, 1) := by decide +kernel
theorem dX7_smallestCut_144 : decode cX7_smallestCut 144 = .ok (.ireturn, 1) := by decide +kernel
theorem dX7_disjointPaths_0 : decode cX7_disjointPaths 0 = .ok (.aload_n 0, 1) := by decide +kernel
theorem dX7_disjointPaths_1 : decode cX7_disjointPaths 1 = .ok (.iload_n 1, 1) := by decide +kernel
theorem dX7_disjointPaths_2 : decode cX7_disjointPaths 2 = .ok (.iload_n 2, 1) := by decide +kernel
theorem dX7_disjointPaths_3 : decode cX7_disjointPaths 3 = .ok (.invokevirtual 124, 3) := by decide +kernel
theorem dX7_disjointPaths_6 : decode cX7_disjointPaths 6 = .ok (.iload_n 3, 1) := by decide +kernel
theorem dX7_disjointPaths_7 : decode cX7_disjointPaths 7 = .ok (.iconst 0, 1) := by decide +kernel
theorem dX7_disjointPaths_8 : decode cX7_disjointPaths 8 = .ok (.sipush 1000, 3) := by decide +kernel
theorem dX7_disjointPaths_11 : decode cX7_disjointPaths 11 = .ok (.invokestatic 86, 3) := by decide +kernel
theorem dX7_disjointPaths_14 : decode cX7_disjointPaths 14 = .ok (.aload_n 0, 1) := by decide +kernel
theorem dX7_disjointPaths_15 : decode cX7_disjointPaths 15 = .ok (.getfield 26, 3) := by decide +kernel
theorem dX7_disjointPaths_18 : decode cX7_disjointPaths 18 = .ok (.aload_n 0, 1) := by decide +kernel
theorem dX7_disjointPaths_19 : decode cX7_disjointPaths 19 = .ok (.getfield 10, 3) := by decide +kernel
theorem dX7_disjointPaths_22 : decode cX7_disjointPaths 22 = .ok (.getfield 55, 3) := by decide +kernel
theorem dX7_disjointPaths_25 : decode cX7_disjointPaths 25 = .ok (.iload_n 3, 1) := by decide +kernel
theorem dX7_disjointPaths_26 : decode cX7_disjointPaths 26 = .ok (.invokevirtual 250, 3) := by decide +kernel
theorem dX7_disjointPaths_29 : decode cX7_disjointPaths 29 = .ok (.invokevirtual 253, 3) := by decide +kernel
theorem dX7_disjointPaths_32 : decode cX7_disjointPaths 32 = .ok (.aload_n 0, 1) := by decide +kernel
theorem dX7_disjointPaths_33 : decode cX7_disjointPaths 33 = .ok (.getfield 26, 3) := by decide +kernel
theorem dX7_disjointPaths_36 : decode cX7_disjointPaths 36 = .ok (.aload_n 0, 1) := by decide +kernel
theorem dX7_disjointPaths_37 : decode cX7_disjointPaths 37 = .ok (.getfield 10, 3) := by decide +kernel
theorem dX7_disjointPaths_40 : decode cX7_disjointPaths 40 = .ok (.getfield 55, 3) := by decide +kernel
theorem dX7_disjointPaths_43 : decode cX7_disjointPaths 43 = .ok (.iload_n 1, 1) := by decide +kernel
theorem dX7_disjointPaths_44 : decode cX7_disjointPaths 44 = .ok (.iload_n 2, 1) := by decide +kernel
theorem dX7_disjointPaths_45 : decode cX7_disjointPaths 45 = .ok (.invokevirtual 238, 3) := by decide +kernel
theorem dX7_disjointPaths_48 : decode cX7_disjointPaths 48 = .ok (.ireturn, 1) := by decide +kernel
theorem dX7_reachable_0 : decode cX7_reachable 0 = .ok (.iload_n 1, 1) := by decide +kernel
theorem dX7_reachable_1 : decode cX7_reachable 1 = .ok (.aload_n 0, 1) := by decide +kernel
theorem dX7_reachable_2 : decode cX7_reachable 2 = .ok (.getfield 10, 3) := by decide +kernel
theorem dX7_reachable_5 : decode cX7_reachable 5 = .ok (.getfield 71, 3) := by decide +kernel
theorem dX7_reachable_8 : decode cX7_reachable 8 = .ok (.invokestatic 74, 3) := by decide +kernel
theorem dX7_reachable_11 : decode cX7_reachable 11 = .ok (.iload_n 2, 1) := by decide +kernel
theorem dX7_reachable_12 : decode cX7_reachable 12 = .ok (.iconst 0, 1) := by decide +kernel
theorem dX7_reachable_13 : decode cX7_reachable 13 = .ok (.sipush 1000, 3) := by decide +kernel
theorem dX7_reachable_16 : decode cX7_reachable 16 = .ok (.invokestatic 86, 3) := by decide +kernel
theorem dX7_reachable_19 : decode cX7_reachable 19 = .ok (.aload_n 0, 1) := by decide +kernel
theorem dX7_reachable_20 : decode cX7_reachable 20 = .ok (.getfield 10, 3) := by decide +kernel
theorem dX7_reachable_23 : decode cX7_reachable 23 = .ok (.getfield 206, 3) := by decide +kernel
theorem dX7_reachable_26 : decode cX7_reachable 26 = .ok (.aload_n 0, 1) := by decide +kernel
theorem dX7_reachable_27 : decode cX7_reachable 27 = .ok (.getfield 10, 3) := by decide +kernel
theorem dX7_reachable_30 : decode cX7_reachable 30 = .ok (.getfield 55, 3) := by decide +kernel
theorem dX7_reachable_33 : decode cX7_reachable 33 = .ok (.iload_n 1, 1) := by decide +kernel
theorem dX7_reachable_34 : decode cX7_reachable 34 = .ok (.aload_n 0, 1) := by decide +kernel
theorem dX7_reachable_35 : decode cX7_reachable 35 = .ok (.getfield 10, 3) := by decide +kernel
theorem dX7_reachable_38 : decode cX7_reachable 38 = .ok (.getfield 55, 3) := by decide +kernel
theorem dX7_reachable_41 : decode cX7_reachable 41 = .ok (.iload_n 2, 1) := by decide +kernel
theorem dX7_reachable_42 : decode cX7_reachable 42 = .ok (.invokevirtual 250, 3) := by decide +kernel
theorem dX7_reachable_45 : decode cX7_reachable 45 = .ok (.invokevirtual 256, 3) := by decide +kernel
theorem dX7_reachable_48 : decode cX7_reachable 48 = .ok (.ireturn, 1) := by decide +kernel
theorem dX7_criticalLinks_0 : decode cX7_criticalLinks 0 = .ok (.aload_n 0, 1) := by decide +kernel
theorem dX7_criticalLinks_1 : decode cX7_criticalLinks 1 = .ok (.iload_n 1, 1) := by decide +kernel
theorem dX7_criticalLinks_2 : decode cX7_criticalLinks 2 = .ok (.iload_n 2, 1) := by decide +kernel
theorem dX7_criticalLinks_3 : decode cX7_criticalLinks 3 = .ok (.invokevirtual 124, 3) := by decide +kernel
theorem dX7_criticalLinks_6 : decode cX7_criticalLinks 6 = .ok (.iload_n 3, 1) := by decide +kernel
theorem dX7_criticalLinks_7 : decode cX7_criticalLinks 7 = .ok (.iconst 0, 1) := by decide +kernel
theorem dX7_criticalLinks_8 : decode cX7_criticalLinks 8 = .ok (.sipush 1000, 3) := by decide +kernel
theorem dX7_criticalLinks_11 : decode cX7_criticalLinks 11 = .ok (.invokestatic 86, 3) := by decide +kernel
theorem dX7_criticalLinks_14 : decode cX7_criticalLinks 14 = .ok (.aload_n 0, 1) := by decide +kernel
theorem dX7_criticalLinks_15 : decode cX7_criticalLinks 15 = .ok (.getfield 10, 3) := by decide +kernel
theorem dX7_criticalLinks_18 : decode cX7_criticalLinks 18 = .ok (.getfield 55, 3) := by decide +kernel
theorem dX7_criticalLinks_21 : decode cX7_criticalLinks 21 = .ok (.iload_n 3, 1) := by decide +kernel
theorem dX7_criticalLinks_22 : decode cX7_criticalLinks 22 = .ok (.invokevirtual 250, 3) := by decide +kernel
theorem dX7_criticalLinks_25 : decode cX7_criticalLinks 25 = .ok (.istore 4, 2) := by decide +kernel
theorem dX7_criticalLinks_27 : decode cX7_criticalLinks 27 = .ok (.aload_n 0, 1) := by decide +kernel
theorem dX7_criticalLinks_28 : decode cX7_criticalLinks 28 = .ok (.getfield 10, 3) := by decide +kernel
theorem dX7_criticalLinks_31 : decode cX7_criticalLinks 31 = .ok (.getfield 206, 3) := by decide +kernel
theorem dX7_criticalLinks_34 : decode cX7_criticalLinks 34 = .ok (.aload_n 0, 1) := by decide +kernel
theorem dX7_criticalLinks_35 : decode cX7_criticalLinks 35 = .ok (.getfield 10, 3) := by decide +kernel
theorem dX7_criticalLinks_38 : decode cX7_criticalLinks 38 = .ok (.getfield 55, 3) := by decide +kernel
theorem dX7_criticalLinks_41 : decode cX7_criticalLinks 41 = .ok (.iload_n 1, 1) := by decide +kernel
theorem dX7_criticalLinks_42 : decode cX7_criticalLinks 42 = .ok (.iload 4, 2) := by decide +kernel
theorem dX7_criticalLinks_44 : decode cX7_criticalLinks 44 = .ok (.invokevirtual 256, 3) := by decide +kernel
theorem dX7_criticalLinks_47 : decode cX7_criticalLinks 47 = .ok (.iload_n 2, 1) := by decide +kernel
theorem dX7_criticalLinks_48 : decode cX7_criticalLinks 48 = .ok (.ishr, 1) := by decide +kernel
theorem dX7_criticalLinks_49 : decode cX7_criticalLinks 49 = .ok (.iconst 1, 1) := by decide +kernel
theorem dX7_criticalLinks_50 : decode cX7_criticalLinks 50 = .ok (.iand, 1) := by decide +kernel
theorem dX7_criticalLinks_51 : decode cX7_criticalLinks 51 = .ok (.ifCond .ne 5, 3) := by decide +kernel
theorem dX7_criticalLinks_54 : decode cX7_criticalLinks 54 = .ok (.iconst 0, 1) := by decide +kernel
theorem dX7_criticalLinks_55 : decode cX7_criticalLinks 55 = .ok (.ireturn, 1) := by decide +kernel
theorem dX7_criticalLinks_56 : decode cX7_criticalLinks 56 = .ok (.iconst 0, 1) := by decide +kernel
theorem dX7_criticalLinks_57 : decode cX7_criticalLinks 57 = .ok (.istore 5, 2) := by decide +kernel
theorem dX7_criticalLinks_59 : decode cX7_criticalLinks 59 = .ok (.iconst 0, 1) := by decide +kernel
theorem dX7_criticalLinks_60 : decode cX7_criticalLinks 60 = .ok (.istore 6, 2) := by decide +kernel
theorem dX7_criticalLinks_62 : decode cX7_criticalLinks 62 = .ok (.iload 6, 2) := by decide +kernel
theorem dX7_criticalLinks_64 : decode cX7_criticalLinks 64 = .ok (.aload_n 0, 1) := by decide +kernel
theorem dX7_criticalLinks_65 : decode cX7_criticalLinks 65 = .ok (.getfield 10, 3) := by decide +kernel
theorem dX7_criticalLinks_68 : decode cX7_criticalLinks 68 = .ok (.getfield 55, 3) := by decide +kernel
theorem dX7_criticalLinks_71 : decode cX7_criticalLinks 71 = .ok (.getfield 59, 3) := by decide +kernel
theorem dX7_criticalLinks_74 : decode cX7_criticalLinks 74 = .ok (.if_icmp .ge 72, 3) := by decide +kernel
theorem dX7_criticalLinks_77 : decode cX7_criticalLinks 77 = .ok (.iload 4, 2) := by decide +kernel
theorem dX7_criticalLinks_79 : decode cX7_criticalLinks 79 = .ok (.iconst 1, 1) := by decide +kernel
theorem dX7_criticalLinks_80 : decode cX7_criticalLinks 80 = .ok (.iload 6, 2) := by decide +kernel
theorem dX7_criticalLinks_82 : decode cX7_criticalLinks 82 = .ok (.ishl, 1) := by decide +kernel
theorem dX7_criticalLinks_83 : decode cX7_criticalLinks 83 = .ok (.iconst (-1), 1) := by decide +kernel
theorem dX7_criticalLinks_84 : decode cX7_criticalLinks 84 = .ok (.ixor, 1) := by decide +kernel
theorem dX7_criticalLinks_85 : decode cX7_criticalLinks 85 = .ok (.iand, 1) := by decide +kernel
theorem dX7_criticalLinks_86 : decode cX7_criticalLinks 86 = .ok (.istore 7, 2) := by decide +kernel
theorem dX7_criticalLinks_88 : decode cX7_criticalLinks 88 = .ok (.aload_n 0, 1) := by decide +kernel
theorem dX7_criticalLinks_89 : decode cX7_criticalLinks 89 = .ok (.getfield 10, 3) := by decide +kernel
theorem dX7_criticalLinks_92 : decode cX7_criticalLinks 92 = .ok (.getfield 206, 3) := by decide +kernel
theorem dX7_criticalLinks_95 : decode cX7_criticalLinks 95 = .ok (.aload_n 0, 1) := by decide +kernel
theorem dX7_criticalLinks_96 : decode cX7_criticalLinks 96 = .ok (.getfield 10, 3) := by decide +kernel
theorem dX7_criticalLinks_99 : decode cX7_criticalLinks 99 = .ok (.getfield 55, 3) := by decide +kernel
theorem dX7_criticalLinks_102 : decode cX7_criticalLinks 102 = .ok (.iload_n 1, 1) := by decide +kernel
theorem dX7_criticalLinks_103 : decode cX7_criticalLinks 103 = .ok (.iload 7, 2) := by decide +kernel
theorem dX7_criticalLinks_105 : decode cX7_criticalLinks 105 = .ok (.invokevirtual 256, 3) := by decide +kernel
theorem dX7_criticalLinks_108 : decode cX7_criticalLinks 108 = .ok (.iload_n 2, 1) := by decide +kernel
theorem dX7_criticalLinks_109 : decode cX7_criticalLinks 109 = .ok (.ishr, 1) := by decide +kernel
theorem dX7_criticalLinks_110 : decode cX7_criticalLinks 110 = .ok (.iconst 1, 1) := by decide +kernel
theorem dX7_criticalLinks_111 : decode cX7_criticalLinks 111 = .ok (.iand, 1) := by decide +kernel
theorem dX7_criticalLinks_112 : decode cX7_criticalLinks 112 = .ok (.ifCond .eq 7, 3) := by decide +kernel
theorem dX7_criticalLinks_115 : decode cX7_criticalLinks 115 = .ok (.iconst 1, 1) := by decide +kernel
theorem dX7_criticalLinks_116 : decode cX7_criticalLinks 116 = .ok (.goto 4, 3) := by decide +kernel
theorem dX7_criticalLinks_119 : decode cX7_criticalLinks 119 = .ok (.iconst 0, 1) := by decide +kernel
theorem dX7_criticalLinks_120 : decode cX7_criticalLinks 120 = .ok (.istore 8, 2) := by decide +kernel
theorem dX7_criticalLinks_122 : decode cX7_criticalLinks 122 = .ok (.iload 5, 2) := by decide +kernel
theorem dX7_criticalLinks_124 : decode cX7_criticalLinks 124 = .ok (.iload 8, 2) := by decide +kernel
theorem dX7_criticalLinks_126 : decode cX7_criticalLinks 126 = .ok (.ifCond .eq 7, 3) := by decide +kernel
theorem dX7_criticalLinks_129 : decode cX7_criticalLinks 129 = .ok (.iconst 0, 1) := by decide +kernel
theorem dX7_criticalLinks_130 : decode cX7_criticalLinks 130 = .ok (.goto 7, 3) := by decide +kernel
theorem dX7_criticalLinks_133 : decode cX7_criticalLinks 133 = .ok (.iconst 1, 1) := by decide +kernel
theorem dX7_criticalLinks_134 : decode cX7_criticalLinks 134 = .ok (.iload 6, 2) := by decide +kernel
theorem dX7_criticalLinks_136 : decode cX7_criticalLinks 136 = .ok (.ishl, 1) := by decide +kernel
theorem dX7_criticalLinks_137 : decode cX7_criticalLinks 137 = .ok (.ior, 1) := by decide +kernel
theorem dX7_criticalLinks_138 : decode cX7_criticalLinks 138 = .ok (.istore 5, 2) := by decide +kernel
theorem dX7_criticalLinks_140 : decode cX7_criticalLinks 140 = .ok (.iinc 6 1, 3) := by decide +kernel
theorem dX7_criticalLinks_143 : decode cX7_criticalLinks 143 = .ok (.goto (-81), 3) := by decide +kernel
theorem dX7_criticalLinks_146 : decode cX7_criticalLinks 146 = .ok (.iload 5, 2) := by decide +kernel
theorem dX7_criticalLinks_148 : decode cX7_criticalLinks 148 = .ok (.ireturn, 1) := by decide +kernel
theorem dX7_ticksUntilActive_0 : decode cX7_ticksUntilActive 0 = .ok (.iload_n 1, 1) := by decide +kernel
theorem dX7_ticksUntilActive_1 : decode cX7_ticksUntilActive 1 = .ok (.aload_n 0, 1) := by decide +kernel
theorem dX7_ticksUntilActive_2 : decode cX7_ticksUntilActive 2 = .ok (.getfield 10, 3) := by decide +kernel
theorem dX7_ticksUntilActive_5 : decode cX7_ticksUntilActive 5 = .ok (.getfield 131, 3) := by decide +kernel
theorem dX7_ticksUntilActive_8 : decode cX7_ticksUntilActive 8 = .ok (.getfield 135, 3) := by decide +kernel
theorem dX7_ticksUntilActive_11 : decode cX7_ticksUntilActive 11 = .ok (.invokestatic 74, 3) := by decide +kernel
theorem dX7_ticksUntilActive_14 : decode cX7_ticksUntilActive 14 = .ok (.aload_n 0, 1) := by decide +kernel
theorem dX7_ticksUntilActive_15 : decode cX7_ticksUntilActive 15 = .ok (.getfield 16, 3) := by decide +kernel
theorem dX7_ticksUntilActive_18 : decode cX7_ticksUntilActive 18 = .ok (.aload_n 0, 1) := by decide +kernel
theorem dX7_ticksUntilActive_19 : decode cX7_ticksUntilActive 19 = .ok (.getfield 10, 3) := by decide +kernel
theorem dX7_ticksUntilActive_22 : decode cX7_ticksUntilActive 22 = .ok (.invokevirtual 52, 3) := by decide +kernel
theorem dX7_ticksUntilActive_25 : decode cX7_ticksUntilActive 25 = .ok (.aload_n 0, 1) := by decide +kernel
theorem dX7_ticksUntilActive_26 : decode cX7_ticksUntilActive 26 = .ok (.getfield 16, 3) := by decide +kernel
theorem dX7_ticksUntilActive_29 : decode cX7_ticksUntilActive 29 = .ok (.iload_n 1, 1) := by decide +kernel
theorem dX7_ticksUntilActive_30 : decode cX7_ticksUntilActive 30 = .ok (.invokevirtual 259, 3) := by decide +kernel
theorem dX7_ticksUntilActive_33 : decode cX7_ticksUntilActive 33 = .ok (.ireturn, 1) := by decide +kernel
theorem dX7_ticksForNew_0 : decode cX7_ticksForNew 0 = .ok (.aload_n 0, 1) := by decide +kernel
theorem dX7_ticksForNew_1 : decode cX7_ticksForNew 1 = .ok (.iload_n 1, 1) := by decide +kernel
theorem dX7_ticksForNew_2 : decode cX7_ticksForNew 2 = .ok (.iload_n 2, 1) := by decide +kernel
theorem dX7_ticksForNew_3 : decode cX7_ticksForNew 3 = .ok (.invokevirtual 124, 3) := by decide +kernel
theorem dX7_ticksForNew_6 : decode cX7_ticksForNew 6 = .ok (.iload_n 3, 1) := by decide +kernel
theorem dX7_ticksForNew_7 : decode cX7_ticksForNew 7 = .ok (.iconst 1, 1) := by decide +kernel
theorem dX7_ticksForNew_8 : decode cX7_ticksForNew 8 = .ok (.sipush 1000, 3) := by decide +kernel
theorem dX7_ticksForNew_11 : decode cX7_ticksForNew 11 = .ok (.invokestatic 86, 3) := by decide +kernel
theorem dX7_ticksForNew_14 : decode cX7_ticksForNew 14 = .ok (.aload_n 0, 1) := by decide +kernel
theorem dX7_ticksForNew_15 : decode cX7_ticksForNew 15 = .ok (.getfield 16, 3) := by decide +kernel
theorem dX7_ticksForNew_18 : decode cX7_ticksForNew 18 = .ok (.aload_n 0, 1) := by decide +kernel
theorem dX7_ticksForNew_19 : decode cX7_ticksForNew 19 = .ok (.getfield 10, 3) := by decide +kernel
theorem dX7_ticksForNew_22 : decode cX7_ticksForNew 22 = .ok (.invokevirtual 52, 3) := by decide +kernel
theorem dX7_ticksForNew_25 : decode cX7_ticksForNew 25 = .ok (.aload_n 0, 1) := by decide +kernel
theorem dX7_ticksForNew_26 : decode cX7_ticksForNew 26 = .ok (.getfield 16, 3) := by decide +kernel
theorem dX7_ticksForNew_29 : decode cX7_ticksForNew 29 = .ok (.iload_n 1, 1) := by decide +kernel
theorem dX7_ticksForNew_30 : decode cX7_ticksForNew 30 = .ok (.iload_n 2, 1) := by decide +kernel
theorem dX7_ticksForNew_31 : decode cX7_ticksForNew 31 = .ok (.iload_n 3, 1) := by decide +kernel
theorem dX7_ticksForNew_32 : decode cX7_ticksForNew 32 = .ok (.iconst 1, 1) := by decide +kernel
theorem dX7_ticksForNew_33 : decode cX7_ticksForNew 33 = .ok (.invokevirtual 127, 3) := by decide +kernel
theorem dX7_ticksForNew_36 : decode cX7_ticksForNew 36 = .ok (.istore 4, 2) := by decide +kernel
theorem dX7_ticksForNew_38 : decode cX7_ticksForNew 38 = .ok (.iload 4, 2) := by decide +kernel
theorem dX7_ticksForNew_40 : decode cX7_ticksForNew 40 = .ok (.bipush (-2), 2) := by decide +kernel
theorem dX7_ticksForNew_42 : decode cX7_ticksForNew 42 = .ok (.if_icmp .ne 8, 3) := by decide +kernel
theorem dX7_ticksForNew_45 : decode cX7_ticksForNew 45 = .ok (.bipush (-2), 2) := by decide +kernel
theorem dX7_ticksForNew_47 : decode cX7_ticksForNew 47 = .ok (.goto 12, 3) := by decide +kernel
theorem dX7_ticksForNew_50 : decode cX7_ticksForNew 50 = .ok (.aload_n 0, 1) := by decide +kernel
theorem dX7_ticksForNew_51 : decode cX7_ticksForNew 51 = .ok (.getfield 16, 3) := by decide +kernel
theorem dX7_ticksForNew_54 : decode cX7_ticksForNew 54 = .ok (.iload 4, 2) := by decide +kernel
theorem dX7_ticksForNew_56 : decode cX7_ticksForNew 56 = .ok (.invokevirtual 259, 3) := by decide +kernel
theorem dX7_ticksForNew_59 : decode cX7_ticksForNew 59 = .ok (.ireturn, 1) := by decide +kernel
theorem dX7_greatestNew_0 : decode cX7_greatestNew 0 = .ok (.aload_n 0, 1) := by decide +kernel
theorem dX7_greatestNew_1 : decode cX7_greatestNew 1 = .ok (.iload_n 1, 1) := by decide +kernel
theorem dX7_greatestNew_2 : decode cX7_greatestNew 2 = .ok (.iload_n 2, 1) := by decide +kernel
theorem dX7_greatestNew_3 : decode cX7_greatestNew 3 = .ok (.invokevirtual 124, 3) := by decide +kernel
theorem dX7_greatestNew_6 : decode cX7_greatestNew 6 = .ok (.sipush 512, 3) := by decide +kernel
theorem dX7_greatestNew_9 : decode cX7_greatestNew 9 = .ok (.istore_n 3, 1) := by decide +kernel
theorem dX7_greatestNew_10 : decode cX7_greatestNew 10 = .ok (.iload_n 3, 1) := by decide +kernel
theorem dX7_greatestNew_11 : decode cX7_greatestNew 11 = .ok (.iconst 1, 1) := by decide +kernel
theorem dX7_greatestNew_12 : decode cX7_greatestNew 12 = .ok (.if_icmp .lt 59, 3) := by decide +kernel
theorem dX7_greatestNew_15 : decode cX7_greatestNew 15 = .ok (.aload_n 0, 1) := by decide +kernel
theorem dX7_greatestNew_16 : decode cX7_greatestNew 16 = .ok (.getfield 16, 3) := by decide +kernel
theorem dX7_greatestNew_19 : decode cX7_greatestNew 19 = .ok (.aload_n 0, 1) := by decide +kernel
theorem dX7_greatestNew_20 : decode cX7_greatestNew 20 = .ok (.getfield 10, 3) := by decide +kernel
theorem dX7_greatestNew_23 : decode cX7_greatestNew 23 = .ok (.invokevirtual 52, 3) := by decide +kernel
theorem dX7_greatestNew_26 : decode cX7_greatestNew 26 = .ok (.aload_n 0, 1) := by decide +kernel
theorem dX7_greatestNew_27 : decode cX7_greatestNew 27 = .ok (.getfield 16, 3) := by decide +kernel
theorem dX7_greatestNew_30 : decode cX7_greatestNew 30 = .ok (.iload_n 1, 1) := by decide +kernel
theorem dX7_greatestNew_31 : decode cX7_greatestNew 31 = .ok (.iload_n 2, 1) := by decide +kernel
theorem dX7_greatestNew_32 : decode cX7_greatestNew 32 = .ok (.iload_n 3, 1) := by decide +kernel
theorem dX7_greatestNew_33 : decode cX7_greatestNew 33 = .ok (.iconst 1, 1) := by decide +kernel
theorem dX7_greatestNew_34 : decode cX7_greatestNew 34 = .ok (.invokevirtual 127, 3) := by decide +kernel
theorem dX7_greatestNew_37 : decode cX7_greatestNew 37 = .ok (.istore 4, 2) := by decide +kernel
theorem dX7_greatestNew_39 : decode cX7_greatestNew 39 = .ok (.iload 4, 2) := by decide +kernel
theorem dX7_greatestNew_41 : decode cX7_greatestNew 41 = .ok (.bipush (-2), 2) := by decide +kernel
theorem dX7_greatestNew_43 : decode cX7_greatestNew 43 = .ok (.if_icmp .ne 6, 3) := by decide +kernel
theorem dX7_greatestNew_46 : decode cX7_greatestNew 46 = .ok (.bipush (-2), 2) := by decide +kernel
theorem dX7_greatestNew_48 : decode cX7_greatestNew 48 = .ok (.ireturn, 1) := by decide +kernel
theorem dX7_greatestNew_49 : decode cX7_greatestNew 49 = .ok (.aload_n 0, 1) := by decide +kernel
theorem dX7_greatestNew_50 : decode cX7_greatestNew 50 = .ok (.getfield 16, 3) := by decide +kernel
theorem dX7_greatestNew_53 : decode cX7_greatestNew 53 = .ok (.iload 4, 2) := by decide +kernel
theorem dX7_greatestNew_55 : decode cX7_greatestNew 55 = .ok (.invokevirtual 259, 3) := by decide +kernel
theorem dX7_greatestNew_58 : decode cX7_greatestNew 58 = .ok (.iconst (-1), 1) := by decide +kernel
theorem dX7_greatestNew_59 : decode cX7_greatestNew 59 = .ok (.if_icmp .eq 5, 3) := by decide +kernel
theorem dX7_greatestNew_62 : decode cX7_greatestNew 62 = .ok (.iload_n 3, 1) := by decide +kernel
theorem dX7_greatestNew_63 : decode cX7_greatestNew 63 = .ok (.ireturn, 1) := by decide +kernel
theorem dX7_greatestNew_64 : decode cX7_greatestNew 64 = .ok (.iload_n 3, 1) := by decide +kernel
theorem dX7_greatestNew_65 : decode cX7_greatestNew 65 = .ok (.iconst 2, 1) := by decide +kernel
theorem dX7_greatestNew_66 : decode cX7_greatestNew 66 = .ok (.idiv, 1) := by decide +kernel
theorem dX7_greatestNew_67 : decode cX7_greatestNew 67 = .ok (.istore_n 3, 1) := by decide +kernel
theorem dX7_greatestNew_68 : decode cX7_greatestNew 68 = .ok (.goto (-58), 3) := by decide +kernel
theorem dX7_greatestNew_71 : decode cX7_greatestNew 71 = .ok (.iconst (-1), 1) := by decide +kernel
theorem dX7_greatestNew_72 : decode cX7_greatestNew 72 = .ok (.ireturn, 1) := by decide +kernel
theorem dX7_revenueAfter_0 : decode cX7_revenueAfter 0 = .ok (.iload_n 1, 1) := by decide +kernel
theorem dX7_revenueAfter_1 : decode cX7_revenueAfter 1 = .ok (.iconst 0, 1) := by decide +kernel
theorem dX7_revenueAfter_2 : decode cX7_revenueAfter 2 = .ok (.sipush 2000, 3) := by decide +kernel
theorem dX7_revenueAfter_5 : decode cX7_revenueAfter 5 = .ok (.invokestatic 86, 3) := by decide +kernel
theorem dX7_revenueAfter_8 : decode cX7_revenueAfter 8 = .ok (.aload_n 0, 1) := by decide +kernel
theorem dX7_revenueAfter_9 : decode cX7_revenueAfter 9 = .ok (.getfield 16, 3) := by decide +kernel
theorem dX7_revenueAfter_12 : decode cX7_revenueAfter 12 = .ok (.aload_n 0, 1) := by decide +kernel
theorem dX7_revenueAfter_13 : decode cX7_revenueAfter 13 = .ok (.getfield 10, 3) := by decide +kernel
theorem dX7_revenueAfter_16 : decode cX7_revenueAfter 16 = .ok (.invokevirtual 52, 3) := by decide +kernel
theorem dX7_revenueAfter_19 : decode cX7_revenueAfter 19 = .ok (.aload_n 0, 1) := by decide +kernel
theorem dX7_revenueAfter_20 : decode cX7_revenueAfter 20 = .ok (.getfield 16, 3) := by decide +kernel
theorem dX7_revenueAfter_23 : decode cX7_revenueAfter 23 = .ok (.aload_n 0, 1) := by decide +kernel
theorem dX7_revenueAfter_24 : decode cX7_revenueAfter 24 = .ok (.getfield 16, 3) := by decide +kernel
theorem dX7_revenueAfter_27 : decode cX7_revenueAfter 27 = .ok (.getfield 121, 3) := by decide +kernel
theorem dX7_revenueAfter_30 : decode cX7_revenueAfter 30 = .ok (.iload_n 1, 1) := by decide +kernel
theorem dX7_revenueAfter_31 : decode cX7_revenueAfter 31 = .ok (.iadd, 1) := by decide +kernel
theorem dX7_revenueAfter_32 : decode cX7_revenueAfter 32 = .ok (.invokevirtual 157, 3) := by decide +kernel
theorem dX7_revenueAfter_35 : decode cX7_revenueAfter 35 = .ok (.aload_n 0, 1) := by decide +kernel
theorem dX7_revenueAfter_36 : decode cX7_revenueAfter 36 = .ok (.getfield 16, 3) := by decide +kernel
theorem dX7_revenueAfter_39 : decode cX7_revenueAfter 39 = .ok (.invokevirtual 185, 3) := by decide +kernel
theorem dX7_revenueAfter_42 : decode cX7_revenueAfter 42 = .ok (.lreturn, 1) := by decide +kernel
theorem dX7_availableAfter_0 : decode cX7_availableAfter 0 = .ok (.iload_n 1, 1) := by decide +kernel
theorem dX7_availableAfter_1 : decode cX7_availableAfter 1 = .ok (.aload_n 0, 1) := by decide +kernel
theorem dX7_availableAfter_2 : decode cX7_availableAfter 2 = .ok (.getfield 10, 3) := by decide +kernel
theorem dX7_availableAfter_5 : decode cX7_availableAfter 5 = .ok (.getfield 55, 3) := by decide +kernel
theorem dX7_availableAfter_8 : decode cX7_availableAfter 8 = .ok (.getfield 59, 3) := by decide +kernel
theorem dX7_availableAfter_11 : decode cX7_availableAfter 11 = .ok (.invokestatic 74, 3) := by decide +kernel
theorem dX7_availableAfter_14 : decode cX7_availableAfter 14 = .ok (.iload_n 2, 1) := by decide +kernel
theorem dX7_availableAfter_15 : decode cX7_availableAfter 15 = .ok (.iconst 0, 1) := by decide +kernel
theorem dX7_availableAfter_16 : decode cX7_availableAfter 16 = .ok (.sipush 2000, 3) := by decide +kernel
theorem dX7_availableAfter_19 : decode cX7_availableAfter 19 = .ok (.invokestatic 86, 3) := by decide +kernel
theorem dX7_availableAfter_22 : decode cX7_availableAfter 22 = .ok (.aload_n 0, 1) := by decide +kernel
theorem dX7_availableAfter_23 : decode cX7_availableAfter 23 = .ok (.getfield 16, 3) := by decide +kernel
theorem dX7_availableAfter_26 : decode cX7_availableAfter 26 = .ok (.aload_n 0, 1) := by decide +kernel
theorem dX7_availableAfter_27 : decode cX7_availableAfter 27 = .ok (.getfield 10, 3) := by decide +kernel
theorem dX7_availableAfter_30 : decode cX7_availableAfter 30 = .ok (.invokevirtual 52, 3) := by decide +kernel
theorem dX7_availableAfter_33 : decode cX7_availableAfter 33 = .ok (.aload_n 0, 1) := by decide +kernel
theorem dX7_availableAfter_34 : decode cX7_availableAfter 34 = .ok (.getfield 16, 3) := by decide +kernel
theorem dX7_availableAfter_37 : decode cX7_availableAfter 37 = .ok (.aload_n 0, 1) := by decide +kernel
theorem dX7_availableAfter_38 : decode cX7_availableAfter 38 = .ok (.getfield 16, 3) := by decide +kernel
theorem dX7_availableAfter_41 : decode cX7_availableAfter 41 = .ok (.getfield 121, 3) := by decide +kernel
theorem dX7_availableAfter_44 : decode cX7_availableAfter 44 = .ok (.iload_n 2, 1) := by decide +kernel
theorem dX7_availableAfter_45 : decode cX7_availableAfter 45 = .ok (.iadd, 1) := by decide +kernel
theorem dX7_availableAfter_46 : decode cX7_availableAfter 46 = .ok (.invokevirtual 157, 3) := by decide +kernel
theorem dX7_availableAfter_49 : decode cX7_availableAfter 49 = .ok (.aload_n 0, 1) := by decide +kernel
theorem dX7_availableAfter_50 : decode cX7_availableAfter 50 = .ok (.getfield 16, 3) := by decide +kernel
theorem dX7_availableAfter_53 : decode cX7_availableAfter 53 = .ok (.getfield 55, 3) := by decide +kernel
theorem dX7_availableAfter_56 : decode cX7_availableAfter 56 = .ok (.iload_n 1, 1) := by decide +kernel
theorem dX7_availableAfter_57 : decode cX7_availableAfter 57 = .ok (.invokevirtual 262, 3) := by decide +kernel
theorem dX7_availableAfter_60 : decode cX7_availableAfter 60 = .ok (.ireturn, 1) := by decide +kernel
theorem dX7_ticksUntilAvailable_0 : decode cX7_ticksUntilAvailable 0 = .ok (.iload_n 1, 1) := by decide +kernel
theorem dX7_ticksUntilAvailable_1 : decode cX7_ticksUntilAvailable 1 = .ok (.aload_n 0, 1) := by decide +kernel
theorem dX7_ticksUntilAvailable_2 : decode cX7_ticksUntilAvailable 2 = .ok (.getfield 10, 3) := by decide +kernel
theorem dX7_ticksUntilAvailable_5 : decode cX7_ticksUntilAvailable 5 = .ok (.getfield 55, 3) := by decide +kernel
theorem dX7_ticksUntilAvailable_8 : decode cX7_ticksUntilAvailable 8 = .ok (.getfield 59, 3) := by decide +kernel
theorem dX7_ticksUntilAvailable_11 : decode cX7_ticksUntilAvailable 11 = .ok (.invokestatic 74, 3) := by decide +kernel
theorem dX7_ticksUntilAvailable_14 : decode cX7_ticksUntilAvailable 14 = .ok (.iload_n 2, 1) := by decide +kernel
theorem dX7_ticksUntilAvailable_15 : decode cX7_ticksUntilAvailable 15 = .ok (.iconst 0, 1) := by decide +kernel
theorem dX7_ticksUntilAvailable_16 : decode cX7_ticksUntilAvailable 16 = .ok (.sipush 1000, 3) := by decide +kernel
theorem dX7_ticksUntilAvailable_19 : decode cX7_ticksUntilAvailable 19 = .ok (.invokestatic 86, 3) := by decide +kernel
theorem dX7_ticksUntilAvailable_22 : decode cX7_ticksUntilAvailable 22 = .ok (.aload_n 0, 1) := by decide +kernel
theorem dX7_ticksUntilAvailable_23 : decode cX7_ticksUntilAvailable 23 = .ok (.getfield 16, 3) := by decide +kernel
theorem dX7_ticksUntilAvailable_26 : decode cX7_ticksUntilAvailable 26 = .ok (.aload_n 0, 1) := by decide +kernel
theorem dX7_ticksUntilAvailable_27 : decode cX7_ticksUntilAvailable 27 = .ok (.getfield 10, 3) := by decide +kernel
theorem dX7_ticksUntilAvailable_30 : decode cX7_ticksUntilAvailable 30 = .ok (.invokevirtual 52, 3) := by decide +kernel
theorem dX7_ticksUntilAvailable_33 : decode cX7_ticksUntilAvailable 33 = .ok (.aload_n 0, 1) := by decide +kernel
theorem dX7_ticksUntilAvailable_34 : decode cX7_ticksUntilAvailable 34 = .ok (.getfield 16, 3) := by decide +kernel
theorem dX7_ticksUntilAvailable_37 : decode cX7_ticksUntilAvailable 37 = .ok (.iload_n 1, 1) := by decide +kernel
theorem dX7_ticksUntilAvailable_38 : decode cX7_ticksUntilAvailable 38 = .ok (.iload_n 2, 1) := by decide +kernel
theorem dX7_ticksUntilAvailable_39 : decode cX7_ticksUntilAvailable 39 = .ok (.invokevirtual 265, 3) := by decide +kernel
theorem dX7_ticksUntilAvailable_42 : decode cX7_ticksUntilAvailable 42 = .ok (.ireturn, 1) := by decide +kernel
theorem dX7_stateAfter_0 : decode cX7_stateAfter 0 = .ok (.iload_n 1, 1) := by decide +kernel
theorem dX7_stateAfter_1 : decode cX7_stateAfter 1 = .ok (.aload_n 0, 1) := by decide +kernel
theorem dX7_stateAfter_2 : decode cX7_stateAfter 2 = .ok (.getfield 10, 3) := by decide +kernel
theorem dX7_stateAfter_5 : decode cX7_stateAfter 5 = .ok (.getfield 131, 3) := by decide +kernel
theorem dX7_stateAfter_8 : decode cX7_stateAfter 8 = .ok (.getfield 135, 3) := by decide +kernel
theorem dX7_stateAfter_11 : decode cX7_stateAfter 11 = .ok (.invokestatic 74, 3) := by decide +kernel
theorem dX7_stateAfter_14 : decode cX7_stateAfter 14 = .ok (.iload_n 2, 1) := by decide +kernel
theorem dX7_stateAfter_15 : decode cX7_stateAfter 15 = .ok (.iconst 0, 1) := by decide +kernel
theorem dX7_stateAfter_16 : decode cX7_stateAfter 16 = .ok (.sipush 2000, 3) := by decide +kernel
theorem dX7_stateAfter_19 : decode cX7_stateAfter 19 = .ok (.invokestatic 86, 3) := by decide +kernel
theorem dX7_stateAfter_22 : decode cX7_stateAfter 22 = .ok (.aload_n 0, 1) := by decide +kernel
theorem dX7_stateAfter_23 : decode cX7_stateAfter 23 = .ok (.getfield 16, 3) := by decide +kernel
theorem dX7_stateAfter_26 : decode cX7_stateAfter 26 = .ok (.aload_n 0, 1) := by decide +kernel
theorem dX7_stateAfter_27 : decode cX7_stateAfter 27 = .ok (.getfield 10, 3) := by decide +kernel
theorem dX7_stateAfter_30 : decode cX7_stateAfter 30 = .ok (.invokevirtual 52, 3) := by decide +kernel
theorem dX7_stateAfter_33 : decode cX7_stateAfter 33 = .ok (.aload_n 0, 1) := by decide +kernel
theorem dX7_stateAfter_34 : decode cX7_stateAfter 34 = .ok (.getfield 16, 3) := by decide +kernel
theorem dX7_stateAfter_37 : decode cX7_stateAfter 37 = .ok (.aload_n 0, 1) := by decide +kernel
theorem dX7_stateAfter_38 : decode cX7_stateAfter 38 = .ok (.getfield 16, 3) := by decide +kernel
theorem dX7_stateAfter_41 : decode cX7_stateAfter 41 = .ok (.getfield 121, 3) := by decide +kernel
theorem dX7_stateAfter_44 : decode cX7_stateAfter 44 = .ok (.iload_n 2, 1) := by decide +kernel
theorem dX7_stateAfter_45 : decode cX7_stateAfter 45 = .ok (.iadd, 1) := by decide +kernel
theorem dX7_stateAfter_46 : decode cX7_stateAfter 46 = .ok (.invokevirtual 157, 3) := by decide +kernel
theorem dX7_stateAfter_49 : decode cX7_stateAfter 49 = .ok (.aload_n 0, 1) := by decide +kernel
theorem dX7_stateAfter_50 : decode cX7_stateAfter 50 = .ok (.getfield 16, 3) := by decide +kernel
theorem dX7_stateAfter_53 : decode cX7_stateAfter 53 = .ok (.getfield 131, 3) := by decide +kernel
theorem dX7_stateAfter_56 : decode cX7_stateAfter 56 = .ok (.getfield 141, 3) := by decide +kernel
theorem dX7_stateAfter_59 : decode cX7_stateAfter 59 = .ok (.iload_n 1, 1) := by decide +kernel
theorem dX7_stateAfter_60 : decode cX7_stateAfter 60 = .ok (.iaload, 1) := by decide +kernel
theorem dX7_stateAfter_61 : decode cX7_stateAfter 61 = .ok (.ireturn, 1) := by decide +kernel
theorem dX7_activeWithout_0 : decode cX7_activeWithout 0 = .ok (.iload_n 1, 1) := by decide +kernel
theorem dX7_activeWithout_1 : decode cX7_activeWithout 1 = .ok (.aload_n 0, 1) := by decide +kernel
theorem dX7_activeWithout_2 : decode cX7_activeWithout 2 = .ok (.getfield 10, 3) := by decide +kernel
theorem dX7_activeWithout_5 : decode cX7_activeWithout 5 = .ok (.getfield 55, 3) := by decide +kernel
theorem dX7_activeWithout_8 : decode cX7_activeWithout 8 = .ok (.getfield 59, 3) := by decide +kernel
theorem dX7_activeWithout_11 : decode cX7_activeWithout 11 = .ok (.invokestatic 74, 3) := by decide +kernel
theorem dX7_activeWithout_14 : decode cX7_activeWithout 14 = .ok (.iload_n 2, 1) := by decide +kernel
theorem dX7_activeWithout_15 : decode cX7_activeWithout 15 = .ok (.iconst 0, 1) := by decide +kernel
theorem dX7_activeWithout_16 : decode cX7_activeWithout 16 = .ok (.sipush 2000, 3) := by decide +kernel
theorem dX7_activeWithout_19 : decode cX7_activeWithout 19 = .ok (.invokestatic 86, 3) := by decide +kernel
theorem dX7_activeWithout_22 : decode cX7_activeWithout 22 = .ok (.aload_n 0, 1) := by decide +kernel
theorem dX7_activeWithout_23 : decode cX7_activeWithout 23 = .ok (.getfield 16, 3) := by decide +kernel
theorem dX7_activeWithout_26 : decode cX7_activeWithout 26 = .ok (.aload_n 0, 1) := by decide +kernel
theorem dX7_activeWithout_27 : decode cX7_activeWithout 27 = .ok (.getfield 10, 3) := by decide +kernel
theorem dX7_activeWithout_30 : decode cX7_activeWithout 30 = .ok (.invokevirtual 52, 3) := by decide +kernel
theorem dX7_activeWithout_33 : decode cX7_activeWithout 33 = .ok (.aload_n 0, 1) := by decide +kernel
theorem dX7_activeWithout_34 : decode cX7_activeWithout 34 = .ok (.getfield 16, 3) := by decide +kernel
theorem dX7_activeWithout_37 : decode cX7_activeWithout 37 = .ok (.getfield 55, 3) := by decide +kernel
theorem dX7_activeWithout_40 : decode cX7_activeWithout 40 = .ok (.iload_n 1, 1) := by decide +kernel
theorem dX7_activeWithout_41 : decode cX7_activeWithout 41 = .ok (.invokevirtual 110, 3) := by decide +kernel
theorem dX7_activeWithout_44 : decode cX7_activeWithout 44 = .ok (.ifCond .eq 12, 3) := by decide +kernel
theorem dX7_activeWithout_47 : decode cX7_activeWithout 47 = .ok (.aload_n 0, 1) := by decide +kernel
theorem dX7_activeWithout_48 : decode cX7_activeWithout 48 = .ok (.getfield 16, 3) := by decide +kernel
theorem dX7_activeWithout_51 : decode cX7_activeWithout 51 = .ok (.iload_n 1, 1) := by decide +kernel
theorem dX7_activeWithout_52 : decode cX7_activeWithout 52 = .ok (.invokevirtual 114, 3) := by decide +kernel
theorem dX7_activeWithout_55 : decode cX7_activeWithout 55 = .ok (.pop, 1) := by decide +kernel
theorem dX7_activeWithout_56 : decode cX7_activeWithout 56 = .ok (.aload_n 0, 1) := by decide +kernel
theorem dX7_activeWithout_57 : decode cX7_activeWithout 57 = .ok (.getfield 16, 3) := by decide +kernel
theorem dX7_activeWithout_60 : decode cX7_activeWithout 60 = .ok (.aload_n 0, 1) := by decide +kernel
theorem dX7_activeWithout_61 : decode cX7_activeWithout 61 = .ok (.getfield 16, 3) := by decide +kernel
theorem dX7_activeWithout_64 : decode cX7_activeWithout 64 = .ok (.getfield 121, 3) := by decide +kernel
theorem dX7_activeWithout_67 : decode cX7_activeWithout 67 = .ok (.iload_n 2, 1) := by decide +kernel
theorem dX7_activeWithout_68 : decode cX7_activeWithout 68 = .ok (.iadd, 1) := by decide +kernel
theorem dX7_activeWithout_69 : decode cX7_activeWithout 69 = .ok (.invokevirtual 157, 3) := by decide +kernel
theorem dX7_activeWithout_72 : decode cX7_activeWithout 72 = .ok (.aload_n 0, 1) := by decide +kernel
theorem dX7_activeWithout_73 : decode cX7_activeWithout 73 = .ok (.getfield 16, 3) := by decide +kernel
theorem dX7_activeWithout_76 : decode cX7_activeWithout 76 = .ok (.getfield 131, 3) := by decide +kernel
theorem dX7_activeWithout_79 : decode cX7_activeWithout 79 = .ok (.iconst 2, 1) := by decide +kernel
theorem dX7_activeWithout_80 : decode cX7_activeWithout 80 = .ok (.invokevirtual 172, 3) := by decide +kernel
theorem dX7_activeWithout_83 : decode cX7_activeWithout 83 = .ok (.ireturn, 1) := by decide +kernel
theorem dX7_ticksUntilQuiet_0 : decode cX7_ticksUntilQuiet 0 = .ok (.aload_n 0, 1) := by decide +kernel
theorem dX7_ticksUntilQuiet_1 : decode cX7_ticksUntilQuiet 1 = .ok (.getfield 16, 3) := by decide +kernel
theorem dX7_ticksUntilQuiet_4 : decode cX7_ticksUntilQuiet 4 = .ok (.aload_n 0, 1) := by decide +kernel
theorem dX7_ticksUntilQuiet_5 : decode cX7_ticksUntilQuiet 5 = .ok (.getfield 10, 3) := by decide +kernel
theorem dX7_ticksUntilQuiet_8 : decode cX7_ticksUntilQuiet 8 = .ok (.invokevirtual 52, 3) := by decide +kernel
theorem dX7_ticksUntilQuiet_11 : decode cX7_ticksUntilQuiet 11 = .ok (.aload_n 0, 1) := by decide +kernel
theorem dX7_ticksUntilQuiet_12 : decode cX7_ticksUntilQuiet 12 = .ok (.getfield 16, 3) := by decide +kernel
theorem dX7_ticksUntilQuiet_15 : decode cX7_ticksUntilQuiet 15 = .ok (.invokevirtual 268, 3) := by decide +kernel
theorem dX7_ticksUntilQuiet_18 : decode cX7_ticksUntilQuiet 18 = .ok (.ireturn, 1) := by decide +kernel
theorem dX7_saveSnapshot_0 : decode cX7_saveSnapshot 0 = .ok (.iload_n 1, 1) := by decide +kernel
theorem dX7_saveSnapshot_1 : decode cX7_saveSnapshot 1 = .ok (.iconst 0, 1) := by decide +kernel
theorem dX7_saveSnapshot_2 : decode cX7_saveSnapshot 2 = .ok (.iconst 1, 1) := by decide +kernel
theorem dX7_saveSnapshot_3 : decode cX7_saveSnapshot 3 = .ok (.invokestatic 86, 3) := by decide +kernel
theorem dX7_saveSnapshot_6 : decode cX7_saveSnapshot 6 = .ok (.aload_n 0, 1) := by decide +kernel
theorem dX7_saveSnapshot_7 : decode cX7_saveSnapshot 7 = .ok (.getfield 19, 3) := by decide +kernel
theorem dX7_saveSnapshot_10 : decode cX7_saveSnapshot 10 = .ok (.iload_n 1, 1) := by decide +kernel
theorem dX7_saveSnapshot_11 : decode cX7_saveSnapshot 11 = .ok (.aaload, 1) := by decide +kernel
theorem dX7_saveSnapshot_12 : decode cX7_saveSnapshot 12 = .ok (.ifnonnull 16, 3) := by decide +kernel
theorem dX7_saveSnapshot_15 : decode cX7_saveSnapshot 15 = .ok (.aload_n 0, 1) := by decide +kernel
theorem dX7_saveSnapshot_16 : decode cX7_saveSnapshot 16 = .ok (.getfield 19, 3) := by decide +kernel
theorem dX7_saveSnapshot_19 : decode cX7_saveSnapshot 19 = .ok (.iload_n 1, 1) := by decide +kernel
theorem dX7_saveSnapshot_20 : decode cX7_saveSnapshot 20 = .ok (.new 7, 3) := by decide +kernel
theorem dX7_saveSnapshot_23 : decode cX7_saveSnapshot 23 = .ok (.dup, 1) := by decide +kernel
theorem dX7_saveSnapshot_24 : decode cX7_saveSnapshot 24 = .ok (.invokespecial 9, 3) := by decide +kernel
theorem dX7_saveSnapshot_27 : decode cX7_saveSnapshot 27 = .ok (.aastore, 1) := by decide +kernel
theorem dX7_saveSnapshot_28 : decode cX7_saveSnapshot 28 = .ok (.aload_n 0, 1) := by decide +kernel
theorem dX7_saveSnapshot_29 : decode cX7_saveSnapshot 29 = .ok (.getfield 19, 3) := by decide +kernel
theorem dX7_saveSnapshot_32 : decode cX7_saveSnapshot 32 = .ok (.iload_n 1, 1) := by decide +kernel
theorem dX7_saveSnapshot_33 : decode cX7_saveSnapshot 33 = .ok (.aaload, 1) := by decide +kernel
theorem dX7_saveSnapshot_34 : decode cX7_saveSnapshot 34 = .ok (.aload_n 0, 1) := by decide +kernel
theorem dX7_saveSnapshot_35 : decode cX7_saveSnapshot 35 = .ok (.getfield 10, 3) := by decide +kernel
theorem dX7_saveSnapshot_38 : decode cX7_saveSnapshot 38 = .ok (.invokevirtual 52, 3) := by decide +kernel
theorem dX7_saveSnapshot_41 : decode cX7_saveSnapshot 41 = .ok (.aload_n 0, 1) := by decide +kernel
theorem dX7_saveSnapshot_42 : decode cX7_saveSnapshot 42 = .ok (.getfield 10, 3) := by decide +kernel
theorem dX7_saveSnapshot_45 : decode cX7_saveSnapshot 45 = .ok (.getfield 121, 3) := by decide +kernel
theorem dX7_saveSnapshot_48 : decode cX7_saveSnapshot 48 = .ok (.ireturn, 1) := by decide +kernel
theorem dX7_restoreSnapshot_0 : decode cX7_restoreSnapshot 0 = .ok (.iload_n 1, 1) := by decide +kernel
theorem dX7_restoreSnapshot_1 : decode cX7_restoreSnapshot 1 = .ok (.iconst 0, 1) := by decide +kernel
theorem dX7_restoreSnapshot_2 : decode cX7_restoreSnapshot 2 = .ok (.iconst 1, 1) := by decide +kernel
theorem dX7_restoreSnapshot_3 : decode cX7_restoreSnapshot 3 = .ok (.invokestatic 86, 3) := by decide +kernel
theorem dX7_restoreSnapshot_6 : decode cX7_restoreSnapshot 6 = .ok (.aload_n 0, 1) := by decide +kernel
theorem dX7_restoreSnapshot_7 : decode cX7_restoreSnapshot 7 = .ok (.getfield 19, 3) := by decide +kernel
theorem dX7_restoreSnapshot_10 : decode cX7_restoreSnapshot 10 = .ok (.iload_n 1, 1) := by decide +kernel
theorem dX7_restoreSnapshot_11 : decode cX7_restoreSnapshot 11 = .ok (.aaload, 1) := by decide +kernel
theorem dX7_restoreSnapshot_12 : decode cX7_restoreSnapshot 12 = .ok (.ifnonnull 5, 3) := by decide +kernel
theorem dX7_restoreSnapshot_15 : decode cX7_restoreSnapshot 15 = .ok (.iconst (-1), 1) := by decide +kernel
theorem dX7_restoreSnapshot_16 : decode cX7_restoreSnapshot 16 = .ok (.ireturn, 1) := by decide +kernel
theorem dX7_restoreSnapshot_17 : decode cX7_restoreSnapshot 17 = .ok (.aload_n 0, 1) := by decide +kernel
theorem dX7_restoreSnapshot_18 : decode cX7_restoreSnapshot 18 = .ok (.getfield 10, 3) := by decide +kernel
theorem dX7_restoreSnapshot_21 : decode cX7_restoreSnapshot 21 = .ok (.aload_n 0, 1) := by decide +kernel
theorem dX7_restoreSnapshot_22 : decode cX7_restoreSnapshot 22 = .ok (.getfield 19, 3) := by decide +kernel
theorem dX7_restoreSnapshot_25 : decode cX7_restoreSnapshot 25 = .ok (.iload_n 1, 1) := by decide +kernel
theorem dX7_restoreSnapshot_26 : decode cX7_restoreSnapshot 26 = .ok (.aaload, 1) := by decide +kernel
theorem dX7_restoreSnapshot_27 : decode cX7_restoreSnapshot 27 = .ok (.invokevirtual 52, 3) := by decide +kernel
theorem dX7_restoreSnapshot_30 : decode cX7_restoreSnapshot 30 = .ok (.aload_n 0, 1) := by decide +kernel
theorem dX7_restoreSnapshot_31 : decode cX7_restoreSnapshot 31 = .ok (.getfield 10, 3) := by decide +kernel
theorem dX7_restoreSnapshot_34 : decode cX7_restoreSnapshot 34 = .ok (.getfield 121, 3) := by decide +kernel
theorem dX7_restoreSnapshot_37 : decode cX7_restoreSnapshot 37 = .ok (.ireturn, 1) := by decide +kernel
theorem dX7_requireIndex_0 : decode cX7_requireIndex 0 = .ok (.iload_n 0, 1) := by decide +kernel
theorem dX7_requireIndex_1 : decode cX7_requireIndex 1 = .ok (.ifCond .lt 8, 3) := by decide +kernel
theorem dX7_requireIndex_4 : decode cX7_requireIndex 4 = .ok (.iload_n 0, 1) := by decide +kernel
theorem dX7_requireIndex_5 : decode cX7_requireIndex 5 = .ok (.iload_n 1, 1) := by decide +kernel
theorem dX7_requireIndex_6 : decode cX7_requireIndex 6 = .ok (.if_icmp .lt 14, 3) := by decide +kernel
theorem dX7_requireIndex_9 : decode cX7_requireIndex 9 = .ok (.new 271, 3) := by decide +kernel
theorem dX7_requireIndex_12 : decode cX7_requireIndex 12 = .ok (.dup, 1) := by decide +kernel
theorem dX7_requireIndex_13 : decode cX7_requireIndex 13 = .ok (.ldc_w 273, 3) := by decide +kernel
theorem dX7_requireIndex_16 : decode cX7_requireIndex 16 = .ok (.invokespecial 275, 3) := by decide +kernel
theorem dX7_requireIndex_19 : decode cX7_requireIndex 19 = .ok (.athrow, 1) := by decide +kernel
theorem dX7_requireIndex_20 : decode cX7_requireIndex 20 = .ok (.return_, 1) := by decide +kernel
theorem dX7_requireRange_0 : decode cX7_requireRange 0 = .ok (.iload_n 0, 1) := by decide +kernel
theorem dX7_requireRange_1 : decode cX7_requireRange 1 = .ok (.iload_n 1, 1) := by decide +kernel
theorem dX7_requireRange_2 : decode cX7_requireRange 2 = .ok (.if_icmp .lt 8, 3) := by decide +kernel
theorem dX7_requireRange_5 : decode cX7_requireRange 5 = .ok (.iload_n 0, 1) := by decide +kernel
theorem dX7_requireRange_6 : decode cX7_requireRange 6 = .ok (.iload_n 2, 1) := by decide +kernel
theorem dX7_requireRange_7 : decode cX7_requireRange 7 = .ok (.if_icmp .le 14, 3) := by decide +kernel
theorem dX7_requireRange_10 : decode cX7_requireRange 10 = .ok (.new 278, 3) := by decide +kernel
theorem dX7_requireRange_13 : decode cX7_requireRange 13 = .ok (.dup, 1) := by decide +kernel
theorem dX7_requireRange_14 : decode cX7_requireRange 14 = .ok (.ldc_w 280, 3) := by decide +kernel
theorem dX7_requireRange_17 : decode cX7_requireRange 17 = .ok (.invokespecial 282, 3) := by decide +kernel
theorem dX7_requireRange_20 : decode cX7_requireRange 20 = .ok (.athrow, 1) := by decide +kernel
theorem dX7_requireRange_21 : decode cX7_requireRange 21 = .ok (.return_, 1) := by decide +kernel
theorem dX7_requirePair_0 : decode cX7_requirePair 0 = .ok (.iload_n 1, 1) := by decide +kernel
theorem dX7_requirePair_1 : decode cX7_requirePair 1 = .ok (.aload_n 0, 1) := by decide +kernel
theorem dX7_requirePair_2 : decode cX7_requirePair 2 = .ok (.getfield 10, 3) := by decide +kernel
theorem dX7_requirePair_5 : decode cX7_requirePair 5 = .ok (.getfield 71, 3) := by decide +kernel
theorem dX7_requirePair_8 : decode cX7_requirePair 8 = .ok (.invokestatic 74, 3) := by decide +kernel
theorem dX7_requirePair_11 : decode cX7_requirePair 11 = .ok (.iload_n 2, 1) := by decide +kernel
theorem dX7_requirePair_12 : decode cX7_requirePair 12 = .ok (.aload_n 0, 1) := by decide +kernel
theorem dX7_requirePair_13 : decode cX7_requirePair 13 = .ok (.getfield 10, 3) := by decide +kernel
theorem dX7_requirePair_16 : decode cX7_requirePair 16 = .ok (.getfield 71, 3) := by decide +kernel
theorem dX7_requirePair_19 : decode cX7_requirePair 19 = .ok (.invokestatic 74, 3) := by decide +kernel
theorem dX7_requirePair_22 : decode cX7_requirePair 22 = .ok (.iload_n 1, 1) := by decide +kernel
theorem dX7_requirePair_23 : decode cX7_requirePair 23 = .ok (.iload_n 2, 1) := by decide +kernel
theorem dX7_requirePair_24 : decode cX7_requirePair 24 = .ok (.if_icmp .ne 14, 3) := by decide +kernel
theorem dX7_requirePair_27 : decode cX7_requirePair 27 = .ok (.new 278, 3) := by decide +kernel
theorem dX7_requirePair_30 : decode cX7_requirePair 30 = .ok (.dup, 1) := by decide +kernel
theorem dX7_requirePair_31 : decode cX7_requirePair 31 = .ok (.ldc_w 283, 3) := by decide +kernel
theorem dX7_requirePair_34 : decode cX7_requirePair 34 = .ok (.invokespecial 282, 3) := by decide +kernel
theorem dX7_requirePair_37 : decode cX7_requirePair 37 = .ok (.athrow, 1) := by decide +kernel
theorem dX7_requirePair_38 : decode cX7_requirePair 38 = .ok (.return_, 1) := by decide +kernel
theorem dX7_findPath_0 : decode cX7_findPath 0 = .ok (.aload_n 0, 1) := by decide +kernel
theorem dX7_findPath_1 : decode cX7_findPath 1 = .ok (.iload_n 1, 1) := by decide +kernel
theorem dX7_findPath_2 : decode cX7_findPath 2 = .ok (.iload_n 2, 1) := by decide +kernel
theorem dX7_findPath_3 : decode cX7_findPath 3 = .ok (.invokevirtual 124, 3) := by decide +kernel
theorem dX7_findPath_6 : decode cX7_findPath 6 = .ok (.iload_n 3, 1) := by decide +kernel
theorem dX7_findPath_7 : decode cX7_findPath 7 = .ok (.iconst 0, 1) := by decide +kernel
theorem dX7_findPath_8 : decode cX7_findPath 8 = .ok (.sipush 1000, 3) := by decide +kernel
theorem dX7_findPath_11 : decode cX7_findPath 11 = .ok (.invokestatic 86, 3) := by decide +kernel
theorem dX7_findPath_14 : decode cX7_findPath 14 = .ok (.aload_n 0, 1) := by decide +kernel
theorem dX7_findPath_15 : decode cX7_findPath 15 = .ok (.getfield 10, 3) := by decide +kernel
theorem dX7_findPath_18 : decode cX7_findPath 18 = .ok (.getfield 206, 3) := by decide +kernel
theorem dX7_findPath_21 : decode cX7_findPath 21 = .ok (.aload_n 0, 1) := by decide +kernel
theorem dX7_findPath_22 : decode cX7_findPath 22 = .ok (.getfield 10, 3) := by decide +kernel
theorem dX7_findPath_25 : decode cX7_findPath 25 = .ok (.getfield 55, 3) := by decide +kernel
theorem dX7_findPath_28 : decode cX7_findPath 28 = .ok (.iload_n 1, 1) := by decide +kernel
theorem dX7_findPath_29 : decode cX7_findPath 29 = .ok (.iload_n 2, 1) := by decide +kernel
theorem dX7_findPath_30 : decode cX7_findPath 30 = .ok (.aload_n 0, 1) := by decide +kernel
theorem dX7_findPath_31 : decode cX7_findPath 31 = .ok (.getfield 10, 3) := by decide +kernel
theorem dX7_findPath_34 : decode cX7_findPath 34 = .ok (.getfield 55, 3) := by decide +kernel
theorem dX7_findPath_37 : decode cX7_findPath 37 = .ok (.iload_n 3, 1) := by decide +kernel
theorem dX7_findPath_38 : decode cX7_findPath 38 = .ok (.invokevirtual 250, 3) := by decide +kernel
theorem dX7_findPath_41 : decode cX7_findPath 41 = .ok (.invokevirtual 285, 3) := by decide +kernel
theorem dX7_findPath_44 : decode cX7_findPath 44 = .ok (.ireturn, 1) := by decide +kernel
theorem dX7_letterOf_0 : decode cX7_letterOf 0 = .ok (.iconst 0, 1) := by decide +kernel
theorem dX7_letterOf_1 : decode cX7_letterOf 1 = .ok (.istore_n 3, 1) := by decide +kernel
theorem dX7_letterOf_2 : decode cX7_letterOf 2 = .ok (.lload_n 0, 1) := by decide +kernel
theorem dX7_letterOf_3 : decode cX7_letterOf 3 = .ok (.lstore 4, 2) := by decide +kernel
theorem dX7_letterOf_5 : decode cX7_letterOf 5 = .ok (.lload 4, 2) := by decide +kernel
theorem dX7_letterOf_7 : decode cX7_letterOf 7 = .ok (.lconst 0, 1) := by decide +kernel
theorem dX7_letterOf_8 : decode cX7_letterOf 8 = .ok (.lcmp, 1) := by decide +kernel
theorem dX7_letterOf_9 : decode cX7_letterOf 9 = .ok (.ifCond .eq 22, 3) := by decide +kernel
theorem dX7_letterOf_12 : decode cX7_letterOf 12 = .ok (.iload_n 3, 1) := by decide +kernel
theorem dX7_letterOf_13 : decode cX7_letterOf 13 = .ok (.bipush 6, 2) := by decide +kernel
theorem dX7_letterOf_15 : decode cX7_letterOf 15 = .ok (.if_icmp .ge 16, 3) := by decide +kernel
theorem dX7_letterOf_18 : decode cX7_letterOf 18 = .ok (.iinc 3 1, 3) := by decide +kernel
theorem dX7_letterOf_21 : decode cX7_letterOf 21 = .ok (.lload 4, 2) := by decide +kernel
theorem dX7_letterOf_23 : decode cX7_letterOf 23 = .ok (.bipush 8, 2) := by decide +kernel
theorem dX7_letterOf_25 : decode cX7_letterOf 25 = .ok (.lushr, 1) := by decide +kernel
theorem dX7_letterOf_26 : decode cX7_letterOf 26 = .ok (.lstore 4, 2) := by decide +kernel
theorem dX7_letterOf_28 : decode cX7_letterOf 28 = .ok (.goto (-23), 3) := by decide +kernel
theorem dX7_letterOf_31 : decode cX7_letterOf 31 = .ok (.iload_n 2, 1) := by decide +kernel
theorem dX7_letterOf_32 : decode cX7_letterOf 32 = .ok (.ifCond .lt 12, 3) := by decide +kernel
theorem dX7_letterOf_35 : decode cX7_letterOf 35 = .ok (.iload_n 2, 1) := by decide +kernel
theorem dX7_letterOf_36 : decode cX7_letterOf 36 = .ok (.iload_n 3, 1) := by decide +kernel
theorem dX7_letterOf_37 : decode cX7_letterOf 37 = .ok (.if_icmp .ge 7, 3) := by decide +kernel
theorem dX7_letterOf_40 : decode cX7_letterOf 40 = .ok (.iconst 1, 1) := by decide +kernel
theorem dX7_letterOf_41 : decode cX7_letterOf 41 = .ok (.goto 4, 3) := by decide +kernel
theorem dX7_letterOf_44 : decode cX7_letterOf 44 = .ok (.iconst 0, 1) := by decide +kernel
theorem dX7_letterOf_45 : decode cX7_letterOf 45 = .ok (.istore 4, 2) := by decide +kernel
theorem dX7_letterOf_47 : decode cX7_letterOf 47 = .ok (.iload 4, 2) := by decide +kernel
theorem dX7_letterOf_49 : decode cX7_letterOf 49 = .ok (.ifCond .eq 21, 3) := by decide +kernel
theorem dX7_letterOf_52 : decode cX7_letterOf 52 = .ok (.lload_n 0, 1) := by decide +kernel
theorem dX7_letterOf_53 : decode cX7_letterOf 53 = .ok (.bipush 8, 2) := by decide +kernel
theorem dX7_letterOf_55 : decode cX7_letterOf 55 = .ok (.iload_n 3, 1) := by decide +kernel
theorem dX7_letterOf_56 : decode cX7_letterOf 56 = .ok (.iconst 1, 1) := by decide +kernel
theorem dX7_letterOf_57 : decode cX7_letterOf 57 = .ok (.isub, 1) := by decide +kernel
theorem dX7_letterOf_58 : decode cX7_letterOf 58 = .ok (.iload_n 2, 1) := by decide +kernel
theorem dX7_letterOf_59 : decode cX7_letterOf 59 = .ok (.isub, 1) := by decide +kernel
theorem dX7_letterOf_60 : decode cX7_letterOf 60 = .ok (.imul, 1) := by decide +kernel
theorem dX7_letterOf_61 : decode cX7_letterOf 61 = .ok (.lushr, 1) := by decide +kernel
theorem dX7_letterOf_62 : decode cX7_letterOf 62 = .ok (.ldc2_w 289, 3) := by decide +kernel
theorem dX7_letterOf_65 : decode cX7_letterOf 65 = .ok (.land, 1) := by decide +kernel
theorem dX7_letterOf_66 : decode cX7_letterOf 66 = .ok (.l2i, 1) := by decide +kernel
theorem dX7_letterOf_67 : decode cX7_letterOf 67 = .ok (.goto 4, 3) := by decide +kernel
theorem dX7_letterOf_70 : decode cX7_letterOf 70 = .ok (.iconst (-1), 1) := by decide +kernel
theorem dX7_letterOf_71 : decode cX7_letterOf 71 = .ok (.ireturn, 1) := by decide +kernel
theorem dX8_init_0 : decode cX8_init 0 = .ok (.aload_n 0, 1) := by decide +kernel
theorem dX8_init_1 : decode cX8_init 1 = .ok (.invokespecial 3, 3) := by decide +kernel
theorem dX8_init_4 : decode cX8_init 4 = .ok (.aload_n 0, 1) := by decide +kernel
theorem dX8_init_5 : decode cX8_init 5 = .ok (.sipush 5384, 3) := by decide +kernel
theorem dX8_init_8 : decode cX8_init 8 = .ok (.newarray .int, 2) := by decide +kernel
theorem dX8_init_10 : decode cX8_init 10 = .ok (.putfield 9, 3) := by decide +kernel
theorem dX8_init_13 : decode cX8_init 13 = .ok (.aload_n 0, 1) := by decide +kernel
theorem dX8_init_14 : decode cX8_init 14 = .ok (.sipush 5384, 3) := by decide +kernel
theorem dX8_init_17 : decode cX8_init 17 = .ok (.newarray .int, 2) := by decide +kernel
theorem dX8_init_19 : decode cX8_init 19 = .ok (.putfield 13, 3) := by decide +kernel
theorem dX8_init_22 : decode cX8_init 22 = .ok (.aload_n 0, 1) := by decide +kernel
theorem dX8_init_23 : decode cX8_init 23 = .ok (.sipush 5384, 3) := by decide +kernel
theorem dX8_init_26 : decode cX8_init 26 = .ok (.newarray .int, 2) := by decide +kernel
theorem dX8_init_28 : decode cX8_init 28 = .ok (.putfield 16, 3) := by decide +kernel
theorem dX8_init_31 : decode cX8_init 31 = .ok (.aload_n 0, 1) := by decide +kernel
theorem dX8_init_32 : decode cX8_init 32 = .ok (.sipush 5384, 3) := by decide +kernel
theorem dX8_init_35 : decode cX8_init 35 = .ok (.newarray .int, 2) := by decide +kernel
theorem dX8_init_37 : decode cX8_init 37 = .ok (.putfield 19, 3) := by decide +kernel
theorem dX8_init_40 : decode cX8_init 40 = .ok (.aload_n 0, 1) := by decide +kernel
theorem dX8_init_41 : decode cX8_init 41 = .ok (.sipush 5384, 3) := by decide +kernel
theorem dX8_init_44 : decode cX8_init 44 = .ok (.newarray .int, 2) := by decide +kernel
theorem dX8_init_46 : decode cX8_init 46 = .ok (.putfield 22, 3) := by decide +kernel
theorem dX8_init_49 : decode cX8_init 49 = .ok (.aload_n 0, 1) := by decide +kernel
theorem dX8_init_50 : decode cX8_init 50 = .ok (.iconst 2, 1) := by decide +kernel
theorem dX8_init_51 : decode cX8_init 51 = .ok (.newarray .boolean, 2) := by decide +kernel
theorem dX8_init_53 : decode cX8_init 53 = .ok (.putfield 25, 3) := by decide +kernel
theorem dX8_init_56 : decode cX8_init 56 = .ok (.aload_n 0, 1) := by decide +kernel
theorem dX8_init_57 : decode cX8_init 57 = .ok (.sipush 700, 3) := by decide +kernel
theorem dX8_init_60 : decode cX8_init 60 = .ok (.newarray .int, 2) := by decide +kernel
theorem dX8_init_62 : decode cX8_init 62 = .ok (.putfield 29, 3) := by decide +kernel
theorem dX8_init_65 : decode cX8_init 65 = .ok (.aload_n 0, 1) := by decide +kernel
theorem dX8_init_66 : decode cX8_init 66 = .ok (.bipush 12, 2) := by decide +kernel
theorem dX8_init_68 : decode cX8_init 68 = .ok (.newarray .int, 2) := by decide +kernel
theorem dX8_init_70 : decode cX8_init 70 = .ok (.putfield 32, 3) := by decide +kernel
theorem dX8_init_73 : decode cX8_init 73 = .ok (.aload_n 0, 1) := by decide +kernel
theorem dX8_init_74 : decode cX8_init 74 = .ok (.bipush 12, 2) := by decide +kernel
theorem dX8_init_76 : decode cX8_init 76 = .ok (.newarray .int, 2) := by decide +kernel
theorem dX8_init_78 : decode cX8_init 78 = .ok (.putfield 35, 3) := by decide +kernel
theorem dX8_init_81 : decode cX8_init 81 = .ok (.aload_n 0, 1) := by decide +kernel
theorem dX8_init_82 : decode cX8_init 82 = .ok (.bipush 12, 2) := by decide +kernel
theorem dX8_init_84 : decode cX8_init 84 = .ok (.newarray .int, 2) := by decide +kernel
theorem dX8_init_86 : decode cX8_init 86 = .ok (.putfield 38, 3) := by decide +kernel
theorem dX8_init_89 : decode cX8_init 89 = .ok (.aload_n 0, 1) := by decide +kernel
theorem dX8_init_90 : decode cX8_init 90 = .ok (.bipush 24, 2) := by decide +kernel
theorem dX8_init_92 : decode cX8_init 92 = .ok (.newarray .int, 2) := by decide +kernel
theorem dX8_init_94 : decode cX8_init 94 = .ok (.putfield 41, 3) := by decide +kernel
theorem dX8_init_97 : decode cX8_init 97 = .ok (.aload_n 0, 1) := by decide +kernel
theorem dX8_init_98 : decode cX8_init 98 = .ok (.bipush 24, 2) := by decide +kernel
theorem dX8_init_100 : decode cX8_init 100 = .ok (.newarray .int, 2) := by decide +kernel
theorem dX8_init_102 : decode cX8_init 102 = .ok (.putfield 44, 3) := by decide +kernel
theorem dX8_init_105 : decode cX8_init 105 = .ok (.aload_n 0, 1) := by decide +kernel
theorem dX8_init_106 : decode cX8_init 106 = .ok (.bipush 12, 2) := by decide +kernel
theorem dX8_init_108 : decode cX8_init 108 = .ok (.newarray .int, 2) := by decide +kernel
theorem dX8_init_110 : decode cX8_init 110 = .ok (.putfield 47, 3) := by decide +kernel
theorem dX8_init_113 : decode cX8_init 113 = .ok (.aload_n 0, 1) := by decide +kernel
theorem dX8_init_114 : decode cX8_init 114 = .ok (.bipush 12, 2) := by decide +kernel
theorem dX8_init_116 : decode cX8_init 116 = .ok (.newarray .int, 2) := by decide +kernel
theorem dX8_init_118 : decode cX8_init 118 = .ok (.putfield 50, 3) := by decide +kernel
theorem dX8_init_121 : decode cX8_init 121 = .ok (.aload_n 0, 1) := by decide +kernel
theorem dX8_init_122 : decode cX8_init 122 = .ok (.bipush 12, 2) := by decide +kernel
theorem dX8_init_124 : decode cX8_init 124 = .ok (.newarray .boolean, 2) := by decide +kernel
theorem dX8_init_126 : decode cX8_init 126 = .ok (.putfield 53, 3) := by decide +kernel
theorem dX8_init_129 : decode cX8_init 129 = .ok (.aload_n 0, 1) := by decide +kernel
theorem dX8_init_130 : decode cX8_init 130 = .ok (.getfield 9, 3) := by decide +kernel
theorem dX8_init_133 : decode cX8_init 133 = .ok (.invokestatic 56, 3) := by decide +kernel
theorem dX8_init_136 : decode cX8_init 136 = .ok (.return_, 1) := by decide +kernel
theorem dX8_thrown_0 : decode cX8_thrown 0 = .ok (.aload_n 0, 1) := by decide +kernel
theorem dX8_thrown_1 : decode cX8_thrown 1 = .ok (.getfield 60, 3) := by decide +kernel
theorem dX8_thrown_4 : decode cX8_thrown 4 = .ok (.ireturn, 1) := by decide +kernel
theorem dX8_begins_0 : decode cX8_begins 0 = .ok (.iconst 0, 1) := by decide +kernel
theorem dX8_begins_1 : decode cX8_begins 1 = .ok (.istore_n 1, 1) := by decide +kernel
theorem dX8_begins_2 : decode cX8_begins 2 = .ok (.iload_n 1, 1) := by decide +kernel
theorem dX8_begins_3 : decode cX8_begins 3 = .ok (.sipush 5384, 3) := by decide +kernel
theorem dX8_begins_6 : decode cX8_begins 6 = .ok (.if_icmp .ge 13, 3) := by decide +kernel
theorem dX8_begins_9 : decode cX8_begins 9 = .ok (.aload_n 0, 1) := by decide +kernel
theorem dX8_begins_10 : decode cX8_begins 10 = .ok (.iload_n 1, 1) := by decide +kernel
theorem dX8_begins_11 : decode cX8_begins 11 = .ok (.iconst 0, 1) := by decide +kernel
theorem dX8_begins_12 : decode cX8_begins 12 = .ok (.iastore, 1) := by decide +kernel
theorem dX8_begins_13 : decode cX8_begins 13 = .ok (.iinc 1 1, 3) := by decide +kernel
theorem dX8_begins_16 : decode cX8_begins 16 = .ok (.goto (-14), 3) := by decide +kernel
theorem dX8_begins_19 : decode cX8_begins 19 = .ok (.aload_n 0, 1) := by decide +kernel
theorem dX8_begins_20 : decode cX8_begins 20 = .ok (.iconst 1, 1) := by decide +kernel
theorem dX8_begins_21 : decode cX8_begins 21 = .ok (.bipush 20, 2) := by decide +kernel
theorem dX8_begins_23 : decode cX8_begins 23 = .ok (.iastore, 1) := by decide +kernel
theorem dX8_begins_24 : decode cX8_begins 24 = .ok (.aload_n 0, 1) := by decide +kernel
theorem dX8_begins_25 : decode cX8_begins 25 = .ok (.iconst 2, 1) := by decide +kernel
theorem dX8_begins_26 : decode cX8_begins 26 = .ok (.iconst 5, 1) := by decide +kernel
theorem dX8_begins_27 : decode cX8_begins 27 = .ok (.iastore, 1) := by decide +kernel
theorem dX8_begins_28 : decode cX8_begins 28 = .ok (.aload_n 0, 1) := by decide +kernel
theorem dX8_begins_29 : decode cX8_begins 29 = .ok (.iconst 3, 1) := by decide +kernel
theorem dX8_begins_30 : decode cX8_begins 30 = .ok (.iconst 3, 1) := by decide +kernel
theorem dX8_begins_31 : decode cX8_begins 31 = .ok (.iastore, 1) := by decide +kernel
theorem dX8_begins_32 : decode cX8_begins 32 = .ok (.aload_n 0, 1) := by decide +kernel
theorem dX8_begins_33 : decode cX8_begins 33 = .ok (.iconst 4, 1) := by decide +kernel
theorem dX8_begins_34 : decode cX8_begins 34 = .ok (.bipush 50, 2) := by decide +kernel
theorem dX8_begins_36 : decode cX8_begins 36 = .ok (.iastore, 1) := by decide +kernel
theorem dX8_begins_37 : decode cX8_begins 37 = .ok (.aload_n 0, 1) := by decide +kernel
theorem dX8_begins_38 : decode cX8_begins 38 = .ok (.iconst 5, 1) := by decide +kernel
theorem dX8_begins_39 : decode cX8_begins 39 = .ok (.bipush 80, 2) := by decide +kernel
theorem dX8_begins_41 : decode cX8_begins 41 = .ok (.iastore, 1) := by decide +kernel
theorem dX8_begins_42 : decode cX8_begins 42 = .ok (.return_, 1) := by decide +kernel
theorem dX8_in_0 : decode cX8_in 0 = .ok (.lload_n 0, 1) := by decide +kernel
theorem dX8_in_1 : decode cX8_in 1 = .ok (.lload_n 2, 1) := by decide +kernel
theorem dX8_in_2 : decode cX8_in 2 = .ok (.lcmp, 1) := by decide +kernel
theorem dX8_in_3 : decode cX8_in 3 = .ok (.ifCond .lt 14, 3) := by decide +kernel
theorem dX8_in_6 : decode cX8_in 6 = .ok (.lload_n 0, 1) := by decide +kernel
theorem dX8_in_7 : decode cX8_in 7 = .ok (.lload 4, 2) := by decide +kernel
theorem dX8_in_9 : decode cX8_in 9 = .ok (.lcmp, 1) := by decide +kernel
theorem dX8_in_10 : decode cX8_in 10 = .ok (.ifCond .gt 7, 3) := by decide +kernel
theorem dX8_in_13 : decode cX8_in 13 = .ok (.iconst 1, 1) := by decide +kernel
theorem dX8_in_14 : decode cX8_in 14 = .ok (.goto 4, 3) := by decide +kernel
theorem dX8_in_17 : decode cX8_in 17 = .ok (.iconst 0, 1) := by decide +kernel
theorem dX8_in_18 : decode cX8_in 18 = .ok (.ireturn, 1) := by decide +kernel
theorem dX8_throwsIf_0 : decode cX8_throwsIf 0 = .ok (.aload_n 0, 1) := by decide +kernel
theorem dX8_throwsIf_1 : decode cX8_throwsIf 1 = .ok (.getfield 60, 3) := by decide +kernel
theorem dX8_throwsIf_4 : decode cX8_throwsIf 4 = .ok (.ifCond .ne 12, 3) := by decide +kernel
theorem dX8_throwsIf_7 : decode cX8_throwsIf 7 = .ok (.iload_n 1, 1) := by decide +kernel
theorem dX8_throwsIf_8 : decode cX8_throwsIf 8 = .ok (.ifCond .eq 8, 3) := by decide +kernel
theorem dX8_throwsIf_11 : decode cX8_throwsIf 11 = .ok (.aload_n 0, 1) := by decide +kernel
theorem dX8_throwsIf_12 : decode cX8_throwsIf 12 = .ok (.iload_n 2, 1) := by decide +kernel
theorem dX8_throwsIf_13 : decode cX8_throwsIf 13 = .ok (.putfield 60, 3) := by decide +kernel
theorem dX8_throwsIf_16 : decode cX8_throwsIf 16 = .ok (.aload_n 0, 1) := by decide +kernel
theorem dX8_throwsIf_17 : decode cX8_throwsIf 17 = .ok (.getfield 60, 3) := by decide +kernel
theorem dX8_throwsIf_20 : decode cX8_throwsIf 20 = .ok (.ifCond .eq 7, 3) := by decide +kernel
theorem dX8_throwsIf_23 : decode cX8_throwsIf 23 = .ok (.iconst 1, 1) := by decide +kernel
theorem dX8_throwsIf_24 : decode cX8_throwsIf 24 = .ok (.goto 4, 3) := by decide +kernel
theorem dX8_throwsIf_27 : decode cX8_throwsIf 27 = .ok (.iconst 0, 1) := by decide +kernel
theorem dX8_throwsIf_28 : decode cX8_throwsIf 28 = .ok (.ireturn, 1) := by decide +kernel
theorem dX8_copies_0 : decode cX8_copies 0 = .ok (.iconst 0, 1) := by decide +kernel
theorem dX8_copies_1 : decode cX8_copies 1 = .ok (.istore_n 2, 1) := by decide +kernel
theorem dX8_copies_2 : decode cX8_copies 2 = .ok (.iload_n 2, 1) := by decide +kernel
theorem dX8_copies_3 : decode cX8_copies 3 = .ok (.sipush 5384, 3) := by decide +kernel
theorem dX8_copies_6 : decode cX8_copies 6 = .ok (.if_icmp .ge 15, 3) := by decide +kernel
theorem dX8_copies_9 : decode cX8_copies 9 = .ok (.aload_n 1, 1) := by decide +kernel
theorem dX8_copies_10 : decode cX8_copies 10 = .ok (.iload_n 2, 1) := by decide +kernel
theorem dX8_copies_11 : decode cX8_copies 11 = .ok (.aload_n 0, 1) := by decide +kernel
theorem dX8_copies_12 : decode cX8_copies 12 = .ok (.iload_n 2, 1) := by decide +kernel
theorem dX8_copies_13 : decode cX8_copies 13 = .ok (.iaload, 1) := by decide +kernel
theorem dX8_copies_14 : decode cX8_copies 14 = .ok (.iastore, 1) := by decide +kernel
theorem dX8_copies_15 : decode cX8_copies 15 = .ok (.iinc 2 1, 3) := by decide +kernel
theorem dX8_copies_18 : decode cX8_copies 18 = .ok (.goto (-16), 3) := by decide +kernel
theorem dX8_copies_21 : decode cX8_copies 21 = .ok (.return_, 1) := by decide +kernel
theorem dX8_link_0 : decode cX8_link 0 = .ok (.aload_n 0, 1) := by decide +kernel
theorem dX8_link_1 : decode cX8_link 1 = .ok (.getfield 9, 3) := by decide +kernel
theorem dX8_link_4 : decode cX8_link 4 = .ok (.bipush 96, 2) := by decide +kernel
theorem dX8_link_6 : decode cX8_link 6 = .ok (.bipush 7, 2) := by decide +kernel
theorem dX8_link_8 : decode cX8_link 8 = .ok (.iload_n 1, 1) := by decide +kernel
theorem dX8_link_9 : decode cX8_link 9 = .ok (.imul, 1) := by decide +kernel
theorem dX8_link_10 : decode cX8_link 10 = .ok (.iadd, 1) := by decide +kernel
theorem dX8_link_11 : decode cX8_link 11 = .ok (.iload_n 2, 1) := by decide +kernel
theorem dX8_link_12 : decode cX8_link 12 = .ok (.iadd, 1) := by decide +kernel
theorem dX8_link_13 : decode cX8_link 13 = .ok (.iaload, 1) := by decide +kernel
theorem dX8_link_14 : decode cX8_link 14 = .ok (.ireturn, 1) := by decide +kernel
theorem dX8_req_0 : decode cX8_req 0 = .ok (.aload_n 0, 1) := by decide +kernel
theorem dX8_req_1 : decode cX8_req 1 = .ok (.getfield 9, 3) := by decide +kernel
theorem dX8_req_4 : decode cX8_req 4 = .ok (.sipush 264, 3) := by decide +kernel
theorem dX8_req_7 : decode cX8_req 7 = .ok (.bipush 28, 2) := by decide +kernel
theorem dX8_req_9 : decode cX8_req 9 = .ok (.iload_n 1, 1) := by decide +kernel
theorem dX8_req_10 : decode cX8_req 10 = .ok (.imul, 1) := by decide +kernel
theorem dX8_req_11 : decode cX8_req 11 = .ok (.iadd, 1) := by decide +kernel
theorem dX8_req_12 : decode cX8_req 12 = .ok (.iload_n 2, 1) := by decide +kernel
theorem dX8_req_13 : decode cX8_req 13 = .ok (.iadd, 1) := by decide +kernel
theorem dX8_req_14 : decode cX8_req 14 = .ok (.iaload, 1) := by decide +kernel
theorem dX8_req_15 : decode cX8_req 15 = .ok (.ireturn, 1) := by decide +kernel
theorem dX8_putReq_0 : decode cX8_putReq 0 = .ok (.aload_n 0, 1) := by decide +kernel
theorem dX8_putReq_1 : decode cX8_putReq 1 = .ok (.getfield 9, 3) := by decide +kernel
theorem dX8_putReq_4 : decode cX8_putReq 4 = .ok (.sipush 264, 3) := by decide +kernel
theorem dX8_putReq_7 : decode cX8_putReq 7 = .ok (.bipush 28, 2) := by decide +kernel
theorem dX8_putReq_9 : decode cX8_putReq 9 = .ok (.iload_n 1, 1) := by decide +kernel
theorem dX8_putReq_10 : decode cX8_putReq 10 = .ok (.imul, 1) := by decide +kernel
theorem dX8_putReq_11 : decode cX8_putReq 11 = .ok (.iadd, 1) := by decide +kernel
theorem dX8_putReq_12 : decode cX8_putReq 12 = .ok (.iload_n 2, 1) := by decide +kernel
theorem dX8_putReq_13 : decode cX8_putReq 13 = .ok (.iadd, 1) := by decide +kernel
theorem dX8_putReq_14 : decode cX8_putReq 14 = .ok (.iload_n 3, 1) := by decide +kernel
theorem dX8_putReq_15 : decode cX8_putReq 15 = .ok (.iastore, 1) := by decide +kernel
theorem dX8_putReq_16 : decode cX8_putReq 16 = .ok (.return_, 1) := by decide +kernel
theorem dX8_tick_0 : decode cX8_tick 0 = .ok (.aload_n 0, 1) := by decide +kernel
theorem dX8_tick_1 : decode cX8_tick 1 = .ok (.getfield 9, 3) := by decide +kernel
theorem dX8_tick_4 : decode cX8_tick 4 = .ok (.sipush 1384, 3) := by decide +kernel
theorem dX8_tick_7 : decode cX8_tick 7 = .ok (.bipush 8, 2) := by decide +kernel
theorem dX8_tick_9 : decode cX8_tick 9 = .ok (.iload_n 1, 1) := by decide +kernel
theorem dX8_tick_10 : decode cX8_tick 10 = .ok (.imul, 1) := by decide +kernel
theorem dX8_tick_11 : decode cX8_tick 11 = .ok (.iadd, 1) := by decide +kernel
theorem dX8_tick_12 : decode cX8_tick 12 = .ok (.iload_n 2, 1) := by decide +kernel
theorem dX8_tick_13 : decode cX8_tick 13 = .ok (.iadd, 1) := by decide +kernel
theorem dX8_tick_14 : decode cX8_tick 14 = .ok (.iaload, 1) := by decide +kernel
theorem dX8_tick_15 : decode cX8_tick 15 = .ok (.ireturn, 1) := by decide +kernel
theorem dX8_putTick_0 : decode cX8_putTick 0 = .ok (.aload_n 0, 1) := by decide +kernel
theorem dX8_putTick_1 : decode cX8_putTick 1 = .ok (.getfield 9, 3) := by decide +kernel
theorem dX8_putTick_4 : decode cX8_putTick 4 = .ok (.sipush 1384, 3) := by decide +kernel
theorem dX8_putTick_7 : decode cX8_putTick 7 = .ok (.bipush 8, 2) := by decide +kernel
theorem dX8_putTick_9 : decode cX8_putTick 9 = .ok (.iload_n 1, 1) := by decide +kernel
theorem dX8_putTick_10 : decode cX8_putTick 10 = .ok (.imul, 1) := by decide +kernel
theorem dX8_putTick_11 : decode cX8_putTick 11 = .ok (.iadd, 1) := by decide +kernel
theorem dX8_putTick_12 : decode cX8_putTick 12 = .ok (.iload_n 2, 1) := by decide +kernel
theorem dX8_putTick_13 : decode cX8_putTick 13 = .ok (.iadd, 1) := by decide +kernel
theorem dX8_putTick_14 : decode cX8_putTick 14 = .ok (.iload_n 3, 1) := by decide +kernel
theorem dX8_putTick_15 : decode cX8_putTick 15 = .ok (.iastore, 1) := by decide +kernel
theorem dX8_putTick_16 : decode cX8_putTick 16 = .ok (.return_, 1) := by decide +kernel
theorem dX8_append_0 : decode cX8_append 0 = .ok (.aload_n 0, 1) := by decide +kernel
theorem dX8_append_1 : decode cX8_append 1 = .ok (.iconst 0, 1) := by decide +kernel
theorem dX8_append_2 : decode cX8_append 2 = .ok (.putfield 60, 3) := by decide +kernel
theorem dX8_append_5 : decode cX8_append 5 = .ok (.iconst 0, 1) := by decide +kernel
theorem dX8_append_6 : decode cX8_append 6 = .ok (.istore_n 3, 1) := by decide +kernel
theorem dX8_append_7 : decode cX8_append 7 = .ok (.bipush 56, 2) := by decide +kernel
theorem dX8_append_9 : decode cX8_append 9 = .ok (.istore 4, 2) := by decide +kernel
theorem dX8_append_11 : decode cX8_append 11 = .ok (.iload 4, 2) := by decide +kernel
theorem dX8_append_13 : decode cX8_append 13 = .ok (.ifCond .lt 30, 3) := by decide +kernel
theorem dX8_append_16 : decode cX8_append 16 = .ok (.iload_n 3, 1) := by decide +kernel
theorem dX8_append_17 : decode cX8_append 17 = .ok (.lload_n 1, 1) := by decide +kernel
theorem dX8_append_18 : decode cX8_append 18 = .ok (.iload 4, 2) := by decide +kernel
theorem dX8_append_20 : decode cX8_append 20 = .ok (.lushr, 1) := by decide +kernel
theorem dX8_append_21 : decode cX8_append 21 = .ok (.ldc2_w 64, 3) := by decide +kernel
theorem dX8_append_24 : decode cX8_append 24 = .ok (.land, 1) := by decide +kernel
theorem dX8_append_25 : decode cX8_append 25 = .ok (.lconst 0, 1) := by decide +kernel
theorem dX8_append_26 : decode cX8_append 26 = .ok (.lcmp, 1) := by decide +kernel
theorem dX8_append_27 : decode cX8_append 27 = .ok (.ifCond .eq 7, 3) := by decide +kernel
theorem dX8_append_30 : decode cX8_append 30 = .ok (.iconst 1, 1) := by decide +kernel
theorem dX8_append_31 : decode cX8_append 31 = .ok (.goto 4, 3) := by decide +kernel
theorem dX8_append_34 : decode cX8_append 34 = .ok (.iconst 0, 1) := by decide +kernel
theorem dX8_append_35 : decode cX8_append 35 = .ok (.iadd, 1) := by decide +kernel
theorem dX8_append_36 : decode cX8_append 36 = .ok (.istore_n 3, 1) := by decide +kernel
theorem dX8_append_37 : decode cX8_append 37 = .ok (.iinc 4 (-8), 3) := by decide +kernel
theorem dX8_append_40 : decode cX8_append 40 = .ok (.goto (-29), 3) := by decide +kernel
theorem dX8_append_43 : decode cX8_append 43 = .ok (.aload_n 0, 1) := by decide +kernel
theorem dX8_append_44 : decode cX8_append 44 = .ok (.getfield 66, 3) := by decide +kernel
theorem dX8_append_47 : decode cX8_append 47 = .ok (.iload_n 3, 1) := by decide +kernel
theorem dX8_append_48 : decode cX8_append 48 = .ok (.iadd, 1) := by decide +kernel
theorem dX8_append_49 : decode cX8_append 49 = .ok (.sipush 700, 3) := by decide +kernel
theorem dX8_append_52 : decode cX8_append 52 = .ok (.if_icmp .le 6, 3) := by decide +kernel
theorem dX8_append_55 : decode cX8_append 55 = .ok (.bipush (-2), 2) := by decide +kernel
theorem dX8_append_57 : decode cX8_append 57 = .ok (.ireturn, 1) := by decide +kernel
theorem dX8_append_58 : decode cX8_append 58 = .ok (.bipush 56, 2) := by decide +kernel
theorem dX8_append_60 : decode cX8_append 60 = .ok (.istore 4, 2) := by decide +kernel
theorem dX8_append_62 : decode cX8_append 62 = .ok (.iload 4, 2) := by decide +kernel
theorem dX8_append_64 : decode cX8_append 64 = .ok (.ifCond .lt 49, 3) := by decide +kernel
theorem dX8_append_67 : decode cX8_append 67 = .ok (.lload_n 1, 1) := by decide +kernel
theorem dX8_append_68 : decode cX8_append 68 = .ok (.iload 4, 2) := by decide +kernel
theorem dX8_append_70 : decode cX8_append 70 = .ok (.lushr, 1) := by decide +kernel
theorem dX8_append_71 : decode cX8_append 71 = .ok (.ldc2_w 64, 3) := by decide +kernel
theorem dX8_append_74 : decode cX8_append 74 = .ok (.land, 1) := by decide +kernel
theorem dX8_append_75 : decode cX8_append 75 = .ok (.l2i, 1) := by decide +kernel
theorem dX8_append_76 : decode cX8_append 76 = .ok (.istore 5, 2) := by decide +kernel
theorem dX8_append_78 : decode cX8_append 78 = .ok (.iload 5, 2) := by decide +kernel
theorem dX8_append_80 : decode cX8_append 80 = .ok (.ifCond .ne 6, 3) := by decide +kernel
theorem dX8_append_83 : decode cX8_append 83 = .ok (.goto 24, 3) := by decide +kernel
theorem dX8_append_86 : decode cX8_append 86 = .ok (.aload_n 0, 1) := by decide +kernel
theorem dX8_append_87 : decode cX8_append 87 = .ok (.getfield 29, 3) := by decide +kernel
theorem dX8_append_90 : decode cX8_append 90 = .ok (.aload_n 0, 1) := by decide +kernel
theorem dX8_append_91 : decode cX8_append 91 = .ok (.getfield 66, 3) := by decide +kernel
theorem dX8_append_94 : decode cX8_append 94 = .ok (.iload 5, 2) := by decide +kernel
theorem dX8_append_96 : decode cX8_append 96 = .ok (.iastore, 1) := by decide +kernel
theorem dX8_append_97 : decode cX8_append 97 = .ok (.aload_n 0, 1) := by decide +kernel
theorem dX8_append_98 : decode cX8_append 98 = .ok (.dup, 1) := by decide +kernel
theorem dX8_append_99 : decode cX8_append 99 = .ok (.getfield 66, 3) := by decide +kernel
theorem dX8_append_102 : decode cX8_append 102 = .ok (.iconst 1, 1) := by decide +kernel
theorem dX8_append_103 : decode cX8_append 103 = .ok (.iadd, 1) := by decide +kernel
theorem dX8_append_104 : decode cX8_append 104 = .ok (.putfield 66, 3) := by decide +kernel
theorem dX8_append_107 : decode cX8_append 107 = .ok (.iinc 4 (-8), 3) := by decide +kernel
theorem dX8_append_110 : decode cX8_append 110 = .ok (.goto (-48), 3) := by decide +kernel
theorem dX8_append_113 : decode cX8_append 113 = .ok (.aload_n 0, 1) := by decide +kernel
theorem dX8_append_114 : decode cX8_append 114 = .ok (.getfield 66, 3) := by decide +kernel
theorem dX8_append_117 : decode cX8_append 117 = .ok (.ireturn, 1) := by decide +kernel
theorem dX8_loadError_0 : decode cX8_loadError 0 = .ok (.aload_n 0, 1) := by decide +kernel
theorem dX8_loadError_1 : decode cX8_loadError 1 = .ok (.iconst 0, 1) := by decide +kernel
theorem dX8_loadError_2 : decode cX8_loadError 2 = .ok (.putfield 60, 3) := by decide +kernel
theorem dX8_loadError_5 : decode cX8_loadError 5 = .ok (.aload_n 0, 1) := by decide +kernel
theorem dX8_loadError_6 : decode cX8_loadError 6 = .ok (.getfield 69, 3) := by decide +kernel
theorem dX8_loadError_9 : decode cX8_loadError 9 = .ok (.ireturn, 1) := by decide +kernel
theorem dX8_byteAt_0 : decode cX8_byteAt 0 = .ok (.iload_n 1, 1) := by decide +kernel
theorem dX8_byteAt_1 : decode cX8_byteAt 1 = .ok (.aload_n 0, 1) := by decide +kernel
theorem dX8_byteAt_2 : decode cX8_byteAt 2 = .ok (.getfield 66, 3) := by decide +kernel
theorem dX8_byteAt_5 : decode cX8_byteAt 5 = .ok (.if_icmp .ge 12, 3) := by decide +kernel
theorem dX8_byteAt_8 : decode cX8_byteAt 8 = .ok (.aload_n 0, 1) := by decide +kernel
theorem dX8_byteAt_9 : decode cX8_byteAt 9 = .ok (.getfield 29, 3) := by decide +kernel
theorem dX8_byteAt_12 : decode cX8_byteAt 12 = .ok (.iload_n 1, 1) := by decide +kernel
theorem dX8_byteAt_13 : decode cX8_byteAt 13 = .ok (.iaload, 1) := by decide +kernel
theorem dX8_byteAt_14 : decode cX8_byteAt 14 = .ok (.goto 4, 3) := by decide +kernel
theorem dX8_byteAt_17 : decode cX8_byteAt 17 = .ok (.iconst (-1), 1) := by decide +kernel
theorem dX8_byteAt_18 : decode cX8_byteAt 18 = .ok (.ireturn, 1) := by decide +kernel
theorem dX8_isLetter_0 : decode cX8_isLetter 0 = .ok (.aload_n 0, 1) := by decide +kernel
theorem dX8_isLetter_1 : decode cX8_isLetter 1 = .ok (.iload_n 1, 1) := by decide +kernel
theorem dX8_isLetter_2 : decode cX8_isLetter 2 = .ok (.invokevirtual 72, 3) := by decide +kernel
theorem dX8_isLetter_5 : decode cX8_isLetter 5 = .ok (.i2l, 1) := by decide +kernel
theorem dX8_isLetter_6 : decode cX8_isLetter 6 = .ok (.ldc2_w 76, 3) := by decide +kernel
theorem dX8_isLetter_9 : decode cX8_isLetter 9 = .ok (.ldc2_w 78, 3) := by decide +kernel
theorem dX8_isLetter_12 : decode cX8_isLetter 12 = .ok (.invokestatic 80, 3) := by decide +kernel
theorem dX8_isLetter_15 : decode cX8_isLetter 15 = .ok (.ireturn, 1) := by decide +kernel
theorem dX8_isDigit_0 : decode cX8_isDigit 0 = .ok (.aload_n 0, 1) := by decide +kernel
theorem dX8_isDigit_1 : decode cX8_isDigit 1 = .ok (.iload_n 1, 1) := by decide +kernel
theorem dX8_isDigit_2 : decode cX8_isDigit 2 = .ok (.invokevirtual 72, 3) := by decide +kernel
theorem dX8_isDigit_5 : decode cX8_isDigit 5 = .ok (.i2l, 1) := by decide +kernel
theorem dX8_isDigit_6 : decode cX8_isDigit 6 = .ok (.ldc2_w 84, 3) := by decide +kernel
theorem dX8_isDigit_9 : decode cX8_isDigit 9 = .ok (.ldc2_w 86, 3) := by decide +kernel
theorem dX8_isDigit_12 : decode cX8_isDigit 12 = .ok (.invokestatic 80, 3) := by decide +kernel
theorem dX8_isDigit_15 : decode cX8_isDigit 15 = .ok (.ireturn, 1) := by decide +kernel
theorem dX8_see_0 : decode cX8_see 0 = .ok (.aload_n 0, 1) := by decide +kernel
theorem dX8_see_1 : decode cX8_see 1 = .ok (.aload_n 0, 1) := by decide +kernel
theorem dX8_see_2 : decode cX8_see 2 = .ok (.getfield 88, 3) := by decide +kernel
theorem dX8_see_5 : decode cX8_see 5 = .ok (.invokevirtual 72, 3) := by decide +kernel
theorem dX8_see_8 : decode cX8_see 8 = .ok (.bipush 32, 2) := by decide +kernel
theorem dX8_see_10 : decode cX8_see 10 = .ok (.if_icmp .ne 16, 3) := by decide +kernel
theorem dX8_see_13 : decode cX8_see 13 = .ok (.aload_n 0, 1) := by decide +kernel
theorem dX8_see_14 : decode cX8_see 14 = .ok (.dup, 1) := by decide +kernel
theorem dX8_see_15 : decode cX8_see 15 = .ok (.getfield 88, 3) := by decide +kernel
theorem dX8_see_18 : decode cX8_see 18 = .ok (.iconst 1, 1) := by decide +kernel
theorem dX8_see_19 : decode cX8_see 19 = .ok (.iadd, 1) := by decide +kernel
theorem dX8_see_20 : decode cX8_see 20 = .ok (.putfield 88, 3) := by decide +kernel
theorem dX8_see_23 : decode cX8_see 23 = .ok (.goto (-23), 3) := by decide +kernel
theorem dX8_see_26 : decode cX8_see 26 = .ok (.aload_n 0, 1) := by decide +kernel
theorem dX8_see_27 : decode cX8_see 27 = .ok (.aload_n 0, 1) := by decide +kernel
theorem dX8_see_28 : decode cX8_see 28 = .ok (.getfield 88, 3) := by decide +kernel
theorem dX8_see_31 : decode cX8_see 31 = .ok (.putfield 91, 3) := by decide +kernel
theorem dX8_see_34 : decode cX8_see 34 = .ok (.aload_n 0, 1) := by decide +kernel
theorem dX8_see_35 : decode cX8_see 35 = .ok (.aload_n 0, 1) := by decide +kernel
theorem dX8_see_36 : decode cX8_see 36 = .ok (.getfield 88, 3) := by decide +kernel
theorem dX8_see_39 : decode cX8_see 39 = .ok (.invokevirtual 72, 3) := by decide +kernel
theorem dX8_see_42 : decode cX8_see 42 = .ok (.ireturn, 1) := by decide +kernel
theorem dX8_fails_0 : decode cX8_fails 0 = .ok (.aload_n 0, 1) := by decide +kernel
theorem dX8_fails_1 : decode cX8_fails 1 = .ok (.getfield 94, 3) := by decide +kernel
theorem dX8_fails_4 : decode cX8_fails 4 = .ok (.ifCond .ne 16, 3) := by decide +kernel
theorem dX8_fails_7 : decode cX8_fails 7 = .ok (.aload_n 0, 1) := by decide +kernel
theorem dX8_fails_8 : decode cX8_fails 8 = .ok (.iload_n 1, 1) := by decide +kernel
theorem dX8_fails_9 : decode cX8_fails 9 = .ok (.putfield 94, 3) := by decide +kernel
theorem dX8_fails_12 : decode cX8_fails 12 = .ok (.aload_n 0, 1) := by decide +kernel
theorem dX8_fails_13 : decode cX8_fails 13 = .ok (.aload_n 0, 1) := by decide +kernel
theorem dX8_fails_14 : decode cX8_fails 14 = .ok (.getfield 91, 3) := by decide +kernel
theorem dX8_fails_17 : decode cX8_fails 17 = .ok (.putfield 97, 3) := by decide +kernel
theorem dX8_fails_20 : decode cX8_fails 20 = .ok (.iconst 0, 1) := by decide +kernel
theorem dX8_fails_21 : decode cX8_fails 21 = .ok (.ireturn, 1) := by decide +kernel
theorem dX8_wordEnd_0 : decode cX8_wordEnd 0 = .ok (.aload_n 0, 1) := by decide +kernel
theorem dX8_wordEnd_1 : decode cX8_wordEnd 1 = .ok (.getfield 91, 3) := by decide +kernel
theorem dX8_wordEnd_4 : decode cX8_wordEnd 4 = .ok (.istore_n 1, 1) := by decide +kernel
theorem dX8_wordEnd_5 : decode cX8_wordEnd 5 = .ok (.aload_n 0, 1) := by decide +kernel
theorem dX8_wordEnd_6 : decode cX8_wordEnd 6 = .ok (.iload_n 1, 1) := by decide +kernel
theorem dX8_wordEnd_7 : decode cX8_wordEnd 7 = .ok (.invokevirtual 100, 3) := by decide +kernel
theorem dX8_wordEnd_10 : decode cX8_wordEnd 10 = .ok (.ifCond .eq 9, 3) := by decide +kernel
theorem dX8_wordEnd_13 : decode cX8_wordEnd 13 = .ok (.iinc 1 1, 3) := by decide +kernel
theorem dX8_wordEnd_16 : decode cX8_wordEnd 16 = .ok (.goto (-11), 3) := by decide +kernel
theorem dX8_wordEnd_19 : decode cX8_wordEnd 19 = .ok (.iload_n 1, 1) := by decide +kernel
theorem dX8_wordEnd_20 : decode cX8_wordEnd 20 = .ok (.ireturn, 1) := by decide +kernel
theorem dX8_isWord_0 : decode cX8_isWord 0 = .ok (.aload_n 0, 1) := by decide +kernel
theorem dX8_isWord_1 : decode cX8_isWord 1 = .ok (.invokevirtual 104, 3) := by decide +kernel
theorem dX8_isWord_4 : decode cX8_isWord 4 = .ok (.istore_n 2, 1) := by decide +kernel
theorem dX8_isWord_5 : decode cX8_isWord 5 = .ok (.iload_n 2, 1) := by decide +kernel
theorem dX8_isWord_6 : decode cX8_isWord 6 = .ok (.aload_n 0, 1) := by decide +kernel
theorem dX8_isWord_7 : decode cX8_isWord 7 = .ok (.getfield 91, 3) := by decide +kernel
theorem dX8_isWord_10 : decode cX8_isWord 10 = .ok (.isub, 1) := by decide +kernel
theorem dX8_isWord_11 : decode cX8_isWord 11 = .ok (.aload_n 1, 1) := by decide +kernel
theorem dX8_isWord_12 : decode cX8_isWord 12 = .ok (.invokevirtual 108, 3) := by decide +kernel
theorem dX8_isWord_15 : decode cX8_isWord 15 = .ok (.if_icmp .ne 7, 3) := by decide +kernel
theorem dX8_isWord_18 : decode cX8_isWord 18 = .ok (.iconst 1, 1) := by decide +kernel
theorem dX8_isWord_19 : decode cX8_isWord 19 = .ok (.goto 4, 3) := by decide +kernel
theorem dX8_isWord_22 : decode cX8_isWord 22 = .ok (.iconst 0, 1) := by decide +kernel
theorem dX8_isWord_23 : decode cX8_isWord 23 = .ok (.istore_n 3, 1) := by decide +kernel
theorem dX8_isWord_24 : decode cX8_isWord 24 = .ok (.iconst 0, 1) := by decide +kernel
theorem dX8_isWord_25 : decode cX8_isWord 25 = .ok (.istore 4, 2) := by decide +kernel
theorem dX8_isWord_27 : decode cX8_isWord 27 = .ok (.iload_n 3, 1) := by decide +kernel
theorem dX8_isWord_28 : decode cX8_isWord 28 = .ok (.ifCond .eq 46, 3) := by decide +kernel
theorem dX8_isWord_31 : decode cX8_isWord 31 = .ok (.aload_n 0, 1) := by decide +kernel
theorem dX8_isWord_32 : decode cX8_isWord 32 = .ok (.getfield 91, 3) := by decide +kernel
theorem dX8_isWord_35 : decode cX8_isWord 35 = .ok (.iload 4, 2) := by decide +kernel
theorem dX8_isWord_37 : decode cX8_isWord 37 = .ok (.iadd, 1) := by decide +kernel
theorem dX8_isWord_38 : decode cX8_isWord 38 = .ok (.iload_n 2, 1) := by decide +kernel
theorem dX8_isWord_39 : decode cX8_isWord 39 = .ok (.if_icmp .ge 35, 3) := by decide +kernel
theorem dX8_isWord_42 : decode cX8_isWord 42 = .ok (.aload_n 0, 1) := by decide +kernel
theorem dX8_isWord_43 : decode cX8_isWord 43 = .ok (.aload_n 0, 1) := by decide +kernel
theorem dX8_isWord_44 : decode cX8_isWord 44 = .ok (.getfield 91, 3) := by decide +kernel
theorem dX8_isWord_47 : decode cX8_isWord 47 = .ok (.iload 4, 2) := by decide +kernel
theorem dX8_isWord_49 : decode cX8_isWord 49 = .ok (.iadd, 1) := by decide +kernel
theorem dX8_isWord_50 : decode cX8_isWord 50 = .ok (.invokevirtual 72, 3) := by decide +kernel
theorem dX8_isWord_53 : decode cX8_isWord 53 = .ok (.aload_n 1, 1) := by decide +kernel
theorem dX8_isWord_54 : decode cX8_isWord 54 = .ok (.iload 4, 2) := by decide +kernel
theorem dX8_isWord_56 : decode cX8_isWord 56 = .ok (.invokevirtual 112, 3) := by decide +kernel
theorem dX8_isWord_59 : decode cX8_isWord 59 = .ok (.if_icmp .ne 7, 3) := by decide +kernel
theorem dX8_isWord_62 : decode cX8_isWord 62 = .ok (.iconst 1, 1) := by decide +kernel
theorem dX8_isWord_63 : decode cX8_isWord 63 = .ok (.goto 4, 3) := by decide +kernel
theorem dX8_isWord_66 : decode cX8_isWord 66 = .ok (.iconst 0, 1) := by decide +kernel
theorem dX8_isWord_67 : decode cX8_isWord 67 = .ok (.istore_n 3, 1) := by decide +kernel
theorem dX8_isWord_68 : decode cX8_isWord 68 = .ok (.iinc 4 1, 3) := by decide +kernel
theorem dX8_isWord_71 : decode cX8_isWord 71 = .ok (.goto (-44), 3) := by decide +kernel
theorem dX8_isWord_74 : decode cX8_isWord 74 = .ok (.iload_n 3, 1) := by decide +kernel
theorem dX8_isWord_75 : decode cX8_isWord 75 = .ok (.ireturn, 1) := by decide +kernel
theorem dX8_passes_0 : decode cX8_passes 0 = .ok (.aload_n 0, 1) := by decide +kernel
theorem dX8_passes_1 : decode cX8_passes 1 = .ok (.aload_n 0, 1) := by decide +kernel
theorem dX8_passes_2 : decode cX8_passes 2 = .ok (.invokevirtual 104, 3) := by decide +kernel
theorem dX8_passes_5 : decode cX8_passes 5 = .ok (.putfield 88, 3) := by decide +kernel
theorem dX8_passes_8 : decode cX8_passes 8 = .ok (.iconst 1, 1) := by decide +kernel
theorem dX8_passes_9 : decode cX8_passes 9 = .ok (.ireturn, 1) := by decide +kernel
theorem dX8_reads_0 : decode cX8_reads 0 = .ok (.aload_n 0, 1) := by decide +kernel
theorem dX8_reads_1 : decode cX8_reads 1 = .ok (.invokevirtual 116, 3) := by decide +kernel
theorem dX8_reads_4 : decode cX8_reads 4 = .ok (.pop, 1) := by decide +kernel
theorem dX8_reads_5 : decode cX8_reads 5 = .ok (.aload_n 0, 1) := by decide +kernel
theorem dX8_reads_6 : decode cX8_reads 6 = .ok (.aload_n 0, 1) := by decide +kernel
theorem dX8_reads_7 : decode cX8_reads 7 = .ok (.getfield 88, 3) := by decide +kernel
theorem dX8_reads_10 : decode cX8_reads 10 = .ok (.invokevirtual 119, 3) := by decide +kernel
theorem dX8_reads_13 : decode cX8_reads 13 = .ok (.ifCond .ne 9, 3) := by decide +kernel
theorem dX8_reads_16 : decode cX8_reads 16 = .ok (.aload_n 0, 1) := by decide +kernel
theorem dX8_reads_17 : decode cX8_reads 17 = .ok (.iconst 1, 1) := by decide +kernel
theorem dX8_reads_18 : decode cX8_reads 18 = .ok (.invokevirtual 122, 3) := by decide +kernel
theorem dX8_reads_21 : decode cX8_reads 21 = .ok (.ireturn, 1) := by decide +kernel
theorem dX8_reads_22 : decode cX8_reads 22 = .ok (.lconst 0, 1) := by decide +kernel
theorem dX8_reads_23 : decode cX8_reads 23 = .ok (.lstore 4, 2) := by decide +kernel
theorem dX8_reads_25 : decode cX8_reads 25 = .ok (.aload_n 0, 1) := by decide +kernel
theorem dX8_reads_26 : decode cX8_reads 26 = .ok (.aload_n 0, 1) := by decide +kernel
theorem dX8_reads_27 : decode cX8_reads 27 = .ok (.getfield 88, 3) := by decide +kernel
theorem dX8_reads_30 : decode cX8_reads 30 = .ok (.invokevirtual 119, 3) := by decide +kernel
theorem dX8_reads_33 : decode cX8_reads 33 = .ok (.ifCond .eq 44, 3) := by decide +kernel
theorem dX8_reads_36 : decode cX8_reads 36 = .ok (.ldc2_w 125, 3) := by decide +kernel
theorem dX8_reads_39 : decode cX8_reads 39 = .ok (.ldc2_w 127, 3) := by decide +kernel
theorem dX8_reads_42 : decode cX8_reads 42 = .ok (.lload 4, 2) := by decide +kernel
theorem dX8_reads_44 : decode cX8_reads 44 = .ok (.lmul, 1) := by decide +kernel
theorem dX8_reads_45 : decode cX8_reads 45 = .ok (.aload_n 0, 1) := by decide +kernel
theorem dX8_reads_46 : decode cX8_reads 46 = .ok (.aload_n 0, 1) := by decide +kernel
theorem dX8_reads_47 : decode cX8_reads 47 = .ok (.getfield 88, 3) := by decide +kernel
theorem dX8_reads_50 : decode cX8_reads 50 = .ok (.invokevirtual 72, 3) := by decide +kernel
theorem dX8_reads_53 : decode cX8_reads 53 = .ok (.i2l, 1) := by decide +kernel
theorem dX8_reads_54 : decode cX8_reads 54 = .ok (.ladd, 1) := by decide +kernel
theorem dX8_reads_55 : decode cX8_reads 55 = .ok (.ldc2_w 84, 3) := by decide +kernel
theorem dX8_reads_58 : decode cX8_reads 58 = .ok (.lsub, 1) := by decide +kernel
theorem dX8_reads_59 : decode cX8_reads 59 = .ok (.invokestatic 129, 3) := by decide +kernel
theorem dX8_reads_62 : decode cX8_reads 62 = .ok (.lstore 4, 2) := by decide +kernel
theorem dX8_reads_64 : decode cX8_reads 64 = .ok (.aload_n 0, 1) := by decide +kernel
theorem dX8_reads_65 : decode cX8_reads 65 = .ok (.dup, 1) := by decide +kernel
theorem dX8_reads_66 : decode cX8_reads 66 = .ok (.getfield 88, 3) := by decide +kernel
theorem dX8_reads_69 : decode cX8_reads 69 = .ok (.iconst 1, 1) := by decide +kernel
theorem dX8_reads_70 : decode cX8_reads 70 = .ok (.iadd, 1) := by decide +kernel
theorem dX8_reads_71 : decode cX8_reads 71 = .ok (.putfield 88, 3) := by decide +kernel
theorem dX8_reads_74 : decode cX8_reads 74 = .ok (.goto (-49), 3) := by decide +kernel
theorem dX8_reads_77 : decode cX8_reads 77 = .ok (.lload 4, 2) := by decide +kernel
theorem dX8_reads_79 : decode cX8_reads 79 = .ok (.iload_n 2, 1) := by decide +kernel
theorem dX8_reads_80 : decode cX8_reads 80 = .ok (.i2l, 1) := by decide +kernel
theorem dX8_reads_81 : decode cX8_reads 81 = .ok (.iload_n 3, 1) := by decide +kernel
theorem dX8_reads_82 : decode cX8_reads 82 = .ok (.i2l, 1) := by decide +kernel
theorem dX8_reads_83 : decode cX8_reads 83 = .ok (.invokestatic 80, 3) := by decide +kernel
theorem dX8_reads_86 : decode cX8_reads 86 = .ok (.ifCond .ne 9, 3) := by decide +kernel
theorem dX8_reads_89 : decode cX8_reads 89 = .ok (.aload_n 0, 1) := by decide +kernel
theorem dX8_reads_90 : decode cX8_reads 90 = .ok (.iconst 2, 1) := by decide +kernel
theorem dX8_reads_91 : decode cX8_reads 91 = .ok (.invokevirtual 122, 3) := by decide +kernel
theorem dX8_reads_94 : decode cX8_reads 94 = .ok (.ireturn, 1) := by decide +kernel
theorem dX8_reads_95 : decode cX8_reads 95 = .ok (.aload_n 0, 1) := by decide +kernel
theorem dX8_reads_96 : decode cX8_reads 96 = .ok (.getfield 16, 3) := by decide +kernel
theorem dX8_reads_99 : decode cX8_reads 99 = .ok (.iload_n 1, 1) := by decide +kernel
theorem dX8_reads_100 : decode cX8_reads 100 = .ok (.lload 4, 2) := by decide +kernel
theorem dX8_reads_102 : decode cX8_reads 102 = .ok (.l2i, 1) := by decide +kernel
theorem dX8_reads_103 : decode cX8_reads 103 = .ok (.iastore, 1) := by decide +kernel
theorem dX8_reads_104 : decode cX8_reads 104 = .ok (.iconst 1, 1) := by decide +kernel
theorem dX8_reads_105 : decode cX8_reads 105 = .ok (.ireturn, 1) := by decide +kernel
theorem dX8_isNamed_0 : decode cX8_isNamed 0 = .ok (.bipush 12, 2) := by decide +kernel
theorem dX8_isNamed_2 : decode cX8_isNamed 2 = .ok (.bipush 7, 2) := by decide +kernel
theorem dX8_isNamed_4 : decode cX8_isNamed 4 = .ok (.iload_n 1, 1) := by decide +kernel
theorem dX8_isNamed_5 : decode cX8_isNamed 5 = .ok (.imul, 1) := by decide +kernel
theorem dX8_isNamed_6 : decode cX8_isNamed 6 = .ok (.iadd, 1) := by decide +kernel
theorem dX8_isNamed_7 : decode cX8_isNamed 7 = .ok (.istore 5, 2) := by decide +kernel
theorem dX8_isNamed_9 : decode cX8_isNamed 9 = .ok (.aload_n 0, 1) := by decide +kernel
theorem dX8_isNamed_10 : decode cX8_isNamed 10 = .ok (.iload 5, 2) := by decide +kernel
theorem dX8_isNamed_12 : decode cX8_isNamed 12 = .ok (.iaload, 1) := by decide +kernel
theorem dX8_isNamed_13 : decode cX8_isNamed 13 = .ok (.iload 4, 2) := by decide +kernel
theorem dX8_isNamed_15 : decode cX8_isNamed 15 = .ok (.if_icmp .ne 7, 3) := by decide +kernel
theorem dX8_isNamed_18 : decode cX8_isNamed 18 = .ok (.iconst 1, 1) := by decide +kernel
theorem dX8_isNamed_19 : decode cX8_isNamed 19 = .ok (.goto 4, 3) := by decide +kernel
theorem dX8_isNamed_22 : decode cX8_isNamed 22 = .ok (.iconst 0, 1) := by decide +kernel
theorem dX8_isNamed_23 : decode cX8_isNamed 23 = .ok (.istore 6, 2) := by decide +kernel
theorem dX8_isNamed_25 : decode cX8_isNamed 25 = .ok (.iconst 0, 1) := by decide +kernel
theorem dX8_isNamed_26 : decode cX8_isNamed 26 = .ok (.istore 7, 2) := by decide +kernel
theorem dX8_isNamed_28 : decode cX8_isNamed 28 = .ok (.iload 6, 2) := by decide +kernel
theorem dX8_isNamed_30 : decode cX8_isNamed 30 = .ok (.ifCond .eq 41, 3) := by decide +kernel
theorem dX8_isNamed_33 : decode cX8_isNamed 33 = .ok (.iload 7, 2) := by decide +kernel
theorem dX8_isNamed_35 : decode cX8_isNamed 35 = .ok (.iload 4, 2) := by decide +kernel
theorem dX8_isNamed_37 : decode cX8_isNamed 37 = .ok (.if_icmp .ge 34, 3) := by decide +kernel
theorem dX8_isNamed_40 : decode cX8_isNamed 40 = .ok (.aload_n 0, 1) := by decide +kernel
theorem dX8_isNamed_41 : decode cX8_isNamed 41 = .ok (.iload 5, 2) := by decide +kernel
theorem dX8_isNamed_43 : decode cX8_isNamed 43 = .ok (.iconst 1, 1) := by decide +kernel
theorem dX8_isNamed_44 : decode cX8_isNamed 44 = .ok (.iadd, 1) := by decide +kernel
theorem dX8_isNamed_45 : decode cX8_isNamed 45 = .ok (.iload 7, 2) := by decide +kernel
theorem dX8_isNamed_47 : decode cX8_isNamed 47 = .ok (.iadd, 1) := by decide +kernel
theorem dX8_isNamed_48 : decode cX8_isNamed 48 = .ok (.iaload, 1) := by decide +kernel
theorem dX8_isNamed_49 : decode cX8_isNamed 49 = .ok (.aload_n 2, 1) := by decide +kernel
theorem dX8_isNamed_50 : decode cX8_isNamed 50 = .ok (.iload_n 3, 1) := by decide +kernel
theorem dX8_isNamed_51 : decode cX8_isNamed 51 = .ok (.iload 7, 2) := by decide +kernel
theorem dX8_isNamed_53 : decode cX8_isNamed 53 = .ok (.iadd, 1) := by decide +kernel
theorem dX8_isNamed_54 : decode cX8_isNamed 54 = .ok (.iaload, 1) := by decide +kernel
theorem dX8_isNamed_55 : decode cX8_isNamed 55 = .ok (.if_icmp .ne 7, 3) := by decide +kernel
theorem dX8_isNamed_58 : decode cX8_isNamed 58 = .ok (.iconst 1, 1) := by decide +kernel
theorem dX8_isNamed_59 : decode cX8_isNamed 59 = .ok (.goto 4, 3) := by decide +kernel
theorem dX8_isNamed_62 : decode cX8_isNamed 62 = .ok (.iconst 0, 1) := by decide +kernel
theorem dX8_isNamed_63 : decode cX8_isNamed 63 = .ok (.istore 6, 2) := by decide +kernel
theorem dX8_isNamed_65 : decode cX8_isNamed 65 = .ok (.iinc 7 1, 3) := by decide +kernel
theorem dX8_isNamed_68 : decode cX8_isNamed 68 = .ok (.goto (-40), 3) := by decide +kernel
theorem dX8_isNamed_71 : decode cX8_isNamed 71 = .ok (.iload 6, 2) := by decide +kernel
theorem dX8_isNamed_73 : decode cX8_isNamed 73 = .ok (.ireturn, 1) := by decide +kernel
theorem dX8_named_0 : decode cX8_named 0 = .ok (.iconst (-1), 1) := by decide +kernel
theorem dX8_named_1 : decode cX8_named 1 = .ok (.istore_n 1, 1) := by decide +kernel
theorem dX8_named_2 : decode cX8_named 2 = .ok (.iconst 0, 1) := by decide +kernel
theorem dX8_named_3 : decode cX8_named 3 = .ok (.istore_n 2, 1) := by decide +kernel
theorem dX8_named_4 : decode cX8_named 4 = .ok (.iload_n 2, 1) := by decide +kernel
theorem dX8_named_5 : decode cX8_named 5 = .ok (.aload_n 0, 1) := by decide +kernel
theorem dX8_named_6 : decode cX8_named 6 = .ok (.getfield 16, 3) := by decide +kernel
theorem dX8_named_9 : decode cX8_named 9 = .ok (.bipush 6, 2) := by decide +kernel
theorem dX8_named_11 : decode cX8_named 11 = .ok (.iaload, 1) := by decide +kernel
theorem dX8_named_12 : decode cX8_named 12 = .ok (.if_icmp .ge 43, 3) := by decide +kernel
theorem dX8_named_15 : decode cX8_named 15 = .ok (.aload_n 0, 1) := by decide +kernel
theorem dX8_named_16 : decode cX8_named 16 = .ok (.getfield 16, 3) := by decide +kernel
theorem dX8_named_19 : decode cX8_named 19 = .ok (.iload_n 2, 1) := by decide +kernel
theorem dX8_named_20 : decode cX8_named 20 = .ok (.aload_n 0, 1) := by decide +kernel
theorem dX8_named_21 : decode cX8_named 21 = .ok (.getfield 29, 3) := by decide +kernel
theorem dX8_named_24 : decode cX8_named 24 = .ok (.aload_n 0, 1) := by decide +kernel
theorem dX8_named_25 : decode cX8_named 25 = .ok (.getfield 91, 3) := by decide +kernel
theorem dX8_named_28 : decode cX8_named 28 = .ok (.aload_n 0, 1) := by decide +kernel
theorem dX8_named_29 : decode cX8_named 29 = .ok (.invokevirtual 104, 3) := by decide +kernel
theorem dX8_named_32 : decode cX8_named 32 = .ok (.aload_n 0, 1) := by decide +kernel
theorem dX8_named_33 : decode cX8_named 33 = .ok (.getfield 91, 3) := by decide +kernel
theorem dX8_named_36 : decode cX8_named 36 = .ok (.isub, 1) := by decide +kernel
theorem dX8_named_37 : decode cX8_named 37 = .ok (.invokestatic 135, 3) := by decide +kernel
theorem dX8_named_40 : decode cX8_named 40 = .ok (.ifCond .eq 7, 3) := by decide +kernel
theorem dX8_named_43 : decode cX8_named 43 = .ok (.iload_n 2, 1) := by decide +kernel
theorem dX8_named_44 : decode cX8_named 44 = .ok (.goto 4, 3) := by decide +kernel
theorem dX8_named_47 : decode cX8_named 47 = .ok (.iload_n 1, 1) := by decide +kernel
theorem dX8_named_48 : decode cX8_named 48 = .ok (.istore_n 1, 1) := by decide +kernel
theorem dX8_named_49 : decode cX8_named 49 = .ok (.iinc 2 1, 3) := by decide +kernel
theorem dX8_named_52 : decode cX8_named 52 = .ok (.goto (-48), 3) := by decide +kernel
theorem dX8_named_55 : decode cX8_named 55 = .ok (.iload_n 1, 1) := by decide +kernel
theorem dX8_named_56 : decode cX8_named 56 = .ok (.ireturn, 1) := by decide +kernel
theorem dX8_readNode_0 : decode cX8_readNode 0 = .ok (.aload_n 0, 1) := by decide +kernel
theorem dX8_readNode_1 : decode cX8_readNode 1 = .ok (.getfield 16, 3) := by decide +kernel
theorem dX8_readNode_4 : decode cX8_readNode 4 = .ok (.bipush 6, 2) := by decide +kernel
theorem dX8_readNode_6 : decode cX8_readNode 6 = .ok (.iaload, 1) := by decide +kernel
theorem dX8_readNode_7 : decode cX8_readNode 7 = .ok (.bipush 12, 2) := by decide +kernel
theorem dX8_readNode_9 : decode cX8_readNode 9 = .ok (.if_icmp .ne 9, 3) := by decide +kernel
theorem dX8_readNode_12 : decode cX8_readNode 12 = .ok (.aload_n 0, 1) := by decide +kernel
theorem dX8_readNode_13 : decode cX8_readNode 13 = .ok (.iconst 4, 1) := by decide +kernel
theorem dX8_readNode_14 : decode cX8_readNode 14 = .ok (.invokevirtual 122, 3) := by decide +kernel
theorem dX8_readNode_17 : decode cX8_readNode 17 = .ok (.ireturn, 1) := by decide +kernel
theorem dX8_readNode_18 : decode cX8_readNode 18 = .ok (.aload_n 0, 1) := by decide +kernel
theorem dX8_readNode_19 : decode cX8_readNode 19 = .ok (.invokevirtual 139, 3) := by decide +kernel
theorem dX8_readNode_22 : decode cX8_readNode 22 = .ok (.pop, 1) := by decide +kernel
theorem dX8_readNode_23 : decode cX8_readNode 23 = .ok (.aload_n 0, 1) := by decide +kernel
theorem dX8_readNode_24 : decode cX8_readNode 24 = .ok (.invokevirtual 116, 3) := by decide +kernel
theorem dX8_readNode_27 : decode cX8_readNode 27 = .ok (.pop, 1) := by decide +kernel
theorem dX8_readNode_28 : decode cX8_readNode 28 = .ok (.aload_n 0, 1) := by decide +kernel
theorem dX8_readNode_29 : decode cX8_readNode 29 = .ok (.invokevirtual 104, 3) := by decide +kernel
theorem dX8_readNode_32 : decode cX8_readNode 32 = .ok (.aload_n 0, 1) := by decide +kernel
theorem dX8_readNode_33 : decode cX8_readNode 33 = .ok (.getfield 91, 3) := by decide +kernel
theorem dX8_readNode_36 : decode cX8_readNode 36 = .ok (.isub, 1) := by decide +kernel
theorem dX8_readNode_37 : decode cX8_readNode 37 = .ok (.istore_n 1, 1) := by decide +kernel
theorem dX8_readNode_38 : decode cX8_readNode 38 = .ok (.iload_n 1, 1) := by decide +kernel
theorem dX8_readNode_39 : decode cX8_readNode 39 = .ok (.ifCond .ne 9, 3) := by decide +kernel
theorem dX8_readNode_42 : decode cX8_readNode 42 = .ok (.aload_n 0, 1) := by decide +kernel
theorem dX8_readNode_43 : decode cX8_readNode 43 = .ok (.iconst 1, 1) := by decide +kernel
theorem dX8_readNode_44 : decode cX8_readNode 44 = .ok (.invokevirtual 122, 3) := by decide +kernel
theorem dX8_readNode_47 : decode cX8_readNode 47 = .ok (.ireturn, 1) := by decide +kernel
theorem dX8_readNode_48 : decode cX8_readNode 48 = .ok (.iload_n 1, 1) := by decide +kernel
theorem dX8_readNode_49 : decode cX8_readNode 49 = .ok (.bipush 6, 2) := by decide +kernel
theorem dX8_readNode_51 : decode cX8_readNode 51 = .ok (.if_icmp .gt 11, 3) := by decide +kernel
theorem dX8_readNode_54 : decode cX8_readNode 54 = .ok (.aload_n 0, 1) := by decide +kernel
theorem dX8_readNode_55 : decode cX8_readNode 55 = .ok (.invokevirtual 143, 3) := by decide +kernel
theorem dX8_readNode_58 : decode cX8_readNode 58 = .ok (.iconst (-1), 1) := by decide +kernel
theorem dX8_readNode_59 : decode cX8_readNode 59 = .ok (.if_icmp .eq 9, 3) := by decide +kernel
theorem dX8_readNode_62 : decode cX8_readNode 62 = .ok (.aload_n 0, 1) := by decide +kernel
theorem dX8_readNode_63 : decode cX8_readNode 63 = .ok (.iconst 3, 1) := by decide +kernel
theorem dX8_readNode_64 : decode cX8_readNode 64 = .ok (.invokevirtual 122, 3) := by decide +kernel
theorem dX8_readNode_67 : decode cX8_readNode 67 = .ok (.ireturn, 1) := by decide +kernel
theorem dX8_readNode_68 : decode cX8_readNode 68 = .ok (.bipush 12, 2) := by decide +kernel
theorem dX8_readNode_70 : decode cX8_readNode 70 = .ok (.bipush 7, 2) := by decide +kernel
theorem dX8_readNode_72 : decode cX8_readNode 72 = .ok (.aload_n 0, 1) := by decide +kernel
theorem dX8_readNode_73 : decode cX8_readNode 73 = .ok (.getfield 16, 3) := by decide +kernel
theorem dX8_readNode_76 : decode cX8_readNode 76 = .ok (.bipush 6, 2) := by decide +kernel
theorem dX8_readNode_78 : decode cX8_readNode 78 = .ok (.iaload, 1) := by decide +kernel
theorem dX8_readNode_79 : decode cX8_readNode 79 = .ok (.imul, 1) := by decide +kernel
theorem dX8_readNode_80 : decode cX8_readNode 80 = .ok (.iadd, 1) := by decide +kernel
theorem dX8_readNode_81 : decode cX8_readNode 81 = .ok (.istore_n 2, 1) := by decide +kernel
theorem dX8_readNode_82 : decode cX8_readNode 82 = .ok (.aload_n 0, 1) := by decide +kernel
theorem dX8_readNode_83 : decode cX8_readNode 83 = .ok (.getfield 16, 3) := by decide +kernel
theorem dX8_readNode_86 : decode cX8_readNode 86 = .ok (.iload_n 2, 1) := by decide +kernel
theorem dX8_readNode_87 : decode cX8_readNode 87 = .ok (.iload_n 1, 1) := by decide +kernel
theorem dX8_readNode_88 : decode cX8_readNode 88 = .ok (.iastore, 1) := by decide +kernel
theorem dX8_readNode_89 : decode cX8_readNode 89 = .ok (.iconst 0, 1) := by decide +kernel
theorem dX8_readNode_90 : decode cX8_readNode 90 = .ok (.istore_n 3, 1) := by decide +kernel
theorem dX8_readNode_91 : decode cX8_readNode 91 = .ok (.iload_n 3, 1) := by decide +kernel
theorem dX8_readNode_92 : decode cX8_readNode 92 = .ok (.iload_n 1, 1) := by decide +kernel
theorem dX8_readNode_93 : decode cX8_readNode 93 = .ok (.if_icmp .ge 30, 3) := by decide +kernel
theorem dX8_readNode_96 : decode cX8_readNode 96 = .ok (.aload_n 0, 1) := by decide +kernel
theorem dX8_readNode_97 : decode cX8_readNode 97 = .ok (.getfield 16, 3) := by decide +kernel
theorem dX8_readNode_100 : decode cX8_readNode 100 = .ok (.iload_n 2, 1) := by decide +kernel
theorem dX8_readNode_101 : decode cX8_readNode 101 = .ok (.iconst 1, 1) := by decide +kernel
theorem dX8_readNode_102 : decode cX8_readNode 102 = .ok (.iadd, 1) := by decide +kernel
theorem dX8_readNode_103 : decode cX8_readNode 103 = .ok (.iload_n 3, 1) := by decide +kernel
theorem dX8_readNode_104 : decode cX8_readNode 104 = .ok (.iadd, 1) := by decide +kernel
theorem dX8_readNode_105 : decode cX8_readNode 105 = .ok (.aload_n 0, 1) := by decide +kernel
theorem dX8_readNode_106 : decode cX8_readNode 106 = .ok (.getfield 29, 3) := by decide +kernel
theorem dX8_readNode_109 : decode cX8_readNode 109 = .ok (.aload_n 0, 1) := by decide +kernel
theorem dX8_readNode_110 : decode cX8_readNode 110 = .ok (.getfield 91, 3) := by decide +kernel
theorem dX8_readNode_113 : decode cX8_readNode 113 = .ok (.iload_n 3, 1) := by decide +kernel
theorem dX8_readNode_114 : decode cX8_readNode 114 = .ok (.iadd, 1) := by decide +kernel
theorem dX8_readNode_115 : decode cX8_readNode 115 = .ok (.iaload, 1) := by decide +kernel
theorem dX8_readNode_116 : decode cX8_readNode 116 = .ok (.iastore, 1) := by decide +kernel
theorem dX8_readNode_117 : decode cX8_readNode 117 = .ok (.iinc 3 1, 3) := by decide +kernel
theorem dX8_readNode_120 : decode cX8_readNode 120 = .ok (.goto (-29), 3) := by decide +kernel
theorem dX8_readNode_123 : decode cX8_readNode 123 = .ok (.aload_n 0, 1) := by decide +kernel
theorem dX8_readNode_124 : decode cX8_readNode 124 = .ok (.getfield 16, 3) := by decide +kernel
theorem dX8_readNode_127 : decode cX8_readNode 127 = .ok (.bipush 6, 2) := by decide +kernel
theorem dX8_readNode_129 : decode cX8_readNode 129 = .ok (.dup2, 1) := by decide +kernel
theorem dX8_readNode_130 : decode cX8_readNode 130 = .ok (.iaload, 1) := by decide +kernel
theorem dX8_readNode_131 : decode cX8_readNode 131 = .ok (.iconst 1, 1) := by decide +kernel
theorem dX8_readNode_132 : decode cX8_readNode 132 = .ok (.iadd, 1) := by decide +kernel
theorem dX8_readNode_133 : decode cX8_readNode 133 = .ok (.iastore, 1) := by decide +kernel
theorem dX8_readNode_134 : decode cX8_readNode 134 = .ok (.aload_n 0, 1) := by decide +kernel
theorem dX8_readNode_135 : decode cX8_readNode 135 = .ok (.invokevirtual 139, 3) := by decide +kernel
theorem dX8_readNode_138 : decode cX8_readNode 138 = .ok (.ireturn, 1) := by decide +kernel
theorem dX8_readEnd_0 : decode cX8_readEnd 0 = .ok (.aload_n 0, 1) := by decide +kernel
theorem dX8_readEnd_1 : decode cX8_readEnd 1 = .ok (.invokevirtual 116, 3) := by decide +kernel
theorem dX8_readEnd_4 : decode cX8_readEnd 4 = .ok (.pop, 1) := by decide +kernel
theorem dX8_readEnd_5 : decode cX8_readEnd 5 = .ok (.aload_n 0, 1) := by decide +kernel
theorem dX8_readEnd_6 : decode cX8_readEnd 6 = .ok (.aload_n 0, 1) := by decide +kernel
theorem dX8_readEnd_7 : decode cX8_readEnd 7 = .ok (.getfield 91, 3) := by decide +kernel
theorem dX8_readEnd_10 : decode cX8_readEnd 10 = .ok (.invokevirtual 100, 3) := by decide +kernel
theorem dX8_readEnd_13 : decode cX8_readEnd 13 = .ok (.ifCond .ne 9, 3) := by decide +kernel
theorem dX8_readEnd_16 : decode cX8_readEnd 16 = .ok (.aload_n 0, 1) := by decide +kernel
theorem dX8_readEnd_17 : decode cX8_readEnd 17 = .ok (.iconst 1, 1) := by decide +kernel
theorem dX8_readEnd_18 : decode cX8_readEnd 18 = .ok (.invokevirtual 122, 3) := by decide +kernel
theorem dX8_readEnd_21 : decode cX8_readEnd 21 = .ok (.ireturn, 1) := by decide +kernel
theorem dX8_readEnd_22 : decode cX8_readEnd 22 = .ok (.aload_n 0, 1) := by decide +kernel
theorem dX8_readEnd_23 : decode cX8_readEnd 23 = .ok (.invokevirtual 143, 3) := by decide +kernel
theorem dX8_readEnd_26 : decode cX8_readEnd 26 = .ok (.istore_n 3, 1) := by decide +kernel
theorem dX8_readEnd_27 : decode cX8_readEnd 27 = .ok (.iload_n 3, 1) := by decide +kernel
theorem dX8_readEnd_28 : decode cX8_readEnd 28 = .ok (.iconst (-1), 1) := by decide +kernel
theorem dX8_readEnd_29 : decode cX8_readEnd 29 = .ok (.if_icmp .eq 8, 3) := by decide +kernel
theorem dX8_readEnd_32 : decode cX8_readEnd 32 = .ok (.iload_n 3, 1) := by decide +kernel
theorem dX8_readEnd_33 : decode cX8_readEnd 33 = .ok (.iload_n 2, 1) := by decide +kernel
theorem dX8_readEnd_34 : decode cX8_readEnd 34 = .ok (.if_icmp .ne 9, 3) := by decide +kernel
theorem dX8_readEnd_37 : decode cX8_readEnd 37 = .ok (.aload_n 0, 1) := by decide +kernel
theorem dX8_readEnd_38 : decode cX8_readEnd 38 = .ok (.iconst 3, 1) := by decide +kernel
theorem dX8_readEnd_39 : decode cX8_readEnd 39 = .ok (.invokevirtual 122, 3) := by decide +kernel
theorem dX8_readEnd_42 : decode cX8_readEnd 42 = .ok (.ireturn, 1) := by decide +kernel
theorem dX8_readEnd_43 : decode cX8_readEnd 43 = .ok (.aload_n 0, 1) := by decide +kernel
theorem dX8_readEnd_44 : decode cX8_readEnd 44 = .ok (.getfield 16, 3) := by decide +kernel
theorem dX8_readEnd_47 : decode cX8_readEnd 47 = .ok (.iload_n 1, 1) := by decide +kernel
theorem dX8_readEnd_48 : decode cX8_readEnd 48 = .ok (.iload_n 3, 1) := by decide +kernel
theorem dX8_readEnd_49 : decode cX8_readEnd 49 = .ok (.iastore, 1) := by decide +kernel
theorem dX8_readEnd_50 : decode cX8_readEnd 50 = .ok (.aload_n 0, 1) := by decide +kernel
theorem dX8_readEnd_51 : decode cX8_readEnd 51 = .ok (.invokevirtual 139, 3) := by decide +kernel
theorem dX8_readEnd_54 : decode cX8_readEnd 54 = .ok (.ireturn, 1) := by decide +kernel
theorem dX8_readLink_0 : decode cX8_readLink 0 = .ok (.aload_n 0, 1) := by decide +kernel
theorem dX8_readLink_1 : decode cX8_readLink 1 = .ok (.getfield 16, 3) := by decide +kernel
theorem dX8_readLink_4 : decode cX8_readLink 4 = .ok (.bipush 7, 2) := by decide +kernel
theorem dX8_readLink_6 : decode cX8_readLink 6 = .ok (.iaload, 1) := by decide +kernel
theorem dX8_readLink_7 : decode cX8_readLink 7 = .ok (.bipush 24, 2) := by decide +kernel
theorem dX8_readLink_9 : decode cX8_readLink 9 = .ok (.if_icmp .ne 9, 3) := by decide +kernel
theorem dX8_readLink_12 : decode cX8_readLink 12 = .ok (.aload_n 0, 1) := by decide +kernel
theorem dX8_readLink_13 : decode cX8_readLink 13 = .ok (.iconst 4, 1) := by decide +kernel
theorem dX8_readLink_14 : decode cX8_readLink 14 = .ok (.invokevirtual 122, 3) := by decide +kernel
theorem dX8_readLink_17 : decode cX8_readLink 17 = .ok (.ireturn, 1) := by decide +kernel
theorem dX8_readLink_18 : decode cX8_readLink 18 = .ok (.aload_n 0, 1) := by decide +kernel
theorem dX8_readLink_19 : decode cX8_readLink 19 = .ok (.invokevirtual 139, 3) := by decide +kernel
theorem dX8_readLink_22 : decode cX8_readLink 22 = .ok (.pop, 1) := by decide +kernel
theorem dX8_readLink_23 : decode cX8_readLink 23 = .ok (.bipush 96, 2) := by decide +kernel
theorem dX8_readLink_25 : decode cX8_readLink 25 = .ok (.bipush 7, 2) := by decide +kernel
theorem dX8_readLink_27 : decode cX8_readLink 27 = .ok (.aload_n 0, 1) := by decide +kernel
theorem dX8_readLink_28 : decode cX8_readLink 28 = .ok (.getfield 16, 3) := by decide +kernel
theorem dX8_readLink_31 : decode cX8_readLink 31 = .ok (.bipush 7, 2) := by decide +kernel
theorem dX8_readLink_33 : decode cX8_readLink 33 = .ok (.iaload, 1) := by decide +kernel
theorem dX8_readLink_34 : decode cX8_readLink 34 = .ok (.imul, 1) := by decide +kernel
theorem dX8_readLink_35 : decode cX8_readLink 35 = .ok (.iadd, 1) := by decide +kernel
theorem dX8_readLink_36 : decode cX8_readLink 36 = .ok (.istore_n 1, 1) := by decide +kernel
theorem dX8_readLink_37 : decode cX8_readLink 37 = .ok (.aload_n 0, 1) := by decide +kernel
theorem dX8_readLink_38 : decode cX8_readLink 38 = .ok (.iload_n 1, 1) := by decide +kernel
theorem dX8_readLink_39 : decode cX8_readLink 39 = .ok (.iconst 0, 1) := by decide +kernel
theorem dX8_readLink_40 : decode cX8_readLink 40 = .ok (.iadd, 1) := by decide +kernel
theorem dX8_readLink_41 : decode cX8_readLink 41 = .ok (.iconst (-1), 1) := by decide +kernel
theorem dX8_readLink_42 : decode cX8_readLink 42 = .ok (.invokevirtual 146, 3) := by decide +kernel
theorem dX8_readLink_45 : decode cX8_readLink 45 = .ok (.ifCond .eq 21, 3) := by decide +kernel
theorem dX8_readLink_48 : decode cX8_readLink 48 = .ok (.aload_n 0, 1) := by decide +kernel
theorem dX8_readLink_49 : decode cX8_readLink 49 = .ok (.iload_n 1, 1) := by decide +kernel
theorem dX8_readLink_50 : decode cX8_readLink 50 = .ok (.iconst 1, 1) := by decide +kernel
theorem dX8_readLink_51 : decode cX8_readLink 51 = .ok (.iadd, 1) := by decide +kernel
theorem dX8_readLink_52 : decode cX8_readLink 52 = .ok (.aload_n 0, 1) := by decide +kernel
theorem dX8_readLink_53 : decode cX8_readLink 53 = .ok (.getfield 16, 3) := by decide +kernel
theorem dX8_readLink_56 : decode cX8_readLink 56 = .ok (.iload_n 1, 1) := by decide +kernel
theorem dX8_readLink_57 : decode cX8_readLink 57 = .ok (.iconst 0, 1) := by decide +kernel
theorem dX8_readLink_58 : decode cX8_readLink 58 = .ok (.iadd, 1) := by decide +kernel
theorem dX8_readLink_59 : decode cX8_readLink 59 = .ok (.iaload, 1) := by decide +kernel
theorem dX8_readLink_60 : decode cX8_readLink 60 = .ok (.invokevirtual 146, 3) := by decide +kernel
theorem dX8_readLink_63 : decode cX8_readLink 63 = .ok (.ifCond .ne 5, 3) := by decide +kernel
theorem dX8_readLink_66 : decode cX8_readLink 66 = .ok (.iconst 0, 1) := by decide +kernel
theorem dX8_readLink_67 : decode cX8_readLink 67 = .ok (.ireturn, 1) := by decide +kernel
theorem dX8_readLink_68 : decode cX8_readLink 68 = .ok (.aload_n 0, 1) := by decide +kernel
theorem dX8_readLink_69 : decode cX8_readLink 69 = .ok (.iload_n 1, 1) := by decide +kernel
theorem dX8_readLink_70 : decode cX8_readLink 70 = .ok (.iconst 2, 1) := by decide +kernel
theorem dX8_readLink_71 : decode cX8_readLink 71 = .ok (.iadd, 1) := by decide +kernel
theorem dX8_readLink_72 : decode cX8_readLink 72 = .ok (.iconst 0, 1) := by decide +kernel
theorem dX8_readLink_73 : decode cX8_readLink 73 = .ok (.sipush 1000, 3) := by decide +kernel
theorem dX8_readLink_76 : decode cX8_readLink 76 = .ok (.invokevirtual 150, 3) := by decide +kernel
theorem dX8_readLink_79 : decode cX8_readLink 79 = .ok (.ifCond .eq 30, 3) := by decide +kernel
theorem dX8_readLink_82 : decode cX8_readLink 82 = .ok (.aload_n 0, 1) := by decide +kernel
theorem dX8_readLink_83 : decode cX8_readLink 83 = .ok (.iload_n 1, 1) := by decide +kernel
theorem dX8_readLink_84 : decode cX8_readLink 84 = .ok (.iconst 3, 1) := by decide +kernel
theorem dX8_readLink_85 : decode cX8_readLink 85 = .ok (.iadd, 1) := by decide +kernel
theorem dX8_readLink_86 : decode cX8_readLink 86 = .ok (.iconst 0, 1) := by decide +kernel
theorem dX8_readLink_87 : decode cX8_readLink 87 = .ok (.sipush 1000, 3) := by decide +kernel
theorem dX8_readLink_90 : decode cX8_readLink 90 = .ok (.invokevirtual 150, 3) := by decide +kernel
theorem dX8_readLink_93 : decode cX8_readLink 93 = .ok (.ifCond .eq 16, 3) := by decide +kernel
theorem dX8_readLink_96 : decode cX8_readLink 96 = .ok (.aload_n 0, 1) := by decide +kernel
theorem dX8_readLink_97 : decode cX8_readLink 97 = .ok (.iload_n 1, 1) := by decide +kernel
theorem dX8_readLink_98 : decode cX8_readLink 98 = .ok (.iconst 4, 1) := by decide +kernel
theorem dX8_readLink_99 : decode cX8_readLink 99 = .ok (.iadd, 1) := by decide +kernel
theorem dX8_readLink_100 : decode cX8_readLink 100 = .ok (.iconst 1, 1) := by decide +kernel
theorem dX8_readLink_101 : decode cX8_readLink 101 = .ok (.bipush 50, 2) := by decide +kernel
theorem dX8_readLink_103 : decode cX8_readLink 103 = .ok (.invokevirtual 150, 3) := by decide +kernel
theorem dX8_readLink_106 : decode cX8_readLink 106 = .ok (.ifCond .ne 5, 3) := by decide +kernel
theorem dX8_readLink_109 : decode cX8_readLink 109 = .ok (.iconst 0, 1) := by decide +kernel
theorem dX8_readLink_110 : decode cX8_readLink 110 = .ok (.ireturn, 1) := by decide +kernel
theorem dX8_readLink_111 : decode cX8_readLink 111 = .ok (.aload_n 0, 1) := by decide +kernel
theorem dX8_readLink_112 : decode cX8_readLink 112 = .ok (.getfield 16, 3) := by decide +kernel
theorem dX8_readLink_115 : decode cX8_readLink 115 = .ok (.iload_n 1, 1) := by decide +kernel
theorem dX8_readLink_116 : decode cX8_readLink 116 = .ok (.iconst 5, 1) := by decide +kernel
theorem dX8_readLink_117 : decode cX8_readLink 117 = .ok (.iadd, 1) := by decide +kernel
theorem dX8_readLink_118 : decode cX8_readLink 118 = .ok (.iconst 1, 1) := by decide +kernel
theorem dX8_readLink_119 : decode cX8_readLink 119 = .ok (.iastore, 1) := by decide +kernel
theorem dX8_readLink_120 : decode cX8_readLink 120 = .ok (.aload_n 0, 1) := by decide +kernel
theorem dX8_readLink_121 : decode cX8_readLink 121 = .ok (.getfield 16, 3) := by decide +kernel
theorem dX8_readLink_124 : decode cX8_readLink 124 = .ok (.bipush 7, 2) := by decide +kernel
theorem dX8_readLink_126 : decode cX8_readLink 126 = .ok (.dup2, 1) := by decide +kernel
theorem dX8_readLink_127 : decode cX8_readLink 127 = .ok (.iaload, 1) := by decide +kernel
theorem dX8_readLink_128 : decode cX8_readLink 128 = .ok (.iconst 1, 1) := by decide +kernel
theorem dX8_readLink_129 : decode cX8_readLink 129 = .ok (.iadd, 1) := by decide +kernel
theorem dX8_readLink_130 : decode cX8_readLink 130 = .ok (.iastore, 1) := by decide +kernel
theorem dX8_readLink_131 : decode cX8_readLink 131 = .ok (.iconst 1, 1) := by decide +kernel
theorem dX8_readLink_132 : decode cX8_readLink 132 = .ok (.ireturn, 1) := by decide +kernel
theorem dX8_least_0 : decode cX8_least 0 = .ok (.iload_n 0, 1) := by decide +kernel
theorem dX8_least_1 : decode cX8_least 1 = .ok (.iconst 4, 1) := by decide +kernel
theorem dX8_least_2 : decode cX8_least 2 = .ok (.if_icmp .eq 8, 3) := by decide +kernel
theorem dX8_least_5 : decode cX8_least 5 = .ok (.iload_n 0, 1) := by decide +kernel
theorem dX8_least_6 : decode cX8_least 6 = .ok (.iconst 5, 1) := by decide +kernel
theorem dX8_least_7 : decode cX8_least 7 = .ok (.if_icmp .ne 7, 3) := by decide +kernel
theorem dX8_least_10 : decode cX8_least 10 = .ok (.iconst 0, 1) := by decide +kernel
theorem dX8_least_11 : decode cX8_least 11 = .ok (.goto 4, 3) := by decide +kernel
theorem dX8_least_14 : decode cX8_least 14 = .ok (.iconst 1, 1) := by decide +kernel
theorem dX8_least_15 : decode cX8_least 15 = .ok (.ireturn, 1) := by decide +kernel
theorem dX8_most_0 : decode cX8_most 0 = .ok (.iload_n 0, 1) := by decide +kernel
theorem dX8_most_1 : decode cX8_most 1 = .ok (.lookupswitch 34 #[(1, 27), (3, 31)], 27) := by decide +kernel
theorem dX8_most_28 : decode cX8_most 28 = .ok (.sipush 500, 3) := by decide +kernel
theorem dX8_most_31 : decode cX8_most 31 = .ok (.ireturn, 1) := by decide +kernel
theorem dX8_most_32 : decode cX8_most 32 = .ok (.bipush 9, 2) := by decide +kernel
theorem dX8_most_34 : decode cX8_most 34 = .ok (.ireturn, 1) := by decide +kernel
theorem dX8_most_35 : decode cX8_most 35 = .ok (.bipush 100, 2) := by decide +kernel
theorem dX8_most_37 : decode cX8_most 37 = .ok (.ireturn, 1) := by decide +kernel
theorem dX8_readSetting_0 : decode cX8_readSetting 0 = .ok (.aload_n 0, 1) := by decide +kernel
theorem dX8_readSetting_1 : decode cX8_readSetting 1 = .ok (.invokevirtual 139, 3) := by decide +kernel
theorem dX8_readSetting_4 : decode cX8_readSetting 4 = .ok (.ifCond .eq 23, 3) := by decide +kernel
theorem dX8_readSetting_7 : decode cX8_readSetting 7 = .ok (.aload_n 0, 1) := by decide +kernel
theorem dX8_readSetting_8 : decode cX8_readSetting 8 = .ok (.iload_n 1, 1) := by decide +kernel
theorem dX8_readSetting_9 : decode cX8_readSetting 9 = .ok (.iload_n 1, 1) := by decide +kernel
theorem dX8_readSetting_10 : decode cX8_readSetting 10 = .ok (.invokestatic 154, 3) := by decide +kernel
theorem dX8_readSetting_13 : decode cX8_readSetting 13 = .ok (.iload_n 1, 1) := by decide +kernel
theorem dX8_readSetting_14 : decode cX8_readSetting 14 = .ok (.invokestatic 157, 3) := by decide +kernel
theorem dX8_readSetting_17 : decode cX8_readSetting 17 = .ok (.invokevirtual 150, 3) := by decide +kernel
theorem dX8_readSetting_20 : decode cX8_readSetting 20 = .ok (.ifCond .eq 7, 3) := by decide +kernel
theorem dX8_readSetting_23 : decode cX8_readSetting 23 = .ok (.iconst 1, 1) := by decide +kernel
theorem dX8_readSetting_24 : decode cX8_readSetting 24 = .ok (.goto 4, 3) := by decide +kernel
theorem dX8_readSetting_27 : decode cX8_readSetting 27 = .ok (.iconst 0, 1) := by decide +kernel
theorem dX8_readSetting_28 : decode cX8_readSetting 28 = .ok (.ireturn, 1) := by decide +kernel
theorem dX8_readStatement_0 : decode cX8_readStatement 0 = .ok (.aload_n 0, 1) := by decide +kernel
theorem dX8_readStatement_1 : decode cX8_readStatement 1 = .ok (.invokevirtual 116, 3) := by decide +kernel
theorem dX8_readStatement_4 : decode cX8_readStatement 4 = .ok (.pop, 1) := by decide +kernel
theorem dX8_readStatement_5 : decode cX8_readStatement 5 = .ok (.aload_n 0, 1) := by decide +kernel
theorem dX8_readStatement_6 : decode cX8_readStatement 6 = .ok (.ldc 160, 2) := by decide +kernel
theorem dX8_readStatement_8 : decode cX8_readStatement 8 = .ok (.invokevirtual 162, 3) := by decide +kernel
theorem dX8_readStatement_11 : decode cX8_readStatement 11 = .ok (.ifCond .eq 8, 3) := by decide +kernel
theorem dX8_readStatement_14 : decode cX8_readStatement 14 = .ok (.aload_n 0, 1) := by decide +kernel
theorem dX8_readStatement_15 : decode cX8_readStatement 15 = .ok (.invokevirtual 166, 3) := by decide +kernel
theorem dX8_readStatement_18 : decode cX8_readStatement 18 = .ok (.ireturn, 1) := by decide +kernel
theorem dX8_readStatement_19 : decode cX8_readStatement 19 = .ok (.aload_n 0, 1) := by decide +kernel
theorem dX8_readStatement_20 : decode cX8_readStatement 20 = .ok (.ldc 169, 2) := by decide +kernel
theorem dX8_readStatement_22 : decode cX8_readStatement 22 = .ok (.invokevirtual 162, 3) := by decide +kernel
theorem dX8_readStatement_25 : decode cX8_readStatement 25 = .ok (.ifCond .eq 8, 3) := by decide +kernel
theorem dX8_readStatement_28 : decode cX8_readStatement 28 = .ok (.aload_n 0, 1) := by decide +kernel
theorem dX8_readStatement_29 : decode cX8_readStatement 29 = .ok (.invokevirtual 171, 3) := by decide +kernel
theorem dX8_readStatement_32 : decode cX8_readStatement 32 = .ok (.ireturn, 1) := by decide +kernel
theorem dX8_readStatement_33 : decode cX8_readStatement 33 = .ok (.aload_n 0, 1) := by decide +kernel
theorem dX8_readStatement_34 : decode cX8_readStatement 34 = .ok (.ldc 174, 2) := by decide +kernel
theorem dX8_readStatement_36 : decode cX8_readStatement 36 = .ok (.invokevirtual 162, 3) := by decide +kernel
theorem dX8_readStatement_39 : decode cX8_readStatement 39 = .ok (.ifCond .eq 9, 3) := by decide +kernel
theorem dX8_readStatement_42 : decode cX8_readStatement 42 = .ok (.aload_n 0, 1) := by decide +kernel
theorem dX8_readStatement_43 : decode cX8_readStatement 43 = .ok (.iconst 1, 1) := by decide +kernel
theorem dX8_readStatement_44 : decode cX8_readStatement 44 = .ok (.invokevirtual 176, 3) := by decide +kernel
theorem dX8_readStatement_47 : decode cX8_readStatement 47 = .ok (.ireturn, 1) := by decide +kernel
theorem dX8_readStatement_48 : decode cX8_readStatement 48 = .ok (.aload_n 0, 1) := by decide +kernel
theorem dX8_readStatement_49 : decode cX8_readStatement 49 = .ok (.ldc 179, 2) := by decide +kernel
theorem dX8_readStatement_51 : decode cX8_readStatement 51 = .ok (.invokevirtual 162, 3) := by decide +kernel
theorem dX8_readStatement_54 : decode cX8_readStatement 54 = .ok (.ifCond .eq 9, 3) := by decide +kernel
theorem dX8_readStatement_57 : decode cX8_readStatement 57 = .ok (.aload_n 0, 1) := by decide +kernel
theorem dX8_readStatement_58 : decode cX8_readStatement 58 = .ok (.iconst 2, 1) := by decide +kernel
theorem dX8_readStatement_59 : decode cX8_readStatement 59 = .ok (.invokevirtual 176, 3) := by decide +kernel
theorem dX8_readStatement_62 : decode cX8_readStatement 62 = .ok (.ireturn, 1) := by decide +kernel
theorem dX8_readStatement_63 : decode cX8_readStatement 63 = .ok (.aload_n 0, 1) := by decide +kernel
theorem dX8_readStatement_64 : decode cX8_readStatement 64 = .ok (.ldc 181, 2) := by decide +kernel
theorem dX8_readStatement_66 : decode cX8_readStatement 66 = .ok (.invokevirtual 162, 3) := by decide +kernel
theorem dX8_readStatement_69 : decode cX8_readStatement 69 = .ok (.ifCond .eq 9, 3) := by decide +kernel
theorem dX8_readStatement_72 : decode cX8_readStatement 72 = .ok (.aload_n 0, 1) := by decide +kernel
theorem dX8_readStatement_73 : decode cX8_readStatement 73 = .ok (.iconst 3, 1) := by decide +kernel
theorem dX8_readStatement_74 : decode cX8_readStatement 74 = .ok (.invokevirtual 176, 3) := by decide +kernel
theorem dX8_readStatement_77 : decode cX8_readStatement 77 = .ok (.ireturn, 1) := by decide +kernel
theorem dX8_readStatement_78 : decode cX8_readStatement 78 = .ok (.aload_n 0, 1) := by decide +kernel
theorem dX8_readStatement_79 : decode cX8_readStatement 79 = .ok (.ldc 183, 2) := by decide +kernel
theorem dX8_readStatement_81 : decode cX8_readStatement 81 = .ok (.invokevirtual 162, 3) := by decide +kernel
theorem dX8_readStatement_84 : decode cX8_readStatement 84 = .ok (.ifCond .eq 9, 3) := by decide +kernel
theorem dX8_readStatement_87 : decode cX8_readStatement 87 = .ok (.aload_n 0, 1) := by decide +kernel
theorem dX8_readStatement_88 : decode cX8_readStatement 88 = .ok (.iconst 4, 1) := by decide +kernel
theorem dX8_readStatement_89 : decode cX8_readStatement 89 = .ok (.invokevirtual 176, 3) := by decide +kernel
theorem dX8_readStatement_92 : decode cX8_readStatement 92 = .ok (.ireturn, 1) := by decide +kernel
theorem dX8_readStatement_93 : decode cX8_readStatement 93 = .ok (.aload_n 0, 1) := by decide +kernel
theorem dX8_readStatement_94 : decode cX8_readStatement 94 = .ok (.ldc 185, 2) := by decide +kernel
theorem dX8_readStatement_96 : decode cX8_readStatement 96 = .ok (.invokevirtual 162, 3) := by decide +kernel
theorem dX8_readStatement_99 : decode cX8_readStatement 99 = .ok (.ifCond .eq 11, 3) := by decide +kernel
theorem dX8_readStatement_102 : decode cX8_readStatement 102 = .ok (.aload_n 0, 1) := by decide +kernel
theorem dX8_readStatement_103 : decode cX8_readStatement 103 = .ok (.iconst 5, 1) := by decide +kernel
theorem dX8_readStatement_104 : decode cX8_readStatement 104 = .ok (.invokevirtual 176, 3) := by decide +kernel
theorem dX8_readStatement_107 : decode cX8_readStatement 107 = .ok (.goto 8, 3) := by decide +kernel
theorem dX8_readStatement_110 : decode cX8_readStatement 110 = .ok (.aload_n 0, 1) := by decide +kernel
theorem dX8_readStatement_111 : decode cX8_readStatement 111 = .ok (.iconst 1, 1) := by decide +kernel
theorem dX8_readStatement_112 : decode cX8_readStatement 112 = .ok (.invokevirtual 122, 3) := by decide +kernel
theorem dX8_readStatement_115 : decode cX8_readStatement 115 = .ok (.ireturn, 1) := by decide +kernel
theorem dX8_readsAll_0 : decode cX8_readsAll 0 = .ok (.aload_n 0, 1) := by decide +kernel
theorem dX8_readsAll_1 : decode cX8_readsAll 1 = .ok (.invokevirtual 187, 3) := by decide +kernel
theorem dX8_readsAll_4 : decode cX8_readsAll 4 = .ok (.ifCond .ne 5, 3) := by decide +kernel
theorem dX8_readsAll_7 : decode cX8_readsAll 7 = .ok (.iconst 0, 1) := by decide +kernel
theorem dX8_readsAll_8 : decode cX8_readsAll 8 = .ok (.ireturn, 1) := by decide +kernel
theorem dX8_readsAll_9 : decode cX8_readsAll 9 = .ok (.aload_n 0, 1) := by decide +kernel
theorem dX8_readsAll_10 : decode cX8_readsAll 10 = .ok (.invokevirtual 116, 3) := by decide +kernel
theorem dX8_readsAll_13 : decode cX8_readsAll 13 = .ok (.bipush 59, 2) := by decide +kernel
theorem dX8_readsAll_15 : decode cX8_readsAll 15 = .ok (.if_icmp .ne 22, 3) := by decide +kernel
theorem dX8_readsAll_18 : decode cX8_readsAll 18 = .ok (.aload_n 0, 1) := by decide +kernel
theorem dX8_readsAll_19 : decode cX8_readsAll 19 = .ok (.dup, 1) := by decide +kernel
theorem dX8_readsAll_20 : decode cX8_readsAll 20 = .ok (.getfield 88, 3) := by decide +kernel
theorem dX8_readsAll_23 : decode cX8_readsAll 23 = .ok (.iconst 1, 1) := by decide +kernel
theorem dX8_readsAll_24 : decode cX8_readsAll 24 = .ok (.iadd, 1) := by decide +kernel
theorem dX8_readsAll_25 : decode cX8_readsAll 25 = .ok (.putfield 88, 3) := by decide +kernel
theorem dX8_readsAll_28 : decode cX8_readsAll 28 = .ok (.aload_n 0, 1) := by decide +kernel
theorem dX8_readsAll_29 : decode cX8_readsAll 29 = .ok (.invokevirtual 187, 3) := by decide +kernel
theorem dX8_readsAll_32 : decode cX8_readsAll 32 = .ok (.ifCond .ne (-23), 3) := by decide +kernel
theorem dX8_readsAll_35 : decode cX8_readsAll 35 = .ok (.iconst 0, 1) := by decide +kernel
theorem dX8_readsAll_36 : decode cX8_readsAll 36 = .ok (.ireturn, 1) := by decide +kernel
theorem dX8_readsAll_37 : decode cX8_readsAll 37 = .ok (.aload_n 0, 1) := by decide +kernel
theorem dX8_readsAll_38 : decode cX8_readsAll 38 = .ok (.invokevirtual 116, 3) := by decide +kernel
theorem dX8_readsAll_41 : decode cX8_readsAll 41 = .ok (.iconst (-1), 1) := by decide +kernel
theorem dX8_readsAll_42 : decode cX8_readsAll 42 = .ok (.if_icmp .eq 11, 3) := by decide +kernel
theorem dX8_readsAll_45 : decode cX8_readsAll 45 = .ok (.aload_n 0, 1) := by decide +kernel
theorem dX8_readsAll_46 : decode cX8_readsAll 46 = .ok (.iconst 1, 1) := by decide +kernel
theorem dX8_readsAll_47 : decode cX8_readsAll 47 = .ok (.invokevirtual 122, 3) := by decide +kernel
theorem dX8_readsAll_50 : decode cX8_readsAll 50 = .ok (.ifCond .eq 7, 3) := by decide +kernel
theorem dX8_readsAll_53 : decode cX8_readsAll 53 = .ok (.iconst 1, 1) := by decide +kernel
theorem dX8_readsAll_54 : decode cX8_readsAll 54 = .ok (.goto 4, 3) := by decide +kernel
theorem dX8_readsAll_57 : decode cX8_readsAll 57 = .ok (.iconst 0, 1) := by decide +kernel
theorem dX8_readsAll_58 : decode cX8_readsAll 58 = .ok (.ireturn, 1) := by decide +kernel
theorem dX8_load_0 : decode cX8_load 0 = .ok (.aload_n 0, 1) := by decide +kernel
theorem dX8_load_1 : decode cX8_load 1 = .ok (.iconst 0, 1) := by decide +kernel
theorem dX8_load_2 : decode cX8_load 2 = .ok (.putfield 60, 3) := by decide +kernel
theorem dX8_load_5 : decode cX8_load 5 = .ok (.aload_n 0, 1) := by decide +kernel
theorem dX8_load_6 : decode cX8_load 6 = .ok (.getfield 16, 3) := by decide +kernel
theorem dX8_load_9 : decode cX8_load 9 = .ok (.invokestatic 56, 3) := by decide +kernel
theorem dX8_load_12 : decode cX8_load 12 = .ok (.aload_n 0, 1) := by decide +kernel
theorem dX8_load_13 : decode cX8_load 13 = .ok (.iconst 0, 1) := by decide +kernel
theorem dX8_load_14 : decode cX8_load 14 = .ok (.putfield 88, 3) := by decide +kernel
theorem dX8_load_17 : decode cX8_load 17 = .ok (.aload_n 0, 1) := by decide +kernel
theorem dX8_load_18 : decode cX8_load 18 = .ok (.iconst 0, 1) := by decide +kernel
theorem dX8_load_19 : decode cX8_load 19 = .ok (.putfield 94, 3) := by decide +kernel
theorem dX8_load_22 : decode cX8_load 22 = .ok (.aload_n 0, 1) := by decide +kernel
theorem dX8_load_23 : decode cX8_load 23 = .ok (.invokevirtual 190, 3) := by decide +kernel
theorem dX8_load_26 : decode cX8_load 26 = .ok (.istore_n 1, 1) := by decide +kernel
theorem dX8_load_27 : decode cX8_load 27 = .ok (.aload_n 0, 1) := by decide +kernel
theorem dX8_load_28 : decode cX8_load 28 = .ok (.iconst 0, 1) := by decide +kernel
theorem dX8_load_29 : decode cX8_load 29 = .ok (.putfield 66, 3) := by decide +kernel
theorem dX8_load_32 : decode cX8_load 32 = .ok (.aload_n 0, 1) := by decide +kernel
theorem dX8_load_33 : decode cX8_load 33 = .ok (.aload_n 0, 1) := by decide +kernel
theorem dX8_load_34 : decode cX8_load 34 = .ok (.getfield 94, 3) := by decide +kernel
theorem dX8_load_37 : decode cX8_load 37 = .ok (.putfield 69, 3) := by decide +kernel
theorem dX8_load_40 : decode cX8_load 40 = .ok (.iload_n 1, 1) := by decide +kernel
theorem dX8_load_41 : decode cX8_load 41 = .ok (.ifCond .ne 11, 3) := by decide +kernel
theorem dX8_load_44 : decode cX8_load 44 = .ok (.bipush (-100), 2) := by decide +kernel
theorem dX8_load_46 : decode cX8_load 46 = .ok (.aload_n 0, 1) := by decide +kernel
theorem dX8_load_47 : decode cX8_load 47 = .ok (.getfield 97, 3) := by decide +kernel
theorem dX8_load_50 : decode cX8_load 50 = .ok (.isub, 1) := by decide +kernel
theorem dX8_load_51 : decode cX8_load 51 = .ok (.ireturn, 1) := by decide +kernel
theorem dX8_load_52 : decode cX8_load 52 = .ok (.aload_n 0, 1) := by decide +kernel
theorem dX8_load_53 : decode cX8_load 53 = .ok (.getfield 16, 3) := by decide +kernel
theorem dX8_load_56 : decode cX8_load 56 = .ok (.aload_n 0, 1) := by decide +kernel
theorem dX8_load_57 : decode cX8_load 57 = .ok (.getfield 9, 3) := by decide +kernel
theorem dX8_load_60 : decode cX8_load 60 = .ok (.invokestatic 193, 3) := by decide +kernel
theorem dX8_load_63 : decode cX8_load 63 = .ok (.aload_n 0, 1) := by decide +kernel
theorem dX8_load_64 : decode cX8_load 64 = .ok (.getfield 9, 3) := by decide +kernel
theorem dX8_load_67 : decode cX8_load 67 = .ok (.bipush 7, 2) := by decide +kernel
theorem dX8_load_69 : decode cX8_load 69 = .ok (.iaload, 1) := by decide +kernel
theorem dX8_load_70 : decode cX8_load 70 = .ok (.ireturn, 1) := by decide +kernel
theorem dX8_nodeNamed_0 : decode cX8_nodeNamed 0 = .ok (.aload_n 0, 1) := by decide +kernel
theorem dX8_nodeNamed_1 : decode cX8_nodeNamed 1 = .ok (.iconst 0, 1) := by decide +kernel
theorem dX8_nodeNamed_2 : decode cX8_nodeNamed 2 = .ok (.putfield 60, 3) := by decide +kernel
theorem dX8_nodeNamed_5 : decode cX8_nodeNamed 5 = .ok (.iconst (-1), 1) := by decide +kernel
theorem dX8_nodeNamed_6 : decode cX8_nodeNamed 6 = .ok (.istore_n 1, 1) := by decide +kernel
theorem dX8_nodeNamed_7 : decode cX8_nodeNamed 7 = .ok (.iconst 0, 1) := by decide +kernel
theorem dX8_nodeNamed_8 : decode cX8_nodeNamed 8 = .ok (.istore_n 2, 1) := by decide +kernel
theorem dX8_nodeNamed_9 : decode cX8_nodeNamed 9 = .ok (.iload_n 2, 1) := by decide +kernel
theorem dX8_nodeNamed_10 : decode cX8_nodeNamed 10 = .ok (.aload_n 0, 1) := by decide +kernel
theorem dX8_nodeNamed_11 : decode cX8_nodeNamed 11 = .ok (.getfield 9, 3) := by decide +kernel
theorem dX8_nodeNamed_14 : decode cX8_nodeNamed 14 = .ok (.bipush 6, 2) := by decide +kernel
theorem dX8_nodeNamed_16 : decode cX8_nodeNamed 16 = .ok (.iaload, 1) := by decide +kernel
theorem dX8_nodeNamed_17 : decode cX8_nodeNamed 17 = .ok (.if_icmp .ge 44, 3) := by decide +kernel
theorem dX8_nodeNamed_20 : decode cX8_nodeNamed 20 = .ok (.aload_n 0, 1) := by decide +kernel
theorem dX8_nodeNamed_21 : decode cX8_nodeNamed 21 = .ok (.getfield 66, 3) := by decide +kernel
theorem dX8_nodeNamed_24 : decode cX8_nodeNamed 24 = .ok (.bipush 6, 2) := by decide +kernel
theorem dX8_nodeNamed_26 : decode cX8_nodeNamed 26 = .ok (.if_icmp .gt 27, 3) := by decide +kernel
theorem dX8_nodeNamed_29 : decode cX8_nodeNamed 29 = .ok (.aload_n 0, 1) := by decide +kernel
theorem dX8_nodeNamed_30 : decode cX8_nodeNamed 30 = .ok (.getfield 9, 3) := by decide +kernel
theorem dX8_nodeNamed_33 : decode cX8_nodeNamed 33 = .ok (.iload_n 2, 1) := by decide +kernel
theorem dX8_nodeNamed_34 : decode cX8_nodeNamed 34 = .ok (.aload_n 0, 1) := by decide +kernel
theorem dX8_nodeNamed_35 : decode cX8_nodeNamed 35 = .ok (.getfield 29, 3) := by decide +kernel
theorem dX8_nodeNamed_38 : decode cX8_nodeNamed 38 = .ok (.iconst 0, 1) := by decide +kernel
theorem dX8_nodeNamed_39 : decode cX8_nodeNamed 39 = .ok (.aload_n 0, 1) := by decide +kernel
theorem dX8_nodeNamed_40 : decode cX8_nodeNamed 40 = .ok (.getfield 66, 3) := by decide +kernel
theorem dX8_nodeNamed_43 : decode cX8_nodeNamed 43 = .ok (.invokestatic 135, 3) := by decide +kernel
theorem dX8_nodeNamed_46 : decode cX8_nodeNamed 46 = .ok (.ifCond .eq 7, 3) := by decide +kernel
theorem dX8_nodeNamed_49 : decode cX8_nodeNamed 49 = .ok (.iload_n 2, 1) := by decide +kernel
theorem dX8_nodeNamed_50 : decode cX8_nodeNamed 50 = .ok (.goto 4, 3) := by decide +kernel
theorem dX8_nodeNamed_53 : decode cX8_nodeNamed 53 = .ok (.iload_n 1, 1) := by decide +kernel
theorem dX8_nodeNamed_54 : decode cX8_nodeNamed 54 = .ok (.istore_n 1, 1) := by decide +kernel
theorem dX8_nodeNamed_55 : decode cX8_nodeNamed 55 = .ok (.iinc 2 1, 3) := by decide +kernel
theorem dX8_nodeNamed_58 : decode cX8_nodeNamed 58 = .ok (.goto (-49), 3) := by decide +kernel
theorem dX8_nodeNamed_61 : decode cX8_nodeNamed 61 = .ok (.aload_n 0, 1) := by decide +kernel
theorem dX8_nodeNamed_62 : decode cX8_nodeNamed 62 = .ok (.iconst 0, 1) := by decide +kernel
theorem dX8_nodeNamed_63 : decode cX8_nodeNamed 63 = .ok (.putfield 66, 3) := by decide +kernel
theorem dX8_nodeNamed_66 : decode cX8_nodeNamed 66 = .ok (.iload_n 1, 1) := by decide +kernel
theorem dX8_nodeNamed_67 : decode cX8_nodeNamed 67 = .ok (.ireturn, 1) := by decide +kernel
theorem dX8_promised_0 : decode cX8_promised 0 = .ok (.iconst 0, 1) := by decide +kernel
theorem dX8_promised_1 : decode cX8_promised 1 = .ok (.istore_n 2, 1) := by decide +kernel
theorem dX8_promised_2 : decode cX8_promised 2 = .ok (.iconst 0, 1) := by decide +kernel
theorem dX8_promised_3 : decode cX8_promised 3 = .ok (.istore_n 3, 1) := by decide +kernel
theorem dX8_promised_4 : decode cX8_promised 4 = .ok (.iload_n 3, 1) := by decide +kernel
theorem dX8_promised_5 : decode cX8_promised 5 = .ok (.aload_n 0, 1) := by decide +kernel
theorem dX8_promised_6 : decode cX8_promised 6 = .ok (.getfield 9, 3) := by decide +kernel
theorem dX8_promised_9 : decode cX8_promised 9 = .ok (.bipush 9, 2) := by decide +kernel
theorem dX8_promised_11 : decode cX8_promised 11 = .ok (.iaload, 1) := by decide +kernel
theorem dX8_promised_12 : decode cX8_promised 12 = .ok (.if_icmp .ge 40, 3) := by decide +kernel
theorem dX8_promised_15 : decode cX8_promised 15 = .ok (.iload_n 2, 1) := by decide +kernel
theorem dX8_promised_16 : decode cX8_promised 16 = .ok (.aload_n 0, 1) := by decide +kernel
theorem dX8_promised_17 : decode cX8_promised 17 = .ok (.iload_n 3, 1) := by decide +kernel
theorem dX8_promised_18 : decode cX8_promised 18 = .ok (.iconst 1, 1) := by decide +kernel
theorem dX8_promised_19 : decode cX8_promised 19 = .ok (.invokevirtual 197, 3) := by decide +kernel
theorem dX8_promised_22 : decode cX8_promised 22 = .ok (.iload_n 1, 1) := by decide +kernel
theorem dX8_promised_23 : decode cX8_promised 23 = .ok (.if_icmp .ne 20, 3) := by decide +kernel
theorem dX8_promised_26 : decode cX8_promised 26 = .ok (.aload_n 0, 1) := by decide +kernel
theorem dX8_promised_27 : decode cX8_promised 27 = .ok (.iload_n 3, 1) := by decide +kernel
theorem dX8_promised_28 : decode cX8_promised 28 = .ok (.invokevirtual 201, 3) := by decide +kernel
theorem dX8_promised_31 : decode cX8_promised 31 = .ok (.ifCond .eq 12, 3) := by decide +kernel
theorem dX8_promised_34 : decode cX8_promised 34 = .ok (.aload_n 0, 1) := by decide +kernel
theorem dX8_promised_35 : decode cX8_promised 35 = .ok (.iload_n 3, 1) := by decide +kernel
theorem dX8_promised_36 : decode cX8_promised 36 = .ok (.iconst 2, 1) := by decide +kernel
theorem dX8_promised_37 : decode cX8_promised 37 = .ok (.invokevirtual 197, 3) := by decide +kernel
theorem dX8_promised_40 : decode cX8_promised 40 = .ok (.goto 4, 3) := by decide +kernel
theorem dX8_promised_43 : decode cX8_promised 43 = .ok (.iconst 0, 1) := by decide +kernel
theorem dX8_promised_44 : decode cX8_promised 44 = .ok (.iadd, 1) := by decide +kernel
theorem dX8_promised_45 : decode cX8_promised 45 = .ok (.istore_n 2, 1) := by decide +kernel
theorem dX8_promised_46 : decode cX8_promised 46 = .ok (.iinc 3 1, 3) := by decide +kernel
theorem dX8_promised_49 : decode cX8_promised 49 = .ok (.goto (-45), 3) := by decide +kernel
theorem dX8_promised_52 : decode cX8_promised 52 = .ok (.iload_n 2, 1) := by decide +kernel
theorem dX8_promised_53 : decode cX8_promised 53 = .ok (.ireturn, 1) := by decide +kernel
theorem dX8_isKept_0 : decode cX8_isKept 0 = .ok (.aload_n 0, 1) := by decide +kernel
theorem dX8_isKept_1 : decode cX8_isKept 1 = .ok (.iload_n 1, 1) := by decide +kernel
theorem dX8_isKept_2 : decode cX8_isKept 2 = .ok (.iconst 5, 1) := by decide +kernel
theorem dX8_isKept_3 : decode cX8_isKept 3 = .ok (.invokevirtual 197, 3) := by decide +kernel
theorem dX8_isKept_6 : decode cX8_isKept 6 = .ok (.ifCond .eq 13, 3) := by decide +kernel
theorem dX8_isKept_9 : decode cX8_isKept 9 = .ok (.aload_n 0, 1) := by decide +kernel
theorem dX8_isKept_10 : decode cX8_isKept 10 = .ok (.iload_n 1, 1) := by decide +kernel
theorem dX8_isKept_11 : decode cX8_isKept 11 = .ok (.iconst 5, 1) := by decide +kernel
theorem dX8_isKept_12 : decode cX8_isKept 12 = .ok (.invokevirtual 197, 3) := by decide +kernel
theorem dX8_isKept_15 : decode cX8_isKept 15 = .ok (.iconst 1, 1) := by decide +kernel
theorem dX8_isKept_16 : decode cX8_isKept 16 = .ok (.if_icmp .ne 7, 3) := by decide +kernel
theorem dX8_isKept_19 : decode cX8_isKept 19 = .ok (.iconst 1, 1) := by decide +kernel
theorem dX8_isKept_20 : decode cX8_isKept 20 = .ok (.goto 4, 3) := by decide +kernel
theorem dX8_isKept_23 : decode cX8_isKept 23 = .ok (.iconst 0, 1) := by decide +kernel
theorem dX8_isKept_24 : decode cX8_isKept 24 = .ok (.ireturn, 1) := by decide +kernel
theorem dX8_available_0 : decode cX8_available 0 = .ok (.aload_n 0, 1) := by decide +kernel
theorem dX8_available_1 : decode cX8_available 1 = .ok (.iload_n 1, 1) := by decide +kernel
theorem dX8_available_2 : decode cX8_available 2 = .ok (.iconst 2, 1) := by decide +kernel
theorem dX8_available_3 : decode cX8_available 3 = .ok (.invokevirtual 204, 3) := by decide +kernel
theorem dX8_available_6 : decode cX8_available 6 = .ok (.aload_n 0, 1) := by decide +kernel
theorem dX8_available_7 : decode cX8_available 7 = .ok (.iload_n 1, 1) := by decide +kernel
theorem dX8_available_8 : decode cX8_available 8 = .ok (.invokevirtual 206, 3) := by decide +kernel
theorem dX8_available_11 : decode cX8_available 11 = .ok (.isub, 1) := by decide +kernel
theorem dX8_available_12 : decode cX8_available 12 = .ok (.ireturn, 1) := by decide +kernel
theorem dX8_has_0 : decode cX8_has 0 = .ok (.iload_n 0, 1) := by decide +kernel
theorem dX8_has_1 : decode cX8_has 1 = .ok (.iload_n 1, 1) := by decide +kernel
theorem dX8_has_2 : decode cX8_has 2 = .ok (.ishr, 1) := by decide +kernel
theorem dX8_has_3 : decode cX8_has 3 = .ok (.iconst 1, 1) := by decide +kernel
theorem dX8_has_4 : decode cX8_has 4 = .ok (.iand, 1) := by decide +kernel
theorem dX8_has_5 : decode cX8_has 5 = .ok (.iconst 1, 1) := by decide +kernel
theorem dX8_has_6 : decode cX8_has 6 = .ok (.if_icmp .ne 7, 3) := by decide +kernel
theorem dX8_has_9 : decode cX8_has 9 = .ok (.iconst 1, 1) := by decide +kernel
theorem dX8_has_10 : decode cX8_has 10 = .ok (.goto 4, 3) := by decide +kernel
theorem dX8_has_13 : decode cX8_has 13 = .ok (.iconst 0, 1) := by decide +kernel
theorem dX8_has_14 : decode cX8_has 14 = .ok (.ireturn, 1) := by decide +kernel
theorem dX8_upLinks_0 : decode cX8_upLinks 0 = .ok (.iconst 0, 1) := by decide +kernel
theorem dX8_upLinks_1 : decode cX8_upLinks 1 = .ok (.istore_n 1, 1) := by decide +kernel
theorem dX8_upLinks_2 : decode cX8_upLinks 2 = .ok (.iconst 0, 1) := by decide +kernel
theorem dX8_upLinks_3 : decode cX8_upLinks 3 = .ok (.istore_n 2, 1) := by decide +kernel
theorem dX8_upLinks_4 : decode cX8_upLinks 4 = .ok (.iload_n 2, 1) := by decide +kernel
theorem dX8_upLinks_5 : decode cX8_upLinks 5 = .ok (.aload_n 0, 1) := by decide +kernel
theorem dX8_upLinks_6 : decode cX8_upLinks 6 = .ok (.getfield 9, 3) := by decide +kernel
theorem dX8_upLinks_9 : decode cX8_upLinks 9 = .ok (.bipush 7, 2) := by decide +kernel
theorem dX8_upLinks_11 : decode cX8_upLinks 11 = .ok (.iaload, 1) := by decide +kernel
theorem dX8_upLinks_12 : decode cX8_upLinks 12 = .ok (.if_icmp .ge 20, 3) := by decide +kernel
theorem dX8_upLinks_15 : decode cX8_upLinks 15 = .ok (.iload_n 1, 1) := by decide +kernel
theorem dX8_upLinks_16 : decode cX8_upLinks 16 = .ok (.aload_n 0, 1) := by decide +kernel
theorem dX8_upLinks_17 : decode cX8_upLinks 17 = .ok (.iload_n 2, 1) := by decide +kernel
theorem dX8_upLinks_18 : decode cX8_upLinks 18 = .ok (.iconst 5, 1) := by decide +kernel
theorem dX8_upLinks_19 : decode cX8_upLinks 19 = .ok (.invokevirtual 204, 3) := by decide +kernel
theorem dX8_upLinks_22 : decode cX8_upLinks 22 = .ok (.iload_n 2, 1) := by decide +kernel
theorem dX8_upLinks_23 : decode cX8_upLinks 23 = .ok (.ishl, 1) := by decide +kernel
theorem dX8_upLinks_24 : decode cX8_upLinks 24 = .ok (.ior, 1) := by decide +kernel
theorem dX8_upLinks_25 : decode cX8_upLinks 25 = .ok (.istore_n 1, 1) := by decide +kernel
theorem dX8_upLinks_26 : decode cX8_upLinks 26 = .ok (.iinc 2 1, 3) := by decide +kernel
theorem dX8_upLinks_29 : decode cX8_upLinks 29 = .ok (.goto (-25), 3) := by decide +kernel
theorem dX8_upLinks_32 : decode cX8_upLinks 32 = .ok (.iload_n 1, 1) := by decide +kernel
theorem dX8_upLinks_33 : decode cX8_upLinks 33 = .ok (.ireturn, 1) := by decide +kernel
theorem dX8_linksWith_0 : decode cX8_linksWith 0 = .ok (.iconst 0, 1) := by decide +kernel
theorem dX8_linksWith_1 : decode cX8_linksWith 1 = .ok (.istore_n 2, 1) := by decide +kernel
theorem dX8_linksWith_2 : decode cX8_linksWith 2 = .ok (.iconst 0, 1) := by decide +kernel
theorem dX8_linksWith_3 : decode cX8_linksWith 3 = .ok (.istore_n 3, 1) := by decide +kernel
theorem dX8_linksWith_4 : decode cX8_linksWith 4 = .ok (.iload_n 3, 1) := by decide +kernel
theorem dX8_linksWith_5 : decode cX8_linksWith 5 = .ok (.aload_n 0, 1) := by decide +kernel
theorem dX8_linksWith_6 : decode cX8_linksWith 6 = .ok (.getfield 9, 3) := by decide +kernel
theorem dX8_linksWith_9 : decode cX8_linksWith 9 = .ok (.bipush 7, 2) := by decide +kernel
theorem dX8_linksWith_11 : decode cX8_linksWith 11 = .ok (.iaload, 1) := by decide +kernel
theorem dX8_linksWith_12 : decode cX8_linksWith 12 = .ok (.if_icmp .ge 38, 3) := by decide +kernel
theorem dX8_linksWith_15 : decode cX8_linksWith 15 = .ok (.iload_n 2, 1) := by decide +kernel
theorem dX8_linksWith_16 : decode cX8_linksWith 16 = .ok (.aload_n 0, 1) := by decide +kernel
theorem dX8_linksWith_17 : decode cX8_linksWith 17 = .ok (.iload_n 3, 1) := by decide +kernel
theorem dX8_linksWith_18 : decode cX8_linksWith 18 = .ok (.iconst 5, 1) := by decide +kernel
theorem dX8_linksWith_19 : decode cX8_linksWith 19 = .ok (.invokevirtual 204, 3) := by decide +kernel
theorem dX8_linksWith_22 : decode cX8_linksWith 22 = .ok (.iconst 1, 1) := by decide +kernel
theorem dX8_linksWith_23 : decode cX8_linksWith 23 = .ok (.if_icmp .ne 18, 3) := by decide +kernel
theorem dX8_linksWith_26 : decode cX8_linksWith 26 = .ok (.aload_n 0, 1) := by decide +kernel
theorem dX8_linksWith_27 : decode cX8_linksWith 27 = .ok (.iload_n 3, 1) := by decide +kernel
theorem dX8_linksWith_28 : decode cX8_linksWith 28 = .ok (.invokevirtual 209, 3) := by decide +kernel
theorem dX8_linksWith_31 : decode cX8_linksWith 31 = .ok (.iload_n 1, 1) := by decide +kernel
theorem dX8_linksWith_32 : decode cX8_linksWith 32 = .ok (.if_icmp .lt 9, 3) := by decide +kernel
theorem dX8_linksWith_35 : decode cX8_linksWith 35 = .ok (.iconst 1, 1) := by decide +kernel
theorem dX8_linksWith_36 : decode cX8_linksWith 36 = .ok (.iload_n 3, 1) := by decide +kernel
theorem dX8_linksWith_37 : decode cX8_linksWith 37 = .ok (.ishl, 1) := by decide +kernel
theorem dX8_linksWith_38 : decode cX8_linksWith 38 = .ok (.goto 4, 3) := by decide +kernel
theorem dX8_linksWith_41 : decode cX8_linksWith 41 = .ok (.iconst 0, 1) := by decide +kernel
theorem dX8_linksWith_42 : decode cX8_linksWith 42 = .ok (.ior, 1) := by decide +kernel
theorem dX8_linksWith_43 : decode cX8_linksWith 43 = .ok (.istore_n 2, 1) := by decide +kernel
theorem dX8_linksWith_44 : decode cX8_linksWith 44 = .ok (.iinc 3 1, 3) := by decide +kernel
theorem dX8_linksWith_47 : decode cX8_linksWith 47 = .ok (.goto (-43), 3) := by decide +kernel
theorem dX8_linksWith_50 : decode cX8_linksWith 50 = .ok (.iload_n 2, 1) := by decide +kernel
theorem dX8_linksWith_51 : decode cX8_linksWith 51 = .ok (.ireturn, 1) := by decide +kernel
theorem dX8_isShorter_0 : decode cX8_isShorter 0 = .ok (.aload_n 0, 1) := by decide +kernel
theorem dX8_isShorter_1 : decode cX8_isShorter 1 = .ok (.iload_n 1, 1) := by decide +kernel
theorem dX8_isShorter_2 : decode cX8_isShorter 2 = .ok (.iconst 0, 1) := by decide +kernel
theorem dX8_isShorter_3 : decode cX8_isShorter 3 = .ok (.invokevirtual 204, 3) := by decide +kernel
theorem dX8_isShorter_6 : decode cX8_isShorter 6 = .ok (.istore_n 2, 1) := by decide +kernel
theorem dX8_isShorter_7 : decode cX8_isShorter 7 = .ok (.aload_n 0, 1) := by decide +kernel
theorem dX8_isShorter_8 : decode cX8_isShorter 8 = .ok (.iload_n 1, 1) := by decide +kernel
theorem dX8_isShorter_9 : decode cX8_isShorter 9 = .ok (.iconst 1, 1) := by decide +kernel
theorem dX8_isShorter_10 : decode cX8_isShorter 10 = .ok (.invokevirtual 204, 3) := by decide +kernel
theorem dX8_isShorter_13 : decode cX8_isShorter 13 = .ok (.istore_n 3, 1) := by decide +kernel
theorem dX8_isShorter_14 : decode cX8_isShorter 14 = .ok (.aload_n 0, 1) := by decide +kernel
theorem dX8_isShorter_15 : decode cX8_isShorter 15 = .ok (.getfield 32, 3) := by decide +kernel
theorem dX8_isShorter_18 : decode cX8_isShorter 18 = .ok (.iload_n 3, 1) := by decide +kernel
theorem dX8_isShorter_19 : decode cX8_isShorter 19 = .ok (.iaload, 1) := by decide +kernel
theorem dX8_isShorter_20 : decode cX8_isShorter 20 = .ok (.ldc 212, 2) := by decide +kernel
theorem dX8_isShorter_22 : decode cX8_isShorter 22 = .ok (.if_icmp .ne 5, 3) := by decide +kernel
theorem dX8_isShorter_25 : decode cX8_isShorter 25 = .ok (.iconst 0, 1) := by decide +kernel
theorem dX8_isShorter_26 : decode cX8_isShorter 26 = .ok (.ireturn, 1) := by decide +kernel
theorem dX8_isShorter_27 : decode cX8_isShorter 27 = .ok (.aload_n 0, 1) := by decide +kernel
theorem dX8_isShorter_28 : decode cX8_isShorter 28 = .ok (.getfield 32, 3) := by decide +kernel
theorem dX8_isShorter_31 : decode cX8_isShorter 31 = .ok (.iload_n 3, 1) := by decide +kernel
theorem dX8_isShorter_32 : decode cX8_isShorter 32 = .ok (.iaload, 1) := by decide +kernel
theorem dX8_isShorter_33 : decode cX8_isShorter 33 = .ok (.aload_n 0, 1) := by decide +kernel
theorem dX8_isShorter_34 : decode cX8_isShorter 34 = .ok (.iload_n 1, 1) := by decide +kernel
theorem dX8_isShorter_35 : decode cX8_isShorter 35 = .ok (.iconst 3, 1) := by decide +kernel
theorem dX8_isShorter_36 : decode cX8_isShorter 36 = .ok (.invokevirtual 204, 3) := by decide +kernel
theorem dX8_isShorter_39 : decode cX8_isShorter 39 = .ok (.iadd, 1) := by decide +kernel
theorem dX8_isShorter_40 : decode cX8_isShorter 40 = .ok (.istore 4, 2) := by decide +kernel
theorem dX8_isShorter_42 : decode cX8_isShorter 42 = .ok (.iload 4, 2) := by decide +kernel
theorem dX8_isShorter_44 : decode cX8_isShorter 44 = .ok (.aload_n 0, 1) := by decide +kernel
theorem dX8_isShorter_45 : decode cX8_isShorter 45 = .ok (.getfield 32, 3) := by decide +kernel
theorem dX8_isShorter_48 : decode cX8_isShorter 48 = .ok (.iload_n 2, 1) := by decide +kernel
theorem dX8_isShorter_49 : decode cX8_isShorter 49 = .ok (.iaload, 1) := by decide +kernel
theorem dX8_isShorter_50 : decode cX8_isShorter 50 = .ok (.if_icmp .lt 31, 3) := by decide +kernel
theorem dX8_isShorter_53 : decode cX8_isShorter 53 = .ok (.iload 4, 2) := by decide +kernel
theorem dX8_isShorter_55 : decode cX8_isShorter 55 = .ok (.aload_n 0, 1) := by decide +kernel
theorem dX8_isShorter_56 : decode cX8_isShorter 56 = .ok (.getfield 32, 3) := by decide +kernel
theorem dX8_isShorter_59 : decode cX8_isShorter 59 = .ok (.iload_n 2, 1) := by decide +kernel
theorem dX8_isShorter_60 : decode cX8_isShorter 60 = .ok (.iaload, 1) := by decide +kernel
theorem dX8_isShorter_61 : decode cX8_isShorter 61 = .ok (.if_icmp .ne 24, 3) := by decide +kernel
theorem dX8_isShorter_64 : decode cX8_isShorter 64 = .ok (.aload_n 0, 1) := by decide +kernel
theorem dX8_isShorter_65 : decode cX8_isShorter 65 = .ok (.getfield 35, 3) := by decide +kernel
theorem dX8_isShorter_68 : decode cX8_isShorter 68 = .ok (.iload_n 3, 1) := by decide +kernel
theorem dX8_isShorter_69 : decode cX8_isShorter 69 = .ok (.iaload, 1) := by decide +kernel
theorem dX8_isShorter_70 : decode cX8_isShorter 70 = .ok (.iconst 1, 1) := by decide +kernel
theorem dX8_isShorter_71 : decode cX8_isShorter 71 = .ok (.iadd, 1) := by decide +kernel
theorem dX8_isShorter_72 : decode cX8_isShorter 72 = .ok (.aload_n 0, 1) := by decide +kernel
theorem dX8_isShorter_73 : decode cX8_isShorter 73 = .ok (.getfield 35, 3) := by decide +kernel
theorem dX8_isShorter_76 : decode cX8_isShorter 76 = .ok (.iload_n 2, 1) := by decide +kernel
theorem dX8_isShorter_77 : decode cX8_isShorter 77 = .ok (.iaload, 1) := by decide +kernel
theorem dX8_isShorter_78 : decode cX8_isShorter 78 = .ok (.if_icmp .ge 7, 3) := by decide +kernel
theorem dX8_isShorter_81 : decode cX8_isShorter 81 = .ok (.iconst 1, 1) := by decide +kernel
theorem dX8_isShorter_82 : decode cX8_isShorter 82 = .ok (.goto 4, 3) := by decide +kernel
theorem dX8_isShorter_85 : decode cX8_isShorter 85 = .ok (.iconst 0, 1) := by decide +kernel
theorem dX8_isShorter_86 : decode cX8_isShorter 86 = .ok (.ireturn, 1) := by decide +kernel
theorem dX8_laysPrices_0 : decode cX8_laysPrices 0 = .ok (.iconst 0, 1) := by decide +kernel
theorem dX8_laysPrices_1 : decode cX8_laysPrices 1 = .ok (.istore_n 3, 1) := by decide +kernel
theorem dX8_laysPrices_2 : decode cX8_laysPrices 2 = .ok (.iload_n 3, 1) := by decide +kernel
theorem dX8_laysPrices_3 : decode cX8_laysPrices 3 = .ok (.aload_n 0, 1) := by decide +kernel
theorem dX8_laysPrices_4 : decode cX8_laysPrices 4 = .ok (.getfield 9, 3) := by decide +kernel
theorem dX8_laysPrices_7 : decode cX8_laysPrices 7 = .ok (.bipush 6, 2) := by decide +kernel
theorem dX8_laysPrices_9 : decode cX8_laysPrices 9 = .ok (.iaload, 1) := by decide +kernel
theorem dX8_laysPrices_10 : decode cX8_laysPrices 10 = .ok (.if_icmp .ge 25, 3) := by decide +kernel
theorem dX8_laysPrices_13 : decode cX8_laysPrices 13 = .ok (.aload_n 0, 1) := by decide +kernel
theorem dX8_laysPrices_14 : decode cX8_laysPrices 14 = .ok (.getfield 32, 3) := by decide +kernel
theorem dX8_laysPrices_17 : decode cX8_laysPrices 17 = .ok (.iload_n 3, 1) := by decide +kernel
theorem dX8_laysPrices_18 : decode cX8_laysPrices 18 = .ok (.ldc 212, 2) := by decide +kernel
theorem dX8_laysPrices_20 : decode cX8_laysPrices 20 = .ok (.iastore, 1) := by decide +kernel
theorem dX8_laysPrices_21 : decode cX8_laysPrices 21 = .ok (.aload_n 0, 1) := by decide +kernel
theorem dX8_laysPrices_22 : decode cX8_laysPrices 22 = .ok (.getfield 35, 3) := by decide +kernel
theorem dX8_laysPrices_25 : decode cX8_laysPrices 25 = .ok (.iload_n 3, 1) := by decide +kernel
theorem dX8_laysPrices_26 : decode cX8_laysPrices 26 = .ok (.ldc 212, 2) := by decide +kernel
theorem dX8_laysPrices_28 : decode cX8_laysPrices 28 = .ok (.iastore, 1) := by decide +kernel
theorem dX8_laysPrices_29 : decode cX8_laysPrices 29 = .ok (.iinc 3 1, 3) := by decide +kernel
theorem dX8_laysPrices_32 : decode cX8_laysPrices 32 = .ok (.goto (-30), 3) := by decide +kernel
theorem dX8_laysPrices_35 : decode cX8_laysPrices 35 = .ok (.aload_n 0, 1) := by decide +kernel
theorem dX8_laysPrices_36 : decode cX8_laysPrices 36 = .ok (.getfield 32, 3) := by decide +kernel
theorem dX8_laysPrices_39 : decode cX8_laysPrices 39 = .ok (.iload_n 1, 1) := by decide +kernel
theorem dX8_laysPrices_40 : decode cX8_laysPrices 40 = .ok (.iconst 0, 1) := by decide +kernel
theorem dX8_laysPrices_41 : decode cX8_laysPrices 41 = .ok (.iastore, 1) := by decide +kernel
theorem dX8_laysPrices_42 : decode cX8_laysPrices 42 = .ok (.aload_n 0, 1) := by decide +kernel
theorem dX8_laysPrices_43 : decode cX8_laysPrices 43 = .ok (.getfield 35, 3) := by decide +kernel
theorem dX8_laysPrices_46 : decode cX8_laysPrices 46 = .ok (.iload_n 1, 1) := by decide +kernel
theorem dX8_laysPrices_47 : decode cX8_laysPrices 47 = .ok (.iconst 0, 1) := by decide +kernel
theorem dX8_laysPrices_48 : decode cX8_laysPrices 48 = .ok (.iastore, 1) := by decide +kernel
theorem dX8_laysPrices_49 : decode cX8_laysPrices 49 = .ok (.iconst 1, 1) := by decide +kernel
theorem dX8_laysPrices_50 : decode cX8_laysPrices 50 = .ok (.istore_n 3, 1) := by decide +kernel
theorem dX8_laysPrices_51 : decode cX8_laysPrices 51 = .ok (.iload_n 3, 1) := by decide +kernel
theorem dX8_laysPrices_52 : decode cX8_laysPrices 52 = .ok (.ifCond .eq 110, 3) := by decide +kernel
theorem dX8_laysPrices_55 : decode cX8_laysPrices 55 = .ok (.iconst 0, 1) := by decide +kernel
theorem dX8_laysPrices_56 : decode cX8_laysPrices 56 = .ok (.istore_n 3, 1) := by decide +kernel
theorem dX8_laysPrices_57 : decode cX8_laysPrices 57 = .ok (.iconst 0, 1) := by decide +kernel
theorem dX8_laysPrices_58 : decode cX8_laysPrices 58 = .ok (.istore 4, 2) := by decide +kernel
theorem dX8_laysPrices_60 : decode cX8_laysPrices 60 = .ok (.iload 4, 2) := by decide +kernel
theorem dX8_laysPrices_62 : decode cX8_laysPrices 62 = .ok (.aload_n 0, 1) := by decide +kernel
theorem dX8_laysPrices_63 : decode cX8_laysPrices 63 = .ok (.getfield 9, 3) := by decide +kernel
theorem dX8_laysPrices_66 : decode cX8_laysPrices 66 = .ok (.bipush 7, 2) := by decide +kernel
theorem dX8_laysPrices_68 : decode cX8_laysPrices 68 = .ok (.iaload, 1) := by decide +kernel
theorem dX8_laysPrices_69 : decode cX8_laysPrices 69 = .ok (.if_icmp .ge 90, 3) := by decide +kernel
theorem dX8_laysPrices_72 : decode cX8_laysPrices 72 = .ok (.iload_n 2, 1) := by decide +kernel
theorem dX8_laysPrices_73 : decode cX8_laysPrices 73 = .ok (.iload 4, 2) := by decide +kernel
theorem dX8_laysPrices_75 : decode cX8_laysPrices 75 = .ok (.invokestatic 213, 3) := by decide +kernel
theorem dX8_laysPrices_78 : decode cX8_laysPrices 78 = .ok (.ifCond .eq 75, 3) := by decide +kernel
theorem dX8_laysPrices_81 : decode cX8_laysPrices 81 = .ok (.aload_n 0, 1) := by decide +kernel
theorem dX8_laysPrices_82 : decode cX8_laysPrices 82 = .ok (.iload 4, 2) := by decide +kernel
theorem dX8_laysPrices_84 : decode cX8_laysPrices 84 = .ok (.invokevirtual 216, 3) := by decide +kernel
theorem dX8_laysPrices_87 : decode cX8_laysPrices 87 = .ok (.ifCond .ne 6, 3) := by decide +kernel
theorem dX8_laysPrices_90 : decode cX8_laysPrices 90 = .ok (.goto 63, 3) := by decide +kernel
theorem dX8_laysPrices_93 : decode cX8_laysPrices 93 = .ok (.aload_n 0, 1) := by decide +kernel
theorem dX8_laysPrices_94 : decode cX8_laysPrices 94 = .ok (.getfield 32, 3) := by decide +kernel
theorem dX8_laysPrices_97 : decode cX8_laysPrices 97 = .ok (.aload_n 0, 1) := by decide +kernel
theorem dX8_laysPrices_98 : decode cX8_laysPrices 98 = .ok (.iload 4, 2) := by decide +kernel
theorem dX8_laysPrices_100 : decode cX8_laysPrices 100 = .ok (.iconst 0, 1) := by decide +kernel
theorem dX8_laysPrices_101 : decode cX8_laysPrices 101 = .ok (.invokevirtual 204, 3) := by decide +kernel
theorem dX8_laysPrices_104 : decode cX8_laysPrices 104 = .ok (.aload_n 0, 1) := by decide +kernel
theorem dX8_laysPrices_105 : decode cX8_laysPrices 105 = .ok (.getfield 32, 3) := by decide +kernel
theorem dX8_laysPrices_108 : decode cX8_laysPrices 108 = .ok (.aload_n 0, 1) := by decide +kernel
theorem dX8_laysPrices_109 : decode cX8_laysPrices 109 = .ok (.iload 4, 2) := by decide +kernel
theorem dX8_laysPrices_111 : decode cX8_laysPrices 111 = .ok (.iconst 1, 1) := by decide +kernel
theorem dX8_laysPrices_112 : decode cX8_laysPrices 112 = .ok (.invokevirtual 204, 3) := by decide +kernel
theorem dX8_laysPrices_115 : decode cX8_laysPrices 115 = .ok (.iaload, 1) := by decide +kernel
theorem dX8_laysPrices_116 : decode cX8_laysPrices 116 = .ok (.aload_n 0, 1) := by decide +kernel
theorem dX8_laysPrices_117 : decode cX8_laysPrices 117 = .ok (.iload 4, 2) := by decide +kernel
theorem dX8_laysPrices_119 : decode cX8_laysPrices 119 = .ok (.iconst 3, 1) := by decide +kernel
theorem dX8_laysPrices_120 : decode cX8_laysPrices 120 = .ok (.invokevirtual 204, 3) := by decide +kernel
theorem dX8_laysPrices_123 : decode cX8_laysPrices 123 = .ok (.iadd, 1) := by decide +kernel
theorem dX8_laysPrices_124 : decode cX8_laysPrices 124 = .ok (.iastore, 1) := by decide +kernel
theorem dX8_laysPrices_125 : decode cX8_laysPrices 125 = .ok (.aload_n 0, 1) := by decide +kernel
theorem dX8_laysPrices_126 : decode cX8_laysPrices 126 = .ok (.getfield 35, 3) := by decide +kernel
theorem dX8_laysPrices_129 : decode cX8_laysPrices 129 = .ok (.aload_n 0, 1) := by decide +kernel
theorem dX8_laysPrices_130 : decode cX8_laysPrices 130 = .ok (.iload 4, 2) := by decide +kernel
theorem dX8_laysPrices_132 : decode cX8_laysPrices 132 = .ok (.iconst 0, 1) := by decide +kernel
theorem dX8_laysPrices_133 : decode cX8_laysPrices 133 = .ok (.invokevirtual 204, 3) := by decide +kernel
theorem dX8_laysPrices_136 : decode cX8_laysPrices 136 = .ok (.aload_n 0, 1) := by decide +kernel
theorem dX8_laysPrices_137 : decode cX8_laysPrices 137 = .ok (.getfield 35, 3) := by decide +kernel
theorem dX8_laysPrices_140 : decode cX8_laysPrices 140 = .ok (.aload_n 0, 1) := by decide +kernel
theorem dX8_laysPrices_141 : decode cX8_laysPrices 141 = .ok (.iload 4, 2) := by decide +kernel
theorem dX8_laysPrices_143 : decode cX8_laysPrices 143 = .ok (.iconst 1, 1) := by decide +kernel
theorem dX8_laysPrices_144 : decode cX8_laysPrices 144 = .ok (.invokevirtual 204, 3) := by decide +kernel
theorem dX8_laysPrices_147 : decode cX8_laysPrices 147 = .ok (.iaload, 1) := by decide +kernel
theorem dX8_laysPrices_148 : decode cX8_laysPrices 148 = .ok (.iconst 1, 1) := by decide +kernel
theorem dX8_laysPrices_149 : decode cX8_laysPrices 149 = .ok (.iadd, 1) := by decide +kernel
theorem dX8_laysPrices_150 : decode cX8_laysPrices 150 = .ok (.iastore, 1) := by decide +kernel
theorem dX8_laysPrices_151 : decode cX8_laysPrices 151 = .ok (.iconst 1, 1) := by decide +kernel
theorem dX8_laysPrices_152 : decode cX8_laysPrices 152 = .ok (.istore_n 3, 1) := by decide +kernel
theorem dX8_laysPrices_153 : decode cX8_laysPrices 153 = .ok (.iinc 4 1, 3) := by decide +kernel
theorem dX8_laysPrices_156 : decode cX8_laysPrices 156 = .ok (.goto (-96), 3) := by decide +kernel
theorem dX8_laysPrices_159 : decode cX8_laysPrices 159 = .ok (.goto (-108), 3) := by decide +kernel
theorem dX8_laysPrices_162 : decode cX8_laysPrices 162 = .ok (.return_, 1) := by decide +kernel
theorem dX8_isOn_0 : decode cX8_isOn 0 = .ok (.aload_n 0, 1) := by decide +kernel
theorem dX8_isOn_1 : decode cX8_isOn 1 = .ok (.iload_n 1, 1) := by decide +kernel
theorem dX8_isOn_2 : decode cX8_isOn 2 = .ok (.iconst 1, 1) := by decide +kernel
theorem dX8_isOn_3 : decode cX8_isOn 3 = .ok (.invokevirtual 204, 3) := by decide +kernel
theorem dX8_isOn_6 : decode cX8_isOn 6 = .ok (.istore_n 3, 1) := by decide +kernel
theorem dX8_isOn_7 : decode cX8_isOn 7 = .ok (.aload_n 0, 1) := by decide +kernel
theorem dX8_isOn_8 : decode cX8_isOn 8 = .ok (.iload_n 1, 1) := by decide +kernel
theorem dX8_isOn_9 : decode cX8_isOn 9 = .ok (.iconst 0, 1) := by decide +kernel
theorem dX8_isOn_10 : decode cX8_isOn 10 = .ok (.invokevirtual 204, 3) := by decide +kernel
theorem dX8_isOn_13 : decode cX8_isOn 13 = .ok (.iload_n 2, 1) := by decide +kernel
theorem dX8_isOn_14 : decode cX8_isOn 14 = .ok (.if_icmp .ne 57, 3) := by decide +kernel
theorem dX8_isOn_17 : decode cX8_isOn 17 = .ok (.aload_n 0, 1) := by decide +kernel
theorem dX8_isOn_18 : decode cX8_isOn 18 = .ok (.getfield 32, 3) := by decide +kernel
theorem dX8_isOn_21 : decode cX8_isOn 21 = .ok (.iload_n 3, 1) := by decide +kernel
theorem dX8_isOn_22 : decode cX8_isOn 22 = .ok (.iaload, 1) := by decide +kernel
theorem dX8_isOn_23 : decode cX8_isOn 23 = .ok (.ldc 212, 2) := by decide +kernel
theorem dX8_isOn_25 : decode cX8_isOn 25 = .ok (.if_icmp .eq 46, 3) := by decide +kernel
theorem dX8_isOn_28 : decode cX8_isOn 28 = .ok (.aload_n 0, 1) := by decide +kernel
theorem dX8_isOn_29 : decode cX8_isOn 29 = .ok (.getfield 32, 3) := by decide +kernel
theorem dX8_isOn_32 : decode cX8_isOn 32 = .ok (.iload_n 3, 1) := by decide +kernel
theorem dX8_isOn_33 : decode cX8_isOn 33 = .ok (.iaload, 1) := by decide +kernel
theorem dX8_isOn_34 : decode cX8_isOn 34 = .ok (.aload_n 0, 1) := by decide +kernel
theorem dX8_isOn_35 : decode cX8_isOn 35 = .ok (.iload_n 1, 1) := by decide +kernel
theorem dX8_isOn_36 : decode cX8_isOn 36 = .ok (.iconst 3, 1) := by decide +kernel
theorem dX8_isOn_37 : decode cX8_isOn 37 = .ok (.invokevirtual 204, 3) := by decide +kernel
theorem dX8_isOn_40 : decode cX8_isOn 40 = .ok (.iadd, 1) := by decide +kernel
theorem dX8_isOn_41 : decode cX8_isOn 41 = .ok (.aload_n 0, 1) := by decide +kernel
theorem dX8_isOn_42 : decode cX8_isOn 42 = .ok (.getfield 32, 3) := by decide +kernel
theorem dX8_isOn_45 : decode cX8_isOn 45 = .ok (.iload_n 2, 1) := by decide +kernel
theorem dX8_isOn_46 : decode cX8_isOn 46 = .ok (.iaload, 1) := by decide +kernel
theorem dX8_isOn_47 : decode cX8_isOn 47 = .ok (.if_icmp .ne 24, 3) := by decide +kernel
theorem dX8_isOn_50 : decode cX8_isOn 50 = .ok (.aload_n 0, 1) := by decide +kernel
theorem dX8_isOn_51 : decode cX8_isOn 51 = .ok (.getfield 35, 3) := by decide +kernel
theorem dX8_isOn_54 : decode cX8_isOn 54 = .ok (.iload_n 3, 1) := by decide +kernel
theorem dX8_isOn_55 : decode cX8_isOn 55 = .ok (.iaload, 1) := by decide +kernel
theorem dX8_isOn_56 : decode cX8_isOn 56 = .ok (.iconst 1, 1) := by decide +kernel
theorem dX8_isOn_57 : decode cX8_isOn 57 = .ok (.iadd, 1) := by decide +kernel
theorem dX8_isOn_58 : decode cX8_isOn 58 = .ok (.aload_n 0, 1) := by decide +kernel
theorem dX8_isOn_59 : decode cX8_isOn 59 = .ok (.getfield 35, 3) := by decide +kernel
theorem dX8_isOn_62 : decode cX8_isOn 62 = .ok (.iload_n 2, 1) := by decide +kernel
theorem dX8_isOn_63 : decode cX8_isOn 63 = .ok (.iaload, 1) := by decide +kernel
theorem dX8_isOn_64 : decode cX8_isOn 64 = .ok (.if_icmp .ne 7, 3) := by decide +kernel
theorem dX8_isOn_67 : decode cX8_isOn 67 = .ok (.iconst 1, 1) := by decide +kernel
theorem dX8_isOn_68 : decode cX8_isOn 68 = .ok (.goto 4, 3) := by decide +kernel
theorem dX8_isOn_71 : decode cX8_isOn 71 = .ok (.iconst 0, 1) := by decide +kernel
theorem dX8_isOn_72 : decode cX8_isOn 72 = .ok (.ireturn, 1) := by decide +kernel
theorem dX8_finds_0 : decode cX8_finds 0 = .ok (.aload_n 0, 1) := by decide +kernel
theorem dX8_finds_1 : decode cX8_finds 1 = .ok (.iload_n 2, 1) := by decide +kernel
theorem dX8_finds_2 : decode cX8_finds 2 = .ok (.iload_n 3, 1) := by decide +kernel
theorem dX8_finds_3 : decode cX8_finds 3 = .ok (.invokevirtual 219, 3) := by decide +kernel
theorem dX8_finds_6 : decode cX8_finds 6 = .ok (.aload_n 0, 1) := by decide +kernel
theorem dX8_finds_7 : decode cX8_finds 7 = .ok (.iconst 0, 1) := by decide +kernel
theorem dX8_finds_8 : decode cX8_finds 8 = .ok (.putfield 223, 3) := by decide +kernel
theorem dX8_finds_11 : decode cX8_finds 11 = .ok (.aload_n 0, 1) := by decide +kernel
theorem dX8_finds_12 : decode cX8_finds 12 = .ok (.getfield 32, 3) := by decide +kernel
theorem dX8_finds_15 : decode cX8_finds 15 = .ok (.iload_n 1, 1) := by decide +kernel
theorem dX8_finds_16 : decode cX8_finds 16 = .ok (.iaload, 1) := by decide +kernel
theorem dX8_finds_17 : decode cX8_finds 17 = .ok (.ldc 212, 2) := by decide +kernel
theorem dX8_finds_19 : decode cX8_finds 19 = .ok (.if_icmp .ne 5, 3) := by decide +kernel
theorem dX8_finds_22 : decode cX8_finds 22 = .ok (.iconst 0, 1) := by decide +kernel
theorem dX8_finds_23 : decode cX8_finds 23 = .ok (.ireturn, 1) := by decide +kernel
theorem dX8_finds_24 : decode cX8_finds 24 = .ok (.iload_n 1, 1) := by decide +kernel
theorem dX8_finds_25 : decode cX8_finds 25 = .ok (.istore 4, 2) := by decide +kernel
theorem dX8_finds_27 : decode cX8_finds 27 = .ok (.iload 4, 2) := by decide +kernel
theorem dX8_finds_29 : decode cX8_finds 29 = .ok (.iload_n 2, 1) := by decide +kernel
theorem dX8_finds_30 : decode cX8_finds 30 = .ok (.if_icmp .eq 65, 3) := by decide +kernel
theorem dX8_finds_33 : decode cX8_finds 33 = .ok (.iconst 0, 1) := by decide +kernel
theorem dX8_finds_34 : decode cX8_finds 34 = .ok (.istore 5, 2) := by decide +kernel
theorem dX8_finds_36 : decode cX8_finds 36 = .ok (.iload_n 3, 1) := by decide +kernel
theorem dX8_finds_37 : decode cX8_finds 37 = .ok (.iload 5, 2) := by decide +kernel
theorem dX8_finds_39 : decode cX8_finds 39 = .ok (.invokestatic 213, 3) := by decide +kernel
theorem dX8_finds_42 : decode cX8_finds 42 = .ok (.ifCond .eq 14, 3) := by decide +kernel
theorem dX8_finds_45 : decode cX8_finds 45 = .ok (.aload_n 0, 1) := by decide +kernel
theorem dX8_finds_46 : decode cX8_finds 46 = .ok (.iload 5, 2) := by decide +kernel
theorem dX8_finds_48 : decode cX8_finds 48 = .ok (.iload 4, 2) := by decide +kernel
theorem dX8_finds_50 : decode cX8_finds 50 = .ok (.invokevirtual 226, 3) := by decide +kernel
theorem dX8_finds_53 : decode cX8_finds 53 = .ok (.ifCond .ne 9, 3) := by decide +kernel
theorem dX8_finds_56 : decode cX8_finds 56 = .ok (.iinc 5 1, 3) := by decide +kernel
theorem dX8_finds_59 : decode cX8_finds 59 = .ok (.goto (-23), 3) := by decide +kernel
theorem dX8_finds_62 : decode cX8_finds 62 = .ok (.aload_n 0, 1) := by decide +kernel
theorem dX8_finds_63 : decode cX8_finds 63 = .ok (.getfield 38, 3) := by decide +kernel
theorem dX8_finds_66 : decode cX8_finds 66 = .ok (.aload_n 0, 1) := by decide +kernel
theorem dX8_finds_67 : decode cX8_finds 67 = .ok (.getfield 223, 3) := by decide +kernel
theorem dX8_finds_70 : decode cX8_finds 70 = .ok (.iload 5, 2) := by decide +kernel
theorem dX8_finds_72 : decode cX8_finds 72 = .ok (.iastore, 1) := by decide +kernel
theorem dX8_finds_73 : decode cX8_finds 73 = .ok (.aload_n 0, 1) := by decide +kernel
theorem dX8_finds_74 : decode cX8_finds 74 = .ok (.dup, 1) := by decide +kernel
theorem dX8_finds_75 : decode cX8_finds 75 = .ok (.getfield 223, 3) := by decide +kernel
theorem dX8_finds_78 : decode cX8_finds 78 = .ok (.iconst 1, 1) := by decide +kernel
theorem dX8_finds_79 : decode cX8_finds 79 = .ok (.iadd, 1) := by decide +kernel
theorem dX8_finds_80 : decode cX8_finds 80 = .ok (.putfield 223, 3) := by decide +kernel
theorem dX8_finds_83 : decode cX8_finds 83 = .ok (.aload_n 0, 1) := by decide +kernel
theorem dX8_finds_84 : decode cX8_finds 84 = .ok (.iload 5, 2) := by decide +kernel
theorem dX8_finds_86 : decode cX8_finds 86 = .ok (.iconst 1, 1) := by decide +kernel
theorem dX8_finds_87 : decode cX8_finds 87 = .ok (.invokevirtual 204, 3) := by decide +kernel
theorem dX8_finds_90 : decode cX8_finds 90 = .ok (.istore 4, 2) := by decide +kernel
theorem dX8_finds_92 : decode cX8_finds 92 = .ok (.goto (-65), 3) := by decide +kernel
theorem dX8_finds_95 : decode cX8_finds 95 = .ok (.iconst 1, 1) := by decide +kernel
theorem dX8_finds_96 : decode cX8_finds 96 = .ok (.ireturn, 1) := by decide +kernel
theorem dX8_attempts_0 : decode cX8_attempts 0 = .ok (.aload_n 0, 1) := by decide +kernel
theorem dX8_attempts_1 : decode cX8_attempts 1 = .ok (.aload_n 0, 1) := by decide +kernel
theorem dX8_attempts_2 : decode cX8_attempts 2 = .ok (.iload_n 1, 1) := by decide +kernel
theorem dX8_attempts_3 : decode cX8_attempts 3 = .ok (.iconst 0, 1) := by decide +kernel
theorem dX8_attempts_4 : decode cX8_attempts 4 = .ok (.invokevirtual 229, 3) := by decide +kernel
theorem dX8_attempts_7 : decode cX8_attempts 7 = .ok (.aload_n 0, 1) := by decide +kernel
theorem dX8_attempts_8 : decode cX8_attempts 8 = .ok (.iload_n 1, 1) := by decide +kernel
theorem dX8_attempts_9 : decode cX8_attempts 9 = .ok (.iconst 1, 1) := by decide +kernel
theorem dX8_attempts_10 : decode cX8_attempts 10 = .ok (.invokevirtual 229, 3) := by decide +kernel
theorem dX8_attempts_13 : decode cX8_attempts 13 = .ok (.aload_n 0, 1) := by decide +kernel
theorem dX8_attempts_14 : decode cX8_attempts 14 = .ok (.invokevirtual 232, 3) := by decide +kernel
theorem dX8_attempts_17 : decode cX8_attempts 17 = .ok (.aload_n 0, 1) := by decide +kernel
theorem dX8_attempts_18 : decode cX8_attempts 18 = .ok (.iload_n 1, 1) := by decide +kernel
theorem dX8_attempts_19 : decode cX8_attempts 19 = .ok (.bipush 9, 2) := by decide +kernel
theorem dX8_attempts_21 : decode cX8_attempts 21 = .ok (.invokevirtual 229, 3) := by decide +kernel
theorem dX8_attempts_24 : decode cX8_attempts 24 = .ok (.iconst (-1), 1) := by decide +kernel
theorem dX8_attempts_25 : decode cX8_attempts 25 = .ok (.ixor, 1) := by decide +kernel
theorem dX8_attempts_26 : decode cX8_attempts 26 = .ok (.iand, 1) := by decide +kernel
theorem dX8_attempts_27 : decode cX8_attempts 27 = .ok (.invokevirtual 235, 3) := by decide +kernel
theorem dX8_attempts_30 : decode cX8_attempts 30 = .ok (.ifCond .ne 19, 3) := by decide +kernel
theorem dX8_attempts_33 : decode cX8_attempts 33 = .ok (.aload_n 0, 1) := by decide +kernel
theorem dX8_attempts_34 : decode cX8_attempts 34 = .ok (.iload_n 1, 1) := by decide +kernel
theorem dX8_attempts_35 : decode cX8_attempts 35 = .ok (.iconst 4, 1) := by decide +kernel
theorem dX8_attempts_36 : decode cX8_attempts 36 = .ok (.iconst 4, 1) := by decide +kernel
theorem dX8_attempts_37 : decode cX8_attempts 37 = .ok (.invokevirtual 238, 3) := by decide +kernel
theorem dX8_attempts_40 : decode cX8_attempts 40 = .ok (.aload_n 0, 1) := by decide +kernel
theorem dX8_attempts_41 : decode cX8_attempts 41 = .ok (.iload_n 1, 1) := by decide +kernel
theorem dX8_attempts_42 : decode cX8_attempts 42 = .ok (.bipush 6, 2) := by decide +kernel
theorem dX8_attempts_44 : decode cX8_attempts 44 = .ok (.iconst (-1), 1) := by decide +kernel
theorem dX8_attempts_45 : decode cX8_attempts 45 = .ok (.invokevirtual 238, 3) := by decide +kernel
theorem dX8_attempts_48 : decode cX8_attempts 48 = .ok (.return_, 1) := by decide +kernel
theorem dX8_attempts_49 : decode cX8_attempts 49 = .ok (.aload_n 0, 1) := by decide +kernel
theorem dX8_attempts_50 : decode cX8_attempts 50 = .ok (.iload_n 1, 1) := by decide +kernel
theorem dX8_attempts_51 : decode cX8_attempts 51 = .ok (.bipush 13, 2) := by decide +kernel
theorem dX8_attempts_53 : decode cX8_attempts 53 = .ok (.aload_n 0, 1) := by decide +kernel
theorem dX8_attempts_54 : decode cX8_attempts 54 = .ok (.getfield 223, 3) := by decide +kernel
theorem dX8_attempts_57 : decode cX8_attempts 57 = .ok (.invokevirtual 238, 3) := by decide +kernel
theorem dX8_attempts_60 : decode cX8_attempts 60 = .ok (.iconst 0, 1) := by decide +kernel
theorem dX8_attempts_61 : decode cX8_attempts 61 = .ok (.istore_n 2, 1) := by decide +kernel
theorem dX8_attempts_62 : decode cX8_attempts 62 = .ok (.iload_n 2, 1) := by decide +kernel
theorem dX8_attempts_63 : decode cX8_attempts 63 = .ok (.aload_n 0, 1) := by decide +kernel
theorem dX8_attempts_64 : decode cX8_attempts 64 = .ok (.getfield 223, 3) := by decide +kernel
theorem dX8_attempts_67 : decode cX8_attempts 67 = .ok (.if_icmp .ge 24, 3) := by decide +kernel
theorem dX8_attempts_70 : decode cX8_attempts 70 = .ok (.aload_n 0, 1) := by decide +kernel
theorem dX8_attempts_71 : decode cX8_attempts 71 = .ok (.iload_n 1, 1) := by decide +kernel
theorem dX8_attempts_72 : decode cX8_attempts 72 = .ok (.bipush 15, 2) := by decide +kernel
theorem dX8_attempts_74 : decode cX8_attempts 74 = .ok (.iload_n 2, 1) := by decide +kernel
theorem dX8_attempts_75 : decode cX8_attempts 75 = .ok (.iadd, 1) := by decide +kernel
theorem dX8_attempts_76 : decode cX8_attempts 76 = .ok (.aload_n 0, 1) := by decide +kernel
theorem dX8_attempts_77 : decode cX8_attempts 77 = .ok (.getfield 38, 3) := by decide +kernel
theorem dX8_attempts_80 : decode cX8_attempts 80 = .ok (.iload_n 2, 1) := by decide +kernel
theorem dX8_attempts_81 : decode cX8_attempts 81 = .ok (.iaload, 1) := by decide +kernel
theorem dX8_attempts_82 : decode cX8_attempts 82 = .ok (.invokevirtual 238, 3) := by decide +kernel
theorem dX8_attempts_85 : decode cX8_attempts 85 = .ok (.iinc 2 1, 3) := by decide +kernel
theorem dX8_attempts_88 : decode cX8_attempts 88 = .ok (.goto (-26), 3) := by decide +kernel
theorem dX8_attempts_91 : decode cX8_attempts 91 = .ok (.aload_n 0, 1) := by decide +kernel
theorem dX8_attempts_92 : decode cX8_attempts 92 = .ok (.iload_n 1, 1) := by decide +kernel
theorem dX8_attempts_93 : decode cX8_attempts 93 = .ok (.iconst 4, 1) := by decide +kernel
theorem dX8_attempts_94 : decode cX8_attempts 94 = .ok (.iconst 0, 1) := by decide +kernel
theorem dX8_attempts_95 : decode cX8_attempts 95 = .ok (.invokevirtual 238, 3) := by decide +kernel
theorem dX8_attempts_98 : decode cX8_attempts 98 = .ok (.aload_n 0, 1) := by decide +kernel
theorem dX8_attempts_99 : decode cX8_attempts 99 = .ok (.iload_n 1, 1) := by decide +kernel
theorem dX8_attempts_100 : decode cX8_attempts 100 = .ok (.bipush 14, 2) := by decide +kernel
theorem dX8_attempts_102 : decode cX8_attempts 102 = .ok (.iconst 0, 1) := by decide +kernel
theorem dX8_attempts_103 : decode cX8_attempts 103 = .ok (.invokevirtual 238, 3) := by decide +kernel
theorem dX8_attempts_106 : decode cX8_attempts 106 = .ok (.aload_n 0, 1) := by decide +kernel
theorem dX8_attempts_107 : decode cX8_attempts 107 = .ok (.iload_n 1, 1) := by decide +kernel
theorem dX8_attempts_108 : decode cX8_attempts 108 = .ok (.bipush 6, 2) := by decide +kernel
theorem dX8_attempts_110 : decode cX8_attempts 110 = .ok (.aload_n 0, 1) := by decide +kernel
theorem dX8_attempts_111 : decode cX8_attempts 111 = .ok (.getfield 9, 3) := by decide +kernel
theorem dX8_attempts_114 : decode cX8_attempts 114 = .ok (.iconst 0, 1) := by decide +kernel
theorem dX8_attempts_115 : decode cX8_attempts 115 = .ok (.iaload, 1) := by decide +kernel
theorem dX8_attempts_116 : decode cX8_attempts 116 = .ok (.invokevirtual 238, 3) := by decide +kernel
theorem dX8_attempts_119 : decode cX8_attempts 119 = .ok (.return_, 1) := by decide +kernel
theorem dX8_issues_0 : decode cX8_issues 0 = .ok (.aload_n 0, 1) := by decide +kernel
theorem dX8_issues_1 : decode cX8_issues 1 = .ok (.getfield 9, 3) := by decide +kernel
theorem dX8_issues_4 : decode cX8_issues 4 = .ok (.bipush 9, 2) := by decide +kernel
theorem dX8_issues_6 : decode cX8_issues 6 = .ok (.iaload, 1) := by decide +kernel
theorem dX8_issues_7 : decode cX8_issues 7 = .ok (.istore_n 3, 1) := by decide +kernel
theorem dX8_issues_8 : decode cX8_issues 8 = .ok (.aload_n 0, 1) := by decide +kernel
theorem dX8_issues_9 : decode cX8_issues 9 = .ok (.iload_n 2, 1) := by decide +kernel
theorem dX8_issues_10 : decode cX8_issues 10 = .ok (.iconst 3, 1) := by decide +kernel
theorem dX8_issues_11 : decode cX8_issues 11 = .ok (.invokevirtual 204, 3) := by decide +kernel
theorem dX8_issues_14 : decode cX8_issues 14 = .ok (.aload_n 0, 1) := by decide +kernel
theorem dX8_issues_15 : decode cX8_issues 15 = .ok (.iload_n 1, 1) := by decide +kernel
theorem dX8_issues_16 : decode cX8_issues 16 = .ok (.iconst 2, 1) := by decide +kernel
theorem dX8_issues_17 : decode cX8_issues 17 = .ok (.invokevirtual 229, 3) := by decide +kernel
theorem dX8_issues_20 : decode cX8_issues 20 = .ok (.imul, 1) := by decide +kernel
theorem dX8_issues_21 : decode cX8_issues 21 = .ok (.istore 4, 2) := by decide +kernel
theorem dX8_issues_23 : decode cX8_issues 23 = .ok (.aload_n 0, 1) := by decide +kernel
theorem dX8_issues_24 : decode cX8_issues 24 = .ok (.iload_n 3, 1) := by decide +kernel
theorem dX8_issues_25 : decode cX8_issues 25 = .ok (.iconst 0, 1) := by decide +kernel
theorem dX8_issues_26 : decode cX8_issues 26 = .ok (.iload_n 1, 1) := by decide +kernel
theorem dX8_issues_27 : decode cX8_issues 27 = .ok (.invokevirtual 242, 3) := by decide +kernel
theorem dX8_issues_30 : decode cX8_issues 30 = .ok (.aload_n 0, 1) := by decide +kernel
theorem dX8_issues_31 : decode cX8_issues 31 = .ok (.iload_n 3, 1) := by decide +kernel
theorem dX8_issues_32 : decode cX8_issues 32 = .ok (.iconst 1, 1) := by decide +kernel
theorem dX8_issues_33 : decode cX8_issues 33 = .ok (.iload_n 2, 1) := by decide +kernel
theorem dX8_issues_34 : decode cX8_issues 34 = .ok (.invokevirtual 242, 3) := by decide +kernel
theorem dX8_issues_37 : decode cX8_issues 37 = .ok (.aload_n 0, 1) := by decide +kernel
theorem dX8_issues_38 : decode cX8_issues 38 = .ok (.iload_n 3, 1) := by decide +kernel
theorem dX8_issues_39 : decode cX8_issues 39 = .ok (.iconst 2, 1) := by decide +kernel
theorem dX8_issues_40 : decode cX8_issues 40 = .ok (.aload_n 0, 1) := by decide +kernel
theorem dX8_issues_41 : decode cX8_issues 41 = .ok (.iload_n 1, 1) := by decide +kernel
theorem dX8_issues_42 : decode cX8_issues 42 = .ok (.iconst 2, 1) := by decide +kernel
theorem dX8_issues_43 : decode cX8_issues 43 = .ok (.invokevirtual 229, 3) := by decide +kernel
theorem dX8_issues_46 : decode cX8_issues 46 = .ok (.invokevirtual 242, 3) := by decide +kernel
theorem dX8_issues_49 : decode cX8_issues 49 = .ok (.aload_n 0, 1) := by decide +kernel
theorem dX8_issues_50 : decode cX8_issues 50 = .ok (.iload_n 3, 1) := by decide +kernel
theorem dX8_issues_51 : decode cX8_issues 51 = .ok (.iconst 3, 1) := by decide +kernel
theorem dX8_issues_52 : decode cX8_issues 52 = .ok (.aload_n 0, 1) := by decide +kernel
theorem dX8_issues_53 : decode cX8_issues 53 = .ok (.getfield 9, 3) := by decide +kernel
theorem dX8_issues_56 : decode cX8_issues 56 = .ok (.iconst 0, 1) := by decide +kernel
theorem dX8_issues_57 : decode cX8_issues 57 = .ok (.iaload, 1) := by decide +kernel
theorem dX8_issues_58 : decode cX8_issues 58 = .ok (.invokevirtual 242, 3) := by decide +kernel
theorem dX8_issues_61 : decode cX8_issues 61 = .ok (.aload_n 0, 1) := by decide +kernel
theorem dX8_issues_62 : decode cX8_issues 62 = .ok (.iload_n 3, 1) := by decide +kernel
theorem dX8_issues_63 : decode cX8_issues 63 = .ok (.iconst 4, 1) := by decide +kernel
theorem dX8_issues_64 : decode cX8_issues 64 = .ok (.aload_n 0, 1) := by decide +kernel
theorem dX8_issues_65 : decode cX8_issues 65 = .ok (.getfield 9, 3) := by decide +kernel
theorem dX8_issues_68 : decode cX8_issues 68 = .ok (.iconst 0, 1) := by decide +kernel
theorem dX8_issues_69 : decode cX8_issues 69 = .ok (.iaload, 1) := by decide +kernel
theorem dX8_issues_70 : decode cX8_issues 70 = .ok (.aload_n 0, 1) := by decide +kernel
theorem dX8_issues_71 : decode cX8_issues 71 = .ok (.getfield 9, 3) := by decide +kernel
theorem dX8_issues_74 : decode cX8_issues 74 = .ok (.iconst 1, 1) := by decide +kernel
theorem dX8_issues_75 : decode cX8_issues 75 = .ok (.iaload, 1) := by decide +kernel
theorem dX8_issues_76 : decode cX8_issues 76 = .ok (.iadd, 1) := by decide +kernel
theorem dX8_issues_77 : decode cX8_issues 77 = .ok (.invokevirtual 242, 3) := by decide +kernel
theorem dX8_issues_80 : decode cX8_issues 80 = .ok (.aload_n 0, 1) := by decide +kernel
theorem dX8_issues_81 : decode cX8_issues 81 = .ok (.iload_n 3, 1) := by decide +kernel
theorem dX8_issues_82 : decode cX8_issues 82 = .ok (.iconst 5, 1) := by decide +kernel
theorem dX8_issues_83 : decode cX8_issues 83 = .ok (.iconst 0, 1) := by decide +kernel
theorem dX8_issues_84 : decode cX8_issues 84 = .ok (.invokevirtual 242, 3) := by decide +kernel
theorem dX8_issues_87 : decode cX8_issues 87 = .ok (.aload_n 0, 1) := by decide +kernel
theorem dX8_issues_88 : decode cX8_issues 88 = .ok (.iload_n 3, 1) := by decide +kernel
theorem dX8_issues_89 : decode cX8_issues 89 = .ok (.bipush 6, 2) := by decide +kernel
theorem dX8_issues_91 : decode cX8_issues 91 = .ok (.iload 4, 2) := by decide +kernel
theorem dX8_issues_93 : decode cX8_issues 93 = .ok (.invokevirtual 242, 3) := by decide +kernel
theorem dX8_issues_96 : decode cX8_issues 96 = .ok (.aload_n 0, 1) := by decide +kernel
theorem dX8_issues_97 : decode cX8_issues 97 = .ok (.iload_n 3, 1) := by decide +kernel
theorem dX8_issues_98 : decode cX8_issues 98 = .ok (.bipush 7, 2) := by decide +kernel
theorem dX8_issues_100 : decode cX8_issues 100 = .ok (.iconst 0, 1) := by decide +kernel
theorem dX8_issues_101 : decode cX8_issues 101 = .ok (.invokevirtual 242, 3) := by decide +kernel
theorem dX8_issues_104 : decode cX8_issues 104 = .ok (.aload_n 0, 1) := by decide +kernel
theorem dX8_issues_105 : decode cX8_issues 105 = .ok (.iload_n 1, 1) := by decide +kernel
theorem dX8_issues_106 : decode cX8_issues 106 = .ok (.bipush 7, 2) := by decide +kernel
theorem dX8_issues_108 : decode cX8_issues 108 = .ok (.aload_n 0, 1) := by decide +kernel
theorem dX8_issues_109 : decode cX8_issues 109 = .ok (.iload_n 1, 1) := by decide +kernel
theorem dX8_issues_110 : decode cX8_issues 110 = .ok (.bipush 7, 2) := by decide +kernel
theorem dX8_issues_112 : decode cX8_issues 112 = .ok (.invokevirtual 229, 3) := by decide +kernel
theorem dX8_issues_115 : decode cX8_issues 115 = .ok (.iload 4, 2) := by decide +kernel
theorem dX8_issues_117 : decode cX8_issues 117 = .ok (.iadd, 1) := by decide +kernel
theorem dX8_issues_118 : decode cX8_issues 118 = .ok (.invokevirtual 238, 3) := by decide +kernel
theorem dX8_issues_121 : decode cX8_issues 121 = .ok (.aload_n 0, 1) := by decide +kernel
theorem dX8_issues_122 : decode cX8_issues 122 = .ok (.getfield 9, 3) := by decide +kernel
theorem dX8_issues_125 : decode cX8_issues 125 = .ok (.bipush 9, 2) := by decide +kernel
theorem dX8_issues_127 : decode cX8_issues 127 = .ok (.dup2, 1) := by decide +kernel
theorem dX8_issues_128 : decode cX8_issues 128 = .ok (.iaload, 1) := by decide +kernel
theorem dX8_issues_129 : decode cX8_issues 129 = .ok (.iconst 1, 1) := by decide +kernel
theorem dX8_issues_130 : decode cX8_issues 130 = .ok (.iadd, 1) := by decide +kernel
theorem dX8_issues_131 : decode cX8_issues 131 = .ok (.iastore, 1) := by decide +kernel
theorem dX8_issues_132 : decode cX8_issues 132 = .ok (.return_, 1) := by decide +kernel
theorem dX8_givesBack_0 : decode cX8_givesBack 0 = .ok (.aload_n 0, 1) := by decide +kernel
theorem dX8_givesBack_1 : decode cX8_givesBack 1 = .ok (.iload_n 1, 1) := by decide +kernel
theorem dX8_givesBack_2 : decode cX8_givesBack 2 = .ok (.iconst 0, 1) := by decide +kernel
theorem dX8_givesBack_3 : decode cX8_givesBack 3 = .ok (.invokevirtual 197, 3) := by decide +kernel
theorem dX8_givesBack_6 : decode cX8_givesBack 6 = .ok (.istore_n 3, 1) := by decide +kernel
theorem dX8_givesBack_7 : decode cX8_givesBack 7 = .ok (.aload_n 0, 1) := by decide +kernel
theorem dX8_givesBack_8 : decode cX8_givesBack 8 = .ok (.iload_n 1, 1) := by decide +kernel
theorem dX8_givesBack_9 : decode cX8_givesBack 9 = .ok (.bipush 7, 2) := by decide +kernel
theorem dX8_givesBack_11 : decode cX8_givesBack 11 = .ok (.aload_n 0, 1) := by decide +kernel
theorem dX8_givesBack_12 : decode cX8_givesBack 12 = .ok (.iload_n 1, 1) := by decide +kernel
theorem dX8_givesBack_13 : decode cX8_givesBack 13 = .ok (.bipush 7, 2) := by decide +kernel
theorem dX8_givesBack_15 : decode cX8_givesBack 15 = .ok (.invokevirtual 197, 3) := by decide +kernel
theorem dX8_givesBack_18 : decode cX8_givesBack 18 = .ok (.iload_n 2, 1) := by decide +kernel
theorem dX8_givesBack_19 : decode cX8_givesBack 19 = .ok (.iadd, 1) := by decide +kernel
theorem dX8_givesBack_20 : decode cX8_givesBack 20 = .ok (.invokevirtual 242, 3) := by decide +kernel
theorem dX8_givesBack_23 : decode cX8_givesBack 23 = .ok (.aload_n 0, 1) := by decide +kernel
theorem dX8_givesBack_24 : decode cX8_givesBack 24 = .ok (.iload_n 3, 1) := by decide +kernel
theorem dX8_givesBack_25 : decode cX8_givesBack 25 = .ok (.bipush 8, 2) := by decide +kernel
theorem dX8_givesBack_27 : decode cX8_givesBack 27 = .ok (.aload_n 0, 1) := by decide +kernel
theorem dX8_givesBack_28 : decode cX8_givesBack 28 = .ok (.iload_n 3, 1) := by decide +kernel
theorem dX8_givesBack_29 : decode cX8_givesBack 29 = .ok (.bipush 8, 2) := by decide +kernel
theorem dX8_givesBack_31 : decode cX8_givesBack 31 = .ok (.invokevirtual 229, 3) := by decide +kernel
theorem dX8_givesBack_34 : decode cX8_givesBack 34 = .ok (.iload_n 2, 1) := by decide +kernel
theorem dX8_givesBack_35 : decode cX8_givesBack 35 = .ok (.iadd, 1) := by decide +kernel
theorem dX8_givesBack_36 : decode cX8_givesBack 36 = .ok (.invokevirtual 238, 3) := by decide +kernel
theorem dX8_givesBack_39 : decode cX8_givesBack 39 = .ok (.return_, 1) := by decide +kernel
theorem dX8_goesOver_0 : decode cX8_goesOver 0 = .ok (.aload_n 0, 1) := by decide +kernel
theorem dX8_goesOver_1 : decode cX8_goesOver 1 = .ok (.iload_n 1, 1) := by decide +kernel
theorem dX8_goesOver_2 : decode cX8_goesOver 2 = .ok (.bipush 14, 2) := by decide +kernel
theorem dX8_goesOver_4 : decode cX8_goesOver 4 = .ok (.iload_n 2, 1) := by decide +kernel
theorem dX8_goesOver_5 : decode cX8_goesOver 5 = .ok (.invokevirtual 238, 3) := by decide +kernel
theorem dX8_goesOver_8 : decode cX8_goesOver 8 = .ok (.aload_n 0, 1) := by decide +kernel
theorem dX8_goesOver_9 : decode cX8_goesOver 9 = .ok (.iload_n 1, 1) := by decide +kernel
theorem dX8_goesOver_10 : decode cX8_goesOver 10 = .ok (.bipush 6, 2) := by decide +kernel
theorem dX8_goesOver_12 : decode cX8_goesOver 12 = .ok (.aload_n 0, 1) := by decide +kernel
theorem dX8_goesOver_13 : decode cX8_goesOver 13 = .ok (.getfield 9, 3) := by decide +kernel
theorem dX8_goesOver_16 : decode cX8_goesOver 16 = .ok (.iconst 0, 1) := by decide +kernel
theorem dX8_goesOver_17 : decode cX8_goesOver 17 = .ok (.iaload, 1) := by decide +kernel
theorem dX8_goesOver_18 : decode cX8_goesOver 18 = .ok (.aload_n 0, 1) := by decide +kernel
theorem dX8_goesOver_19 : decode cX8_goesOver 19 = .ok (.iload_n 3, 1) := by decide +kernel
theorem dX8_goesOver_20 : decode cX8_goesOver 20 = .ok (.iconst 4, 1) := by decide +kernel
theorem dX8_goesOver_21 : decode cX8_goesOver 21 = .ok (.invokevirtual 204, 3) := by decide +kernel
theorem dX8_goesOver_24 : decode cX8_goesOver 24 = .ok (.iadd, 1) := by decide +kernel
theorem dX8_goesOver_25 : decode cX8_goesOver 25 = .ok (.invokevirtual 238, 3) := by decide +kernel
theorem dX8_goesOver_28 : decode cX8_goesOver 28 = .ok (.return_, 1) := by decide +kernel
theorem dX8_forward_0 : decode cX8_forward 0 = .ok (.aload_n 0, 1) := by decide +kernel
theorem dX8_forward_1 : decode cX8_forward 1 = .ok (.iload_n 1, 1) := by decide +kernel
theorem dX8_forward_2 : decode cX8_forward 2 = .ok (.bipush 14, 2) := by decide +kernel
theorem dX8_forward_4 : decode cX8_forward 4 = .ok (.invokevirtual 229, 3) := by decide +kernel
theorem dX8_forward_7 : decode cX8_forward 7 = .ok (.istore_n 2, 1) := by decide +kernel
theorem dX8_forward_8 : decode cX8_forward 8 = .ok (.iload_n 2, 1) := by decide +kernel
theorem dX8_forward_9 : decode cX8_forward 9 = .ok (.aload_n 0, 1) := by decide +kernel
theorem dX8_forward_10 : decode cX8_forward 10 = .ok (.iload_n 1, 1) := by decide +kernel
theorem dX8_forward_11 : decode cX8_forward 11 = .ok (.bipush 13, 2) := by decide +kernel
theorem dX8_forward_13 : decode cX8_forward 13 = .ok (.invokevirtual 229, 3) := by decide +kernel
theorem dX8_forward_16 : decode cX8_forward 16 = .ok (.if_icmp .ne 11, 3) := by decide +kernel
theorem dX8_forward_19 : decode cX8_forward 19 = .ok (.aload_n 0, 1) := by decide +kernel
theorem dX8_forward_20 : decode cX8_forward 20 = .ok (.iload_n 1, 1) := by decide +kernel
theorem dX8_forward_21 : decode cX8_forward 21 = .ok (.iconst 4, 1) := by decide +kernel
theorem dX8_forward_22 : decode cX8_forward 22 = .ok (.iconst 1, 1) := by decide +kernel
theorem dX8_forward_23 : decode cX8_forward 23 = .ok (.invokevirtual 238, 3) := by decide +kernel
theorem dX8_forward_26 : decode cX8_forward 26 = .ok (.return_, 1) := by decide +kernel
theorem dX8_forward_27 : decode cX8_forward 27 = .ok (.aload_n 0, 1) := by decide +kernel
theorem dX8_forward_28 : decode cX8_forward 28 = .ok (.iload_n 1, 1) := by decide +kernel
theorem dX8_forward_29 : decode cX8_forward 29 = .ok (.bipush 15, 2) := by decide +kernel
theorem dX8_forward_31 : decode cX8_forward 31 = .ok (.iload_n 2, 1) := by decide +kernel
theorem dX8_forward_32 : decode cX8_forward 32 = .ok (.iadd, 1) := by decide +kernel
theorem dX8_forward_33 : decode cX8_forward 33 = .ok (.invokevirtual 229, 3) := by decide +kernel
theorem dX8_forward_36 : decode cX8_forward 36 = .ok (.istore_n 3, 1) := by decide +kernel
theorem dX8_forward_37 : decode cX8_forward 37 = .ok (.aload_n 0, 1) := by decide +kernel
theorem dX8_forward_38 : decode cX8_forward 38 = .ok (.iload_n 3, 1) := by decide +kernel
theorem dX8_forward_39 : decode cX8_forward 39 = .ok (.iconst 5, 1) := by decide +kernel
theorem dX8_forward_40 : decode cX8_forward 40 = .ok (.invokevirtual 204, 3) := by decide +kernel
theorem dX8_forward_43 : decode cX8_forward 43 = .ok (.ifCond .eq 30, 3) := by decide +kernel
theorem dX8_forward_46 : decode cX8_forward 46 = .ok (.aload_n 0, 1) := by decide +kernel
theorem dX8_forward_47 : decode cX8_forward 47 = .ok (.iload_n 3, 1) := by decide +kernel
theorem dX8_forward_48 : decode cX8_forward 48 = .ok (.invokevirtual 209, 3) := by decide +kernel
theorem dX8_forward_51 : decode cX8_forward 51 = .ok (.aload_n 0, 1) := by decide +kernel
theorem dX8_forward_52 : decode cX8_forward 52 = .ok (.iload_n 1, 1) := by decide +kernel
theorem dX8_forward_53 : decode cX8_forward 53 = .ok (.iconst 2, 1) := by decide +kernel
theorem dX8_forward_54 : decode cX8_forward 54 = .ok (.invokevirtual 229, 3) := by decide +kernel
theorem dX8_forward_57 : decode cX8_forward 57 = .ok (.if_icmp .lt 16, 3) := by decide +kernel
theorem dX8_forward_60 : decode cX8_forward 60 = .ok (.aload_n 0, 1) := by decide +kernel
theorem dX8_forward_61 : decode cX8_forward 61 = .ok (.getfield 9, 3) := by decide +kernel
theorem dX8_forward_64 : decode cX8_forward 64 = .ok (.bipush 9, 2) := by decide +kernel
theorem dX8_forward_66 : decode cX8_forward 66 = .ok (.iaload, 1) := by decide +kernel
theorem dX8_forward_67 : decode cX8_forward 67 = .ok (.sipush 500, 3) := by decide +kernel
theorem dX8_forward_70 : decode cX8_forward 70 = .ok (.if_icmp .lt 10, 3) := by decide +kernel
theorem dX8_forward_73 : decode cX8_forward 73 = .ok (.aload_n 0, 1) := by decide +kernel
