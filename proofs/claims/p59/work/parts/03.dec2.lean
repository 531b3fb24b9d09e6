theorem dX6_passNext_12 : decode cX6_passNext 12 = .ok (.iload_n 1, 1) := by decide +kernel
theorem dX6_passNext_13 : decode cX6_passNext 13 = .ok (.if_icmp .le 7, 3) := by decide +kernel
theorem dX6_passNext_16 : decode cX6_passNext 16 = .ok (.iload_n 1, 1) := by decide +kernel
theorem dX6_passNext_17 : decode cX6_passNext 17 = .ok (.goto 4, 3) := by decide +kernel
theorem dX6_passNext_20 : decode cX6_passNext 20 = .ok (.iload_n 2, 1) := by decide +kernel
theorem dX6_passNext_21 : decode cX6_passNext 21 = .ok (.putfield 51, 3) := by decide +kernel
theorem dX6_passNext_24 : decode cX6_passNext 24 = .ok (.aload_n 0, 1) := by decide +kernel
theorem dX6_passNext_25 : decode cX6_passNext 25 = .ok (.invokevirtual 233, 3) := by decide +kernel
theorem dX6_passNext_28 : decode cX6_passNext 28 = .ok (.aload_n 0, 1) := by decide +kernel
theorem dX6_passNext_29 : decode cX6_passNext 29 = .ok (.invokevirtual 236, 3) := by decide +kernel
theorem dX6_passNext_32 : decode cX6_passNext 32 = .ok (.iconst 0, 1) := by decide +kernel
theorem dX6_passNext_33 : decode cX6_passNext 33 = .ok (.istore_n 3, 1) := by decide +kernel
theorem dX6_passNext_34 : decode cX6_passNext 34 = .ok (.iload_n 3, 1) := by decide +kernel
theorem dX6_passNext_35 : decode cX6_passNext 35 = .ok (.aload_n 0, 1) := by decide +kernel
theorem dX6_passNext_36 : decode cX6_passNext 36 = .ok (.getfield 28, 3) := by decide +kernel
theorem dX6_passNext_39 : decode cX6_passNext 39 = .ok (.getfield 70, 3) := by decide +kernel
theorem dX6_passNext_42 : decode cX6_passNext 42 = .ok (.if_icmp .ge 14, 3) := by decide +kernel
theorem dX6_passNext_45 : decode cX6_passNext 45 = .ok (.aload_n 0, 1) := by decide +kernel
theorem dX6_passNext_46 : decode cX6_passNext 46 = .ok (.iload_n 3, 1) := by decide +kernel
theorem dX6_passNext_47 : decode cX6_passNext 47 = .ok (.invokevirtual 85, 3) := by decide +kernel
theorem dX6_passNext_50 : decode cX6_passNext 50 = .ok (.iinc 3 1, 3) := by decide +kernel
theorem dX6_passNext_53 : decode cX6_passNext 53 = .ok (.goto (-19), 3) := by decide +kernel
theorem dX6_passNext_56 : decode cX6_passNext 56 = .ok (.return_, 1) := by decide +kernel
theorem dX6_expireTickets_0 : decode cX6_expireTickets 0 = .ok (.iconst 0, 1) := by decide +kernel
theorem dX6_expireTickets_1 : decode cX6_expireTickets 1 = .ok (.istore_n 1, 1) := by decide +kernel
theorem dX6_expireTickets_2 : decode cX6_expireTickets 2 = .ok (.iload_n 1, 1) := by decide +kernel
theorem dX6_expireTickets_3 : decode cX6_expireTickets 3 = .ok (.aload_n 0, 1) := by decide +kernel
theorem dX6_expireTickets_4 : decode cX6_expireTickets 4 = .ok (.getfield 21, 3) := by decide +kernel
theorem dX6_expireTickets_7 : decode cX6_expireTickets 7 = .ok (.getfield 69, 3) := by decide +kernel
theorem dX6_expireTickets_10 : decode cX6_expireTickets 10 = .ok (.if_icmp .ge 62, 3) := by decide +kernel
theorem dX6_expireTickets_13 : decode cX6_expireTickets 13 = .ok (.aload_n 0, 1) := by decide +kernel
theorem dX6_expireTickets_14 : decode cX6_expireTickets 14 = .ok (.getfield 21, 3) := by decide +kernel
theorem dX6_expireTickets_17 : decode cX6_expireTickets 17 = .ok (.getfield 174, 3) := by decide +kernel
theorem dX6_expireTickets_20 : decode cX6_expireTickets 20 = .ok (.iload_n 1, 1) := by decide +kernel
theorem dX6_expireTickets_21 : decode cX6_expireTickets 21 = .ok (.iaload, 1) := by decide +kernel
theorem dX6_expireTickets_22 : decode cX6_expireTickets 22 = .ok (.ifCond .ne 44, 3) := by decide +kernel
theorem dX6_expireTickets_25 : decode cX6_expireTickets 25 = .ok (.aload_n 0, 1) := by decide +kernel
theorem dX6_expireTickets_26 : decode cX6_expireTickets 26 = .ok (.getfield 21, 3) := by decide +kernel
theorem dX6_expireTickets_29 : decode cX6_expireTickets 29 = .ok (.getfield 171, 3) := by decide +kernel
theorem dX6_expireTickets_32 : decode cX6_expireTickets 32 = .ok (.iload_n 1, 1) := by decide +kernel
theorem dX6_expireTickets_33 : decode cX6_expireTickets 33 = .ok (.iaload, 1) := by decide +kernel
theorem dX6_expireTickets_34 : decode cX6_expireTickets 34 = .ok (.aload_n 0, 1) := by decide +kernel
theorem dX6_expireTickets_35 : decode cX6_expireTickets 35 = .ok (.getfield 51, 3) := by decide +kernel
theorem dX6_expireTickets_38 : decode cX6_expireTickets 38 = .ok (.if_icmp .ne 28, 3) := by decide +kernel
theorem dX6_expireTickets_41 : decode cX6_expireTickets 41 = .ok (.aload_n 0, 1) := by decide +kernel
theorem dX6_expireTickets_42 : decode cX6_expireTickets 42 = .ok (.iload_n 1, 1) := by decide +kernel
theorem dX6_expireTickets_43 : decode cX6_expireTickets 43 = .ok (.iconst 2, 1) := by decide +kernel
theorem dX6_expireTickets_44 : decode cX6_expireTickets 44 = .ok (.aload_n 0, 1) := by decide +kernel
theorem dX6_expireTickets_45 : decode cX6_expireTickets 45 = .ok (.getfield 21, 3) := by decide +kernel
theorem dX6_expireTickets_48 : decode cX6_expireTickets 48 = .ok (.getfield 175, 3) := by decide +kernel
theorem dX6_expireTickets_51 : decode cX6_expireTickets 51 = .ok (.iload_n 1, 1) := by decide +kernel
theorem dX6_expireTickets_52 : decode cX6_expireTickets 52 = .ok (.iaload, 1) := by decide +kernel
theorem dX6_expireTickets_53 : decode cX6_expireTickets 53 = .ok (.aload_n 0, 1) := by decide +kernel
theorem dX6_expireTickets_54 : decode cX6_expireTickets 54 = .ok (.getfield 39, 3) := by decide +kernel
theorem dX6_expireTickets_57 : decode cX6_expireTickets 57 = .ok (.iconst 3, 1) := by decide +kernel
theorem dX6_expireTickets_58 : decode cX6_expireTickets 58 = .ok (.iaload, 1) := by decide +kernel
theorem dX6_expireTickets_59 : decode cX6_expireTickets 59 = .ok (.imul, 1) := by decide +kernel
theorem dX6_expireTickets_60 : decode cX6_expireTickets 60 = .ok (.bipush 100, 2) := by decide +kernel
theorem dX6_expireTickets_62 : decode cX6_expireTickets 62 = .ok (.idiv, 1) := by decide +kernel
theorem dX6_expireTickets_63 : decode cX6_expireTickets 63 = .ok (.invokevirtual 213, 3) := by decide +kernel
theorem dX6_expireTickets_66 : decode cX6_expireTickets 66 = .ok (.iinc 1 1, 3) := by decide +kernel
theorem dX6_expireTickets_69 : decode cX6_expireTickets 69 = .ok (.goto (-67), 3) := by decide +kernel
theorem dX6_expireTickets_72 : decode cX6_expireTickets 72 = .ok (.return_, 1) := by decide +kernel
theorem dX6_endRequests_0 : decode cX6_endRequests 0 = .ok (.iconst 0, 1) := by decide +kernel
theorem dX6_endRequests_1 : decode cX6_endRequests 1 = .ok (.istore_n 1, 1) := by decide +kernel
theorem dX6_endRequests_2 : decode cX6_endRequests 2 = .ok (.iload_n 1, 1) := by decide +kernel
theorem dX6_endRequests_3 : decode cX6_endRequests 3 = .ok (.aload_n 0, 1) := by decide +kernel
theorem dX6_endRequests_4 : decode cX6_endRequests 4 = .ok (.getfield 28, 3) := by decide +kernel
theorem dX6_endRequests_7 : decode cX6_endRequests 7 = .ok (.getfield 70, 3) := by decide +kernel
theorem dX6_endRequests_10 : decode cX6_endRequests 10 = .ok (.if_icmp .ge 53, 3) := by decide +kernel
theorem dX6_endRequests_13 : decode cX6_endRequests 13 = .ok (.aload_n 0, 1) := by decide +kernel
theorem dX6_endRequests_14 : decode cX6_endRequests 14 = .ok (.getfield 28, 3) := by decide +kernel
theorem dX6_endRequests_17 : decode cX6_endRequests 17 = .ok (.getfield 93, 3) := by decide +kernel
theorem dX6_endRequests_20 : decode cX6_endRequests 20 = .ok (.iload_n 1, 1) := by decide +kernel
theorem dX6_endRequests_21 : decode cX6_endRequests 21 = .ok (.iaload, 1) := by decide +kernel
theorem dX6_endRequests_22 : decode cX6_endRequests 22 = .ok (.iconst 2, 1) := by decide +kernel
theorem dX6_endRequests_23 : decode cX6_endRequests 23 = .ok (.if_icmp .ne 34, 3) := by decide +kernel
theorem dX6_endRequests_26 : decode cX6_endRequests 26 = .ok (.aload_n 0, 1) := by decide +kernel
theorem dX6_endRequests_27 : decode cX6_endRequests 27 = .ok (.getfield 28, 3) := by decide +kernel
theorem dX6_endRequests_30 : decode cX6_endRequests 30 = .ok (.getfield 191, 3) := by decide +kernel
theorem dX6_endRequests_33 : decode cX6_endRequests 33 = .ok (.iload_n 1, 1) := by decide +kernel
theorem dX6_endRequests_34 : decode cX6_endRequests 34 = .ok (.iaload, 1) := by decide +kernel
theorem dX6_endRequests_35 : decode cX6_endRequests 35 = .ok (.aload_n 0, 1) := by decide +kernel
theorem dX6_endRequests_36 : decode cX6_endRequests 36 = .ok (.getfield 51, 3) := by decide +kernel
theorem dX6_endRequests_39 : decode cX6_endRequests 39 = .ok (.if_icmp .ne 18, 3) := by decide +kernel
theorem dX6_endRequests_42 : decode cX6_endRequests 42 = .ok (.aload_n 0, 1) := by decide +kernel
theorem dX6_endRequests_43 : decode cX6_endRequests 43 = .ok (.iload_n 1, 1) := by decide +kernel
theorem dX6_endRequests_44 : decode cX6_endRequests 44 = .ok (.iconst 1, 1) := by decide +kernel
theorem dX6_endRequests_45 : decode cX6_endRequests 45 = .ok (.iconst 1, 1) := by decide +kernel
theorem dX6_endRequests_46 : decode cX6_endRequests 46 = .ok (.iconst 0, 1) := by decide +kernel
theorem dX6_endRequests_47 : decode cX6_endRequests 47 = .ok (.invokevirtual 197, 3) := by decide +kernel
theorem dX6_endRequests_50 : decode cX6_endRequests 50 = .ok (.pop, 1) := by decide +kernel
theorem dX6_endRequests_51 : decode cX6_endRequests 51 = .ok (.aload_n 0, 1) := by decide +kernel
theorem dX6_endRequests_52 : decode cX6_endRequests 52 = .ok (.iload_n 1, 1) := by decide +kernel
theorem dX6_endRequests_53 : decode cX6_endRequests 53 = .ok (.iconst 3, 1) := by decide +kernel
theorem dX6_endRequests_54 : decode cX6_endRequests 54 = .ok (.invokevirtual 123, 3) := by decide +kernel
theorem dX6_endRequests_57 : decode cX6_endRequests 57 = .ok (.iinc 1 1, 3) := by decide +kernel
theorem dX6_endRequests_60 : decode cX6_endRequests 60 = .ok (.goto (-58), 3) := by decide +kernel
theorem dX6_endRequests_63 : decode cX6_endRequests 63 = .ok (.return_, 1) := by decide +kernel
theorem dX6_passTo_0 : decode cX6_passTo 0 = .ok (.iconst 0, 1) := by decide +kernel
theorem dX6_passTo_1 : decode cX6_passTo 1 = .ok (.istore_n 2, 1) := by decide +kernel
theorem dX6_passTo_2 : decode cX6_passTo 2 = .ok (.iload_n 2, 1) := by decide +kernel
theorem dX6_passTo_3 : decode cX6_passTo 3 = .ok (.ldc 89, 2) := by decide +kernel
theorem dX6_passTo_5 : decode cX6_passTo 5 = .ok (.if_icmp .ge 22, 3) := by decide +kernel
theorem dX6_passTo_8 : decode cX6_passTo 8 = .ok (.aload_n 0, 1) := by decide +kernel
theorem dX6_passTo_9 : decode cX6_passTo 9 = .ok (.getfield 51, 3) := by decide +kernel
theorem dX6_passTo_12 : decode cX6_passTo 12 = .ok (.iload_n 1, 1) := by decide +kernel
theorem dX6_passTo_13 : decode cX6_passTo 13 = .ok (.if_icmp .ge 14, 3) := by decide +kernel
theorem dX6_passTo_16 : decode cX6_passTo 16 = .ok (.aload_n 0, 1) := by decide +kernel
theorem dX6_passTo_17 : decode cX6_passTo 17 = .ok (.iload_n 1, 1) := by decide +kernel
theorem dX6_passTo_18 : decode cX6_passTo 18 = .ok (.invokevirtual 239, 3) := by decide +kernel
theorem dX6_passTo_21 : decode cX6_passTo 21 = .ok (.iinc 2 1, 3) := by decide +kernel
theorem dX6_passTo_24 : decode cX6_passTo 24 = .ok (.goto (-22), 3) := by decide +kernel
theorem dX6_passTo_27 : decode cX6_passTo 27 = .ok (.return_, 1) := by decide +kernel
theorem dX6_passUntilActive_0 : decode cX6_passUntilActive 0 = .ok (.aload_n 0, 1) := by decide +kernel
theorem dX6_passUntilActive_1 : decode cX6_passUntilActive 1 = .ok (.getfield 51, 3) := by decide +kernel
theorem dX6_passUntilActive_4 : decode cX6_passUntilActive 4 = .ok (.istore_n 2, 1) := by decide +kernel
theorem dX6_passUntilActive_5 : decode cX6_passUntilActive 5 = .ok (.iload_n 2, 1) := by decide +kernel
theorem dX6_passUntilActive_6 : decode cX6_passUntilActive 6 = .ok (.sipush 2000, 3) := by decide +kernel
theorem dX6_passUntilActive_9 : decode cX6_passUntilActive 9 = .ok (.iadd, 1) := by decide +kernel
theorem dX6_passUntilActive_10 : decode cX6_passUntilActive 10 = .ok (.istore_n 3, 1) := by decide +kernel
theorem dX6_passUntilActive_11 : decode cX6_passUntilActive 11 = .ok (.iconst 0, 1) := by decide +kernel
theorem dX6_passUntilActive_12 : decode cX6_passUntilActive 12 = .ok (.istore 4, 2) := by decide +kernel
theorem dX6_passUntilActive_14 : decode cX6_passUntilActive 14 = .ok (.iload 4, 2) := by decide +kernel
theorem dX6_passUntilActive_16 : decode cX6_passUntilActive 16 = .ok (.ldc 89, 2) := by decide +kernel
theorem dX6_passUntilActive_18 : decode cX6_passUntilActive 18 = .ok (.if_icmp .ge 33, 3) := by decide +kernel
theorem dX6_passUntilActive_21 : decode cX6_passUntilActive 21 = .ok (.aload_n 0, 1) := by decide +kernel
theorem dX6_passUntilActive_22 : decode cX6_passUntilActive 22 = .ok (.getfield 51, 3) := by decide +kernel
theorem dX6_passUntilActive_25 : decode cX6_passUntilActive 25 = .ok (.iload_n 3, 1) := by decide +kernel
theorem dX6_passUntilActive_26 : decode cX6_passUntilActive 26 = .ok (.if_icmp .ge 25, 3) := by decide +kernel
theorem dX6_passUntilActive_29 : decode cX6_passUntilActive 29 = .ok (.aload_n 0, 1) := by decide +kernel
theorem dX6_passUntilActive_30 : decode cX6_passUntilActive 30 = .ok (.getfield 28, 3) := by decide +kernel
theorem dX6_passUntilActive_33 : decode cX6_passUntilActive 33 = .ok (.iload_n 1, 1) := by decide +kernel
theorem dX6_passUntilActive_34 : decode cX6_passUntilActive 34 = .ok (.invokevirtual 242, 3) := by decide +kernel
theorem dX6_passUntilActive_37 : decode cX6_passUntilActive 37 = .ok (.ifCond .eq 14, 3) := by decide +kernel
theorem dX6_passUntilActive_40 : decode cX6_passUntilActive 40 = .ok (.aload_n 0, 1) := by decide +kernel
theorem dX6_passUntilActive_41 : decode cX6_passUntilActive 41 = .ok (.iload_n 3, 1) := by decide +kernel
theorem dX6_passUntilActive_42 : decode cX6_passUntilActive 42 = .ok (.invokevirtual 239, 3) := by decide +kernel
theorem dX6_passUntilActive_45 : decode cX6_passUntilActive 45 = .ok (.iinc 4 1, 3) := by decide +kernel
theorem dX6_passUntilActive_48 : decode cX6_passUntilActive 48 = .ok (.goto (-34), 3) := by decide +kernel
theorem dX6_passUntilActive_51 : decode cX6_passUntilActive 51 = .ok (.aload_n 0, 1) := by decide +kernel
theorem dX6_passUntilActive_52 : decode cX6_passUntilActive 52 = .ok (.getfield 28, 3) := by decide +kernel
theorem dX6_passUntilActive_55 : decode cX6_passUntilActive 55 = .ok (.getfield 93, 3) := by decide +kernel
theorem dX6_passUntilActive_58 : decode cX6_passUntilActive 58 = .ok (.iload_n 1, 1) := by decide +kernel
theorem dX6_passUntilActive_59 : decode cX6_passUntilActive 59 = .ok (.iaload, 1) := by decide +kernel
theorem dX6_passUntilActive_60 : decode cX6_passUntilActive 60 = .ok (.iconst 2, 1) := by decide +kernel
theorem dX6_passUntilActive_61 : decode cX6_passUntilActive 61 = .ok (.if_icmp .ne 12, 3) := by decide +kernel
theorem dX6_passUntilActive_64 : decode cX6_passUntilActive 64 = .ok (.aload_n 0, 1) := by decide +kernel
theorem dX6_passUntilActive_65 : decode cX6_passUntilActive 65 = .ok (.getfield 51, 3) := by decide +kernel
theorem dX6_passUntilActive_68 : decode cX6_passUntilActive 68 = .ok (.iload_n 2, 1) := by decide +kernel
theorem dX6_passUntilActive_69 : decode cX6_passUntilActive 69 = .ok (.isub, 1) := by decide +kernel
theorem dX6_passUntilActive_70 : decode cX6_passUntilActive 70 = .ok (.goto 4, 3) := by decide +kernel
theorem dX6_passUntilActive_73 : decode cX6_passUntilActive 73 = .ok (.iconst (-1), 1) := by decide +kernel
theorem dX6_passUntilActive_74 : decode cX6_passUntilActive 74 = .ok (.ireturn, 1) := by decide +kernel
theorem dX6_passUntilQuiet_0 : decode cX6_passUntilQuiet 0 = .ok (.aload_n 0, 1) := by decide +kernel
theorem dX6_passUntilQuiet_1 : decode cX6_passUntilQuiet 1 = .ok (.getfield 51, 3) := by decide +kernel
theorem dX6_passUntilQuiet_4 : decode cX6_passUntilQuiet 4 = .ok (.istore_n 1, 1) := by decide +kernel
theorem dX6_passUntilQuiet_5 : decode cX6_passUntilQuiet 5 = .ok (.iload_n 1, 1) := by decide +kernel
theorem dX6_passUntilQuiet_6 : decode cX6_passUntilQuiet 6 = .ok (.sipush 20000, 3) := by decide +kernel
theorem dX6_passUntilQuiet_9 : decode cX6_passUntilQuiet 9 = .ok (.iadd, 1) := by decide +kernel
theorem dX6_passUntilQuiet_10 : decode cX6_passUntilQuiet 10 = .ok (.istore_n 2, 1) := by decide +kernel
theorem dX6_passUntilQuiet_11 : decode cX6_passUntilQuiet 11 = .ok (.aload_n 0, 1) := by decide +kernel
theorem dX6_passUntilQuiet_12 : decode cX6_passUntilQuiet 12 = .ok (.invokevirtual 230, 3) := by decide +kernel
theorem dX6_passUntilQuiet_15 : decode cX6_passUntilQuiet 15 = .ok (.istore_n 3, 1) := by decide +kernel
theorem dX6_passUntilQuiet_16 : decode cX6_passUntilQuiet 16 = .ok (.iconst 0, 1) := by decide +kernel
theorem dX6_passUntilQuiet_17 : decode cX6_passUntilQuiet 17 = .ok (.istore 4, 2) := by decide +kernel
theorem dX6_passUntilQuiet_19 : decode cX6_passUntilQuiet 19 = .ok (.iload 4, 2) := by decide +kernel
theorem dX6_passUntilQuiet_21 : decode cX6_passUntilQuiet 21 = .ok (.ldc 89, 2) := by decide +kernel
theorem dX6_passUntilQuiet_23 : decode cX6_passUntilQuiet 23 = .ok (.if_icmp .ge 29, 3) := by decide +kernel
theorem dX6_passUntilQuiet_26 : decode cX6_passUntilQuiet 26 = .ok (.iload_n 3, 1) := by decide +kernel
theorem dX6_passUntilQuiet_27 : decode cX6_passUntilQuiet 27 = .ok (.iconst (-1), 1) := by decide +kernel
theorem dX6_passUntilQuiet_28 : decode cX6_passUntilQuiet 28 = .ok (.if_icmp .eq 24, 3) := by decide +kernel
theorem dX6_passUntilQuiet_31 : decode cX6_passUntilQuiet 31 = .ok (.iload_n 3, 1) := by decide +kernel
theorem dX6_passUntilQuiet_32 : decode cX6_passUntilQuiet 32 = .ok (.iload_n 2, 1) := by decide +kernel
theorem dX6_passUntilQuiet_33 : decode cX6_passUntilQuiet 33 = .ok (.if_icmp .gt 19, 3) := by decide +kernel
theorem dX6_passUntilQuiet_36 : decode cX6_passUntilQuiet 36 = .ok (.aload_n 0, 1) := by decide +kernel
theorem dX6_passUntilQuiet_37 : decode cX6_passUntilQuiet 37 = .ok (.iload_n 2, 1) := by decide +kernel
theorem dX6_passUntilQuiet_38 : decode cX6_passUntilQuiet 38 = .ok (.invokevirtual 239, 3) := by decide +kernel
theorem dX6_passUntilQuiet_41 : decode cX6_passUntilQuiet 41 = .ok (.aload_n 0, 1) := by decide +kernel
theorem dX6_passUntilQuiet_42 : decode cX6_passUntilQuiet 42 = .ok (.invokevirtual 230, 3) := by decide +kernel
theorem dX6_passUntilQuiet_45 : decode cX6_passUntilQuiet 45 = .ok (.istore_n 3, 1) := by decide +kernel
theorem dX6_passUntilQuiet_46 : decode cX6_passUntilQuiet 46 = .ok (.iinc 4 1, 3) := by decide +kernel
theorem dX6_passUntilQuiet_49 : decode cX6_passUntilQuiet 49 = .ok (.goto (-30), 3) := by decide +kernel
theorem dX6_passUntilQuiet_52 : decode cX6_passUntilQuiet 52 = .ok (.iload_n 3, 1) := by decide +kernel
theorem dX6_passUntilQuiet_53 : decode cX6_passUntilQuiet 53 = .ok (.iconst (-1), 1) := by decide +kernel
theorem dX6_passUntilQuiet_54 : decode cX6_passUntilQuiet 54 = .ok (.if_icmp .ne 12, 3) := by decide +kernel
theorem dX6_passUntilQuiet_57 : decode cX6_passUntilQuiet 57 = .ok (.aload_n 0, 1) := by decide +kernel
theorem dX6_passUntilQuiet_58 : decode cX6_passUntilQuiet 58 = .ok (.getfield 51, 3) := by decide +kernel
theorem dX6_passUntilQuiet_61 : decode cX6_passUntilQuiet 61 = .ok (.iload_n 1, 1) := by decide +kernel
theorem dX6_passUntilQuiet_62 : decode cX6_passUntilQuiet 62 = .ok (.isub, 1) := by decide +kernel
theorem dX6_passUntilQuiet_63 : decode cX6_passUntilQuiet 63 = .ok (.goto 4, 3) := by decide +kernel
theorem dX6_passUntilQuiet_66 : decode cX6_passUntilQuiet 66 = .ok (.iconst (-1), 1) := by decide +kernel
theorem dX6_passUntilQuiet_67 : decode cX6_passUntilQuiet 67 = .ok (.ireturn, 1) := by decide +kernel
theorem dX7_init_0 : decode cX7_init 0 = .ok (.aload_n 0, 1) := by decide +kernel
theorem dX7_init_1 : decode cX7_init 1 = .ok (.invokespecial 1, 3) := by decide +kernel
theorem dX7_init_4 : decode cX7_init 4 = .ok (.aload_n 0, 1) := by decide +kernel
theorem dX7_init_5 : decode cX7_init 5 = .ok (.new 7, 3) := by decide +kernel
theorem dX7_init_8 : decode cX7_init 8 = .ok (.dup, 1) := by decide +kernel
theorem dX7_init_9 : decode cX7_init 9 = .ok (.invokespecial 9, 3) := by decide +kernel
theorem dX7_init_12 : decode cX7_init 12 = .ok (.putfield 10, 3) := by decide +kernel
theorem dX7_init_15 : decode cX7_init 15 = .ok (.aload_n 0, 1) := by decide +kernel
theorem dX7_init_16 : decode cX7_init 16 = .ok (.new 7, 3) := by decide +kernel
theorem dX7_init_19 : decode cX7_init 19 = .ok (.dup, 1) := by decide +kernel
theorem dX7_init_20 : decode cX7_init 20 = .ok (.invokespecial 9, 3) := by decide +kernel
theorem dX7_init_23 : decode cX7_init 23 = .ok (.putfield 16, 3) := by decide +kernel
theorem dX7_init_26 : decode cX7_init 26 = .ok (.aload_n 0, 1) := by decide +kernel
theorem dX7_init_27 : decode cX7_init 27 = .ok (.iconst 2, 1) := by decide +kernel
theorem dX7_init_28 : decode cX7_init 28 = .ok (.anewarray 7, 3) := by decide +kernel
theorem dX7_init_31 : decode cX7_init 31 = .ok (.putfield 19, 3) := by decide +kernel
theorem dX7_init_34 : decode cX7_init 34 = .ok (.aload_n 0, 1) := by decide +kernel
theorem dX7_init_35 : decode cX7_init 35 = .ok (.new 23, 3) := by decide +kernel
theorem dX7_init_38 : decode cX7_init 38 = .ok (.dup, 1) := by decide +kernel
theorem dX7_init_39 : decode cX7_init 39 = .ok (.invokespecial 25, 3) := by decide +kernel
theorem dX7_init_42 : decode cX7_init 42 = .ok (.putfield 26, 3) := by decide +kernel
theorem dX7_init_45 : decode cX7_init 45 = .ok (.aload_n 0, 1) := by decide +kernel
theorem dX7_init_46 : decode cX7_init 46 = .ok (.new 30, 3) := by decide +kernel
theorem dX7_init_49 : decode cX7_init 49 = .ok (.dup, 1) := by decide +kernel
theorem dX7_init_50 : decode cX7_init 50 = .ok (.invokespecial 32, 3) := by decide +kernel
theorem dX7_init_53 : decode cX7_init 53 = .ok (.putfield 33, 3) := by decide +kernel
theorem dX7_init_56 : decode cX7_init 56 = .ok (.return_, 1) := by decide +kernel
theorem dX7_append_0 : decode cX7_append 0 = .ok (.aload_n 0, 1) := by decide +kernel
theorem dX7_append_1 : decode cX7_append 1 = .ok (.getfield 33, 3) := by decide +kernel
theorem dX7_append_4 : decode cX7_append 4 = .ok (.lload_n 1, 1) := by decide +kernel
theorem dX7_append_5 : decode cX7_append 5 = .ok (.invokevirtual 37, 3) := by decide +kernel
theorem dX7_append_8 : decode cX7_append 8 = .ok (.ireturn, 1) := by decide +kernel
theorem dX7_load_0 : decode cX7_load 0 = .ok (.aload_n 0, 1) := by decide +kernel
theorem dX7_load_1 : decode cX7_load 1 = .ok (.getfield 33, 3) := by decide +kernel
theorem dX7_load_4 : decode cX7_load 4 = .ok (.aload_n 0, 1) := by decide +kernel
theorem dX7_load_5 : decode cX7_load 5 = .ok (.getfield 16, 3) := by decide +kernel
theorem dX7_load_8 : decode cX7_load 8 = .ok (.invokevirtual 41, 3) := by decide +kernel
theorem dX7_load_11 : decode cX7_load 11 = .ok (.aload_n 0, 1) := by decide +kernel
theorem dX7_load_12 : decode cX7_load 12 = .ok (.getfield 33, 3) := by decide +kernel
theorem dX7_load_15 : decode cX7_load 15 = .ok (.getfield 45, 3) := by decide +kernel
theorem dX7_load_18 : decode cX7_load 18 = .ok (.ifCond .eq 14, 3) := by decide +kernel
theorem dX7_load_21 : decode cX7_load 21 = .ok (.bipush (-100), 2) := by decide +kernel
theorem dX7_load_23 : decode cX7_load 23 = .ok (.aload_n 0, 1) := by decide +kernel
theorem dX7_load_24 : decode cX7_load 24 = .ok (.getfield 33, 3) := by decide +kernel
theorem dX7_load_27 : decode cX7_load 27 = .ok (.getfield 49, 3) := by decide +kernel
theorem dX7_load_30 : decode cX7_load 30 = .ok (.isub, 1) := by decide +kernel
theorem dX7_load_31 : decode cX7_load 31 = .ok (.ireturn, 1) := by decide +kernel
theorem dX7_load_32 : decode cX7_load 32 = .ok (.aload_n 0, 1) := by decide +kernel
theorem dX7_load_33 : decode cX7_load 33 = .ok (.getfield 10, 3) := by decide +kernel
theorem dX7_load_36 : decode cX7_load 36 = .ok (.aload_n 0, 1) := by decide +kernel
theorem dX7_load_37 : decode cX7_load 37 = .ok (.getfield 16, 3) := by decide +kernel
theorem dX7_load_40 : decode cX7_load 40 = .ok (.invokevirtual 52, 3) := by decide +kernel
theorem dX7_load_43 : decode cX7_load 43 = .ok (.aload_n 0, 1) := by decide +kernel
theorem dX7_load_44 : decode cX7_load 44 = .ok (.getfield 10, 3) := by decide +kernel
theorem dX7_load_47 : decode cX7_load 47 = .ok (.getfield 55, 3) := by decide +kernel
theorem dX7_load_50 : decode cX7_load 50 = .ok (.getfield 59, 3) := by decide +kernel
theorem dX7_load_53 : decode cX7_load 53 = .ok (.ireturn, 1) := by decide +kernel
theorem dX7_linkValue_0 : decode cX7_linkValue 0 = .ok (.iload_n 1, 1) := by decide +kernel
theorem dX7_linkValue_1 : decode cX7_linkValue 1 = .ok (.aload_n 0, 1) := by decide +kernel
theorem dX7_linkValue_2 : decode cX7_linkValue 2 = .ok (.getfield 10, 3) := by decide +kernel
theorem dX7_linkValue_5 : decode cX7_linkValue 5 = .ok (.getfield 55, 3) := by decide +kernel
theorem dX7_linkValue_8 : decode cX7_linkValue 8 = .ok (.getfield 59, 3) := by decide +kernel
theorem dX7_linkValue_11 : decode cX7_linkValue 11 = .ok (.invokestatic 74, 3) := by decide +kernel
theorem dX7_linkValue_14 : decode cX7_linkValue 14 = .ok (.iload_n 2, 1) := by decide +kernel
theorem dX7_linkValue_15 : decode cX7_linkValue 15 = .ok (.iconst 0, 1) := by decide +kernel
theorem dX7_linkValue_16 : decode cX7_linkValue 16 = .ok (.bipush 8, 2) := by decide +kernel
theorem dX7_linkValue_18 : decode cX7_linkValue 18 = .ok (.invokestatic 86, 3) := by decide +kernel
theorem dX7_linkValue_21 : decode cX7_linkValue 21 = .ok (.aload_n 0, 1) := by decide +kernel
theorem dX7_linkValue_22 : decode cX7_linkValue 22 = .ok (.getfield 10, 3) := by decide +kernel
theorem dX7_linkValue_25 : decode cX7_linkValue 25 = .ok (.getfield 55, 3) := by decide +kernel
theorem dX7_linkValue_28 : decode cX7_linkValue 28 = .ok (.iload_n 1, 1) := by decide +kernel
theorem dX7_linkValue_29 : decode cX7_linkValue 29 = .ok (.iload_n 2, 1) := by decide +kernel
theorem dX7_linkValue_30 : decode cX7_linkValue 30 = .ok (.invokevirtual 90, 3) := by decide +kernel
theorem dX7_linkValue_33 : decode cX7_linkValue 33 = .ok (.ireturn, 1) := by decide +kernel
theorem dX7_setCapacity_0 : decode cX7_setCapacity 0 = .ok (.iload_n 1, 1) := by decide +kernel
theorem dX7_setCapacity_1 : decode cX7_setCapacity 1 = .ok (.aload_n 0, 1) := by decide +kernel
theorem dX7_setCapacity_2 : decode cX7_setCapacity 2 = .ok (.getfield 10, 3) := by decide +kernel
theorem dX7_setCapacity_5 : decode cX7_setCapacity 5 = .ok (.getfield 55, 3) := by decide +kernel
theorem dX7_setCapacity_8 : decode cX7_setCapacity 8 = .ok (.getfield 59, 3) := by decide +kernel
theorem dX7_setCapacity_11 : decode cX7_setCapacity 11 = .ok (.invokestatic 74, 3) := by decide +kernel
theorem dX7_setCapacity_14 : decode cX7_setCapacity 14 = .ok (.iload_n 2, 1) := by decide +kernel
theorem dX7_setCapacity_15 : decode cX7_setCapacity 15 = .ok (.iconst 0, 1) := by decide +kernel
theorem dX7_setCapacity_16 : decode cX7_setCapacity 16 = .ok (.sipush 1000, 3) := by decide +kernel
theorem dX7_setCapacity_19 : decode cX7_setCapacity 19 = .ok (.invokestatic 86, 3) := by decide +kernel
theorem dX7_setCapacity_22 : decode cX7_setCapacity 22 = .ok (.aload_n 0, 1) := by decide +kernel
theorem dX7_setCapacity_23 : decode cX7_setCapacity 23 = .ok (.getfield 10, 3) := by decide +kernel
theorem dX7_setCapacity_26 : decode cX7_setCapacity 26 = .ok (.getfield 55, 3) := by decide +kernel
theorem dX7_setCapacity_29 : decode cX7_setCapacity 29 = .ok (.getfield 104, 3) := by decide +kernel
theorem dX7_setCapacity_32 : decode cX7_setCapacity 32 = .ok (.iload_n 1, 1) := by decide +kernel
theorem dX7_setCapacity_33 : decode cX7_setCapacity 33 = .ok (.iaload, 1) := by decide +kernel
theorem dX7_setCapacity_34 : decode cX7_setCapacity 34 = .ok (.iload_n 2, 1) := by decide +kernel
theorem dX7_setCapacity_35 : decode cX7_setCapacity 35 = .ok (.if_icmp .le 6, 3) := by decide +kernel
theorem dX7_setCapacity_38 : decode cX7_setCapacity 38 = .ok (.bipush (-3), 2) := by decide +kernel
theorem dX7_setCapacity_40 : decode cX7_setCapacity 40 = .ok (.ireturn, 1) := by decide +kernel
theorem dX7_setCapacity_41 : decode cX7_setCapacity 41 = .ok (.aload_n 0, 1) := by decide +kernel
theorem dX7_setCapacity_42 : decode cX7_setCapacity 42 = .ok (.getfield 10, 3) := by decide +kernel
theorem dX7_setCapacity_45 : decode cX7_setCapacity 45 = .ok (.getfield 55, 3) := by decide +kernel
theorem dX7_setCapacity_48 : decode cX7_setCapacity 48 = .ok (.getfield 107, 3) := by decide +kernel
theorem dX7_setCapacity_51 : decode cX7_setCapacity 51 = .ok (.iload_n 1, 1) := by decide +kernel
theorem dX7_setCapacity_52 : decode cX7_setCapacity 52 = .ok (.iaload, 1) := by decide +kernel
theorem dX7_setCapacity_53 : decode cX7_setCapacity 53 = .ok (.istore_n 3, 1) := by decide +kernel
theorem dX7_setCapacity_54 : decode cX7_setCapacity 54 = .ok (.aload_n 0, 1) := by decide +kernel
theorem dX7_setCapacity_55 : decode cX7_setCapacity 55 = .ok (.getfield 10, 3) := by decide +kernel
theorem dX7_setCapacity_58 : decode cX7_setCapacity 58 = .ok (.getfield 55, 3) := by decide +kernel
theorem dX7_setCapacity_61 : decode cX7_setCapacity 61 = .ok (.getfield 107, 3) := by decide +kernel
theorem dX7_setCapacity_64 : decode cX7_setCapacity 64 = .ok (.iload_n 1, 1) := by decide +kernel
theorem dX7_setCapacity_65 : decode cX7_setCapacity 65 = .ok (.iload_n 2, 1) := by decide +kernel
theorem dX7_setCapacity_66 : decode cX7_setCapacity 66 = .ok (.iastore, 1) := by decide +kernel
theorem dX7_setCapacity_67 : decode cX7_setCapacity 67 = .ok (.iload_n 3, 1) := by decide +kernel
theorem dX7_setCapacity_68 : decode cX7_setCapacity 68 = .ok (.ireturn, 1) := by decide +kernel
theorem dX7_takeDown_0 : decode cX7_takeDown 0 = .ok (.iload_n 1, 1) := by decide +kernel
theorem dX7_takeDown_1 : decode cX7_takeDown 1 = .ok (.aload_n 0, 1) := by decide +kernel
theorem dX7_takeDown_2 : decode cX7_takeDown 2 = .ok (.getfield 10, 3) := by decide +kernel
theorem dX7_takeDown_5 : decode cX7_takeDown 5 = .ok (.getfield 55, 3) := by decide +kernel
theorem dX7_takeDown_8 : decode cX7_takeDown 8 = .ok (.getfield 59, 3) := by decide +kernel
theorem dX7_takeDown_11 : decode cX7_takeDown 11 = .ok (.invokestatic 74, 3) := by decide +kernel
theorem dX7_takeDown_14 : decode cX7_takeDown 14 = .ok (.aload_n 0, 1) := by decide +kernel
theorem dX7_takeDown_15 : decode cX7_takeDown 15 = .ok (.getfield 10, 3) := by decide +kernel
theorem dX7_takeDown_18 : decode cX7_takeDown 18 = .ok (.getfield 55, 3) := by decide +kernel
theorem dX7_takeDown_21 : decode cX7_takeDown 21 = .ok (.iload_n 1, 1) := by decide +kernel
theorem dX7_takeDown_22 : decode cX7_takeDown 22 = .ok (.invokevirtual 110, 3) := by decide +kernel
theorem dX7_takeDown_25 : decode cX7_takeDown 25 = .ok (.ifCond .eq 14, 3) := by decide +kernel
theorem dX7_takeDown_28 : decode cX7_takeDown 28 = .ok (.aload_n 0, 1) := by decide +kernel
theorem dX7_takeDown_29 : decode cX7_takeDown 29 = .ok (.getfield 10, 3) := by decide +kernel
theorem dX7_takeDown_32 : decode cX7_takeDown 32 = .ok (.iload_n 1, 1) := by decide +kernel
theorem dX7_takeDown_33 : decode cX7_takeDown 33 = .ok (.invokevirtual 114, 3) := by decide +kernel
theorem dX7_takeDown_36 : decode cX7_takeDown 36 = .ok (.goto 5, 3) := by decide +kernel
theorem dX7_takeDown_39 : decode cX7_takeDown 39 = .ok (.bipush (-3), 2) := by decide +kernel
theorem dX7_takeDown_41 : decode cX7_takeDown 41 = .ok (.ireturn, 1) := by decide +kernel
theorem dX7_bringUp_0 : decode cX7_bringUp 0 = .ok (.iload_n 1, 1) := by decide +kernel
theorem dX7_bringUp_1 : decode cX7_bringUp 1 = .ok (.aload_n 0, 1) := by decide +kernel
theorem dX7_bringUp_2 : decode cX7_bringUp 2 = .ok (.getfield 10, 3) := by decide +kernel
theorem dX7_bringUp_5 : decode cX7_bringUp 5 = .ok (.getfield 55, 3) := by decide +kernel
theorem dX7_bringUp_8 : decode cX7_bringUp 8 = .ok (.getfield 59, 3) := by decide +kernel
theorem dX7_bringUp_11 : decode cX7_bringUp 11 = .ok (.invokestatic 74, 3) := by decide +kernel
theorem dX7_bringUp_14 : decode cX7_bringUp 14 = .ok (.aload_n 0, 1) := by decide +kernel
theorem dX7_bringUp_15 : decode cX7_bringUp 15 = .ok (.getfield 10, 3) := by decide +kernel
theorem dX7_bringUp_18 : decode cX7_bringUp 18 = .ok (.getfield 55, 3) := by decide +kernel
theorem dX7_bringUp_21 : decode cX7_bringUp 21 = .ok (.iload_n 1, 1) := by decide +kernel
theorem dX7_bringUp_22 : decode cX7_bringUp 22 = .ok (.invokevirtual 110, 3) := by decide +kernel
theorem dX7_bringUp_25 : decode cX7_bringUp 25 = .ok (.ifCond .eq 6, 3) := by decide +kernel
theorem dX7_bringUp_28 : decode cX7_bringUp 28 = .ok (.bipush (-3), 2) := by decide +kernel
theorem dX7_bringUp_30 : decode cX7_bringUp 30 = .ok (.ireturn, 1) := by decide +kernel
theorem dX7_bringUp_31 : decode cX7_bringUp 31 = .ok (.aload_n 0, 1) := by decide +kernel
theorem dX7_bringUp_32 : decode cX7_bringUp 32 = .ok (.getfield 10, 3) := by decide +kernel
theorem dX7_bringUp_35 : decode cX7_bringUp 35 = .ok (.getfield 55, 3) := by decide +kernel
theorem dX7_bringUp_38 : decode cX7_bringUp 38 = .ok (.dup, 1) := by decide +kernel
theorem dX7_bringUp_39 : decode cX7_bringUp 39 = .ok (.getfield 118, 3) := by decide +kernel
theorem dX7_bringUp_42 : decode cX7_bringUp 42 = .ok (.iconst 1, 1) := by decide +kernel
theorem dX7_bringUp_43 : decode cX7_bringUp 43 = .ok (.iload_n 1, 1) := by decide +kernel
theorem dX7_bringUp_44 : decode cX7_bringUp 44 = .ok (.ishl, 1) := by decide +kernel
theorem dX7_bringUp_45 : decode cX7_bringUp 45 = .ok (.ior, 1) := by decide +kernel
theorem dX7_bringUp_46 : decode cX7_bringUp 46 = .ok (.putfield 118, 3) := by decide +kernel
theorem dX7_bringUp_49 : decode cX7_bringUp 49 = .ok (.aload_n 0, 1) := by decide +kernel
theorem dX7_bringUp_50 : decode cX7_bringUp 50 = .ok (.getfield 10, 3) := by decide +kernel
theorem dX7_bringUp_53 : decode cX7_bringUp 53 = .ok (.getfield 121, 3) := by decide +kernel
theorem dX7_bringUp_56 : decode cX7_bringUp 56 = .ok (.ireturn, 1) := by decide +kernel
theorem dX7_request_0 : decode cX7_request 0 = .ok (.aload_n 0, 1) := by decide +kernel
theorem dX7_request_1 : decode cX7_request 1 = .ok (.iload_n 1, 1) := by decide +kernel
theorem dX7_request_2 : decode cX7_request 2 = .ok (.iload_n 2, 1) := by decide +kernel
theorem dX7_request_3 : decode cX7_request 3 = .ok (.invokevirtual 124, 3) := by decide +kernel
theorem dX7_request_6 : decode cX7_request 6 = .ok (.iload_n 3, 1) := by decide +kernel
theorem dX7_request_7 : decode cX7_request 7 = .ok (.iconst 1, 1) := by decide +kernel
theorem dX7_request_8 : decode cX7_request 8 = .ok (.sipush 1000, 3) := by decide +kernel
theorem dX7_request_11 : decode cX7_request 11 = .ok (.invokestatic 86, 3) := by decide +kernel
theorem dX7_request_14 : decode cX7_request 14 = .ok (.iload 4, 2) := by decide +kernel
theorem dX7_request_16 : decode cX7_request 16 = .ok (.iconst 1, 1) := by decide +kernel
theorem dX7_request_17 : decode cX7_request 17 = .ok (.sipush 10000, 3) := by decide +kernel
theorem dX7_request_20 : decode cX7_request 20 = .ok (.invokestatic 86, 3) := by decide +kernel
theorem dX7_request_23 : decode cX7_request 23 = .ok (.aload_n 0, 1) := by decide +kernel
theorem dX7_request_24 : decode cX7_request 24 = .ok (.getfield 10, 3) := by decide +kernel
theorem dX7_request_27 : decode cX7_request 27 = .ok (.iload_n 1, 1) := by decide +kernel
theorem dX7_request_28 : decode cX7_request 28 = .ok (.iload_n 2, 1) := by decide +kernel
theorem dX7_request_29 : decode cX7_request 29 = .ok (.iload_n 3, 1) := by decide +kernel
theorem dX7_request_30 : decode cX7_request 30 = .ok (.iload 4, 2) := by decide +kernel
theorem dX7_request_32 : decode cX7_request 32 = .ok (.invokevirtual 127, 3) := by decide +kernel
theorem dX7_request_35 : decode cX7_request 35 = .ok (.ireturn, 1) := by decide +kernel
theorem dX7_cancel_0 : decode cX7_cancel 0 = .ok (.iload_n 1, 1) := by decide +kernel
theorem dX7_cancel_1 : decode cX7_cancel 1 = .ok (.aload_n 0, 1) := by decide +kernel
theorem dX7_cancel_2 : decode cX7_cancel 2 = .ok (.getfield 10, 3) := by decide +kernel
theorem dX7_cancel_5 : decode cX7_cancel 5 = .ok (.getfield 131, 3) := by decide +kernel
theorem dX7_cancel_8 : decode cX7_cancel 8 = .ok (.getfield 135, 3) := by decide +kernel
theorem dX7_cancel_11 : decode cX7_cancel 11 = .ok (.invokestatic 74, 3) := by decide +kernel
theorem dX7_cancel_14 : decode cX7_cancel 14 = .ok (.aload_n 0, 1) := by decide +kernel
theorem dX7_cancel_15 : decode cX7_cancel 15 = .ok (.getfield 10, 3) := by decide +kernel
theorem dX7_cancel_18 : decode cX7_cancel 18 = .ok (.getfield 131, 3) := by decide +kernel
theorem dX7_cancel_21 : decode cX7_cancel 21 = .ok (.iload_n 1, 1) := by decide +kernel
theorem dX7_cancel_22 : decode cX7_cancel 22 = .ok (.invokevirtual 138, 3) := by decide +kernel
theorem dX7_cancel_25 : decode cX7_cancel 25 = .ok (.ifCond .ne 19, 3) := by decide +kernel
theorem dX7_cancel_28 : decode cX7_cancel 28 = .ok (.aload_n 0, 1) := by decide +kernel
theorem dX7_cancel_29 : decode cX7_cancel 29 = .ok (.getfield 10, 3) := by decide +kernel
theorem dX7_cancel_32 : decode cX7_cancel 32 = .ok (.getfield 131, 3) := by decide +kernel
theorem dX7_cancel_35 : decode cX7_cancel 35 = .ok (.getfield 141, 3) := by decide +kernel
theorem dX7_cancel_38 : decode cX7_cancel 38 = .ok (.iload_n 1, 1) := by decide +kernel
theorem dX7_cancel_39 : decode cX7_cancel 39 = .ok (.iaload, 1) := by decide +kernel
theorem dX7_cancel_40 : decode cX7_cancel 40 = .ok (.iconst 2, 1) := by decide +kernel
theorem dX7_cancel_41 : decode cX7_cancel 41 = .ok (.if_icmp .ne 7, 3) := by decide +kernel
theorem dX7_cancel_44 : decode cX7_cancel 44 = .ok (.iconst 1, 1) := by decide +kernel
theorem dX7_cancel_45 : decode cX7_cancel 45 = .ok (.goto 4, 3) := by decide +kernel
theorem dX7_cancel_48 : decode cX7_cancel 48 = .ok (.iconst 0, 1) := by decide +kernel
theorem dX7_cancel_49 : decode cX7_cancel 49 = .ok (.istore_n 2, 1) := by decide +kernel
theorem dX7_cancel_50 : decode cX7_cancel 50 = .ok (.iload_n 2, 1) := by decide +kernel
theorem dX7_cancel_51 : decode cX7_cancel 51 = .ok (.ifCond .eq 14, 3) := by decide +kernel
theorem dX7_cancel_54 : decode cX7_cancel 54 = .ok (.aload_n 0, 1) := by decide +kernel
theorem dX7_cancel_55 : decode cX7_cancel 55 = .ok (.getfield 10, 3) := by decide +kernel
theorem dX7_cancel_58 : decode cX7_cancel 58 = .ok (.iload_n 1, 1) := by decide +kernel
theorem dX7_cancel_59 : decode cX7_cancel 59 = .ok (.invokevirtual 144, 3) := by decide +kernel
theorem dX7_cancel_62 : decode cX7_cancel 62 = .ok (.goto 5, 3) := by decide +kernel
theorem dX7_cancel_65 : decode cX7_cancel 65 = .ok (.bipush (-3), 2) := by decide +kernel
theorem dX7_cancel_67 : decode cX7_cancel 67 = .ok (.ireturn, 1) := by decide +kernel
theorem dX7_extend_0 : decode cX7_extend 0 = .ok (.iload_n 1, 1) := by decide +kernel
theorem dX7_extend_1 : decode cX7_extend 1 = .ok (.aload_n 0, 1) := by decide +kernel
theorem dX7_extend_2 : decode cX7_extend 2 = .ok (.getfield 10, 3) := by decide +kernel
theorem dX7_extend_5 : decode cX7_extend 5 = .ok (.getfield 131, 3) := by decide +kernel
theorem dX7_extend_8 : decode cX7_extend 8 = .ok (.getfield 135, 3) := by decide +kernel
theorem dX7_extend_11 : decode cX7_extend 11 = .ok (.invokestatic 74, 3) := by decide +kernel
theorem dX7_extend_14 : decode cX7_extend 14 = .ok (.aload_n 0, 1) := by decide +kernel
theorem dX7_extend_15 : decode cX7_extend 15 = .ok (.getfield 10, 3) := by decide +kernel
theorem dX7_extend_18 : decode cX7_extend 18 = .ok (.getfield 147, 3) := by decide +kernel
theorem dX7_extend_21 : decode cX7_extend 21 = .ok (.iload_n 1, 1) := by decide +kernel
theorem dX7_extend_22 : decode cX7_extend 22 = .ok (.aload_n 0, 1) := by decide +kernel
theorem dX7_extend_23 : decode cX7_extend 23 = .ok (.getfield 10, 3) := by decide +kernel
theorem dX7_extend_26 : decode cX7_extend 26 = .ok (.getfield 121, 3) := by decide +kernel
theorem dX7_extend_29 : decode cX7_extend 29 = .ok (.aload_n 0, 1) := by decide +kernel
theorem dX7_extend_30 : decode cX7_extend 30 = .ok (.getfield 10, 3) := by decide +kernel
theorem dX7_extend_33 : decode cX7_extend 33 = .ok (.getfield 94, 3) := by decide +kernel
theorem dX7_extend_36 : decode cX7_extend 36 = .ok (.iconst 0, 1) := by decide +kernel
theorem dX7_extend_37 : decode cX7_extend 37 = .ok (.iaload, 1) := by decide +kernel
theorem dX7_extend_38 : decode cX7_extend 38 = .ok (.iadd, 1) := by decide +kernel
theorem dX7_extend_39 : decode cX7_extend 39 = .ok (.invokevirtual 151, 3) := by decide +kernel
theorem dX7_extend_42 : decode cX7_extend 42 = .ok (.ireturn, 1) := by decide +kernel
theorem dX7_advance_0 : decode cX7_advance 0 = .ok (.iload_n 1, 1) := by decide +kernel
theorem dX7_advance_1 : decode cX7_advance 1 = .ok (.iconst 1, 1) := by decide +kernel
theorem dX7_advance_2 : decode cX7_advance 2 = .ok (.sipush 1000, 3) := by decide +kernel
theorem dX7_advance_5 : decode cX7_advance 5 = .ok (.invokestatic 86, 3) := by decide +kernel
theorem dX7_advance_8 : decode cX7_advance 8 = .ok (.aload_n 0, 1) := by decide +kernel
theorem dX7_advance_9 : decode cX7_advance 9 = .ok (.getfield 10, 3) := by decide +kernel
theorem dX7_advance_12 : decode cX7_advance 12 = .ok (.getfield 121, 3) := by decide +kernel
theorem dX7_advance_15 : decode cX7_advance 15 = .ok (.iload_n 1, 1) := by decide +kernel
theorem dX7_advance_16 : decode cX7_advance 16 = .ok (.iadd, 1) := by decide +kernel
theorem dX7_advance_17 : decode cX7_advance 17 = .ok (.ldc 156, 2) := by decide +kernel
theorem dX7_advance_19 : decode cX7_advance 19 = .ok (.if_icmp .le 6, 3) := by decide +kernel
theorem dX7_advance_22 : decode cX7_advance 22 = .ok (.bipush (-2), 2) := by decide +kernel
theorem dX7_advance_24 : decode cX7_advance 24 = .ok (.ireturn, 1) := by decide +kernel
theorem dX7_advance_25 : decode cX7_advance 25 = .ok (.aload_n 0, 1) := by decide +kernel
theorem dX7_advance_26 : decode cX7_advance 26 = .ok (.getfield 10, 3) := by decide +kernel
theorem dX7_advance_29 : decode cX7_advance 29 = .ok (.aload_n 0, 1) := by decide +kernel
theorem dX7_advance_30 : decode cX7_advance 30 = .ok (.getfield 10, 3) := by decide +kernel
theorem dX7_advance_33 : decode cX7_advance 33 = .ok (.getfield 121, 3) := by decide +kernel
theorem dX7_advance_36 : decode cX7_advance 36 = .ok (.iload_n 1, 1) := by decide +kernel
theorem dX7_advance_37 : decode cX7_advance 37 = .ok (.iadd, 1) := by decide +kernel
theorem dX7_advance_38 : decode cX7_advance 38 = .ok (.invokevirtual 157, 3) := by decide +kernel
theorem dX7_advance_41 : decode cX7_advance 41 = .ok (.aload_n 0, 1) := by decide +kernel
theorem dX7_advance_42 : decode cX7_advance 42 = .ok (.getfield 10, 3) := by decide +kernel
theorem dX7_advance_45 : decode cX7_advance 45 = .ok (.getfield 121, 3) := by decide +kernel
theorem dX7_advance_48 : decode cX7_advance 48 = .ok (.ireturn, 1) := by decide +kernel
theorem dX7_time_0 : decode cX7_time 0 = .ok (.aload_n 0, 1) := by decide +kernel
theorem dX7_time_1 : decode cX7_time 1 = .ok (.getfield 10, 3) := by decide +kernel
theorem dX7_time_4 : decode cX7_time 4 = .ok (.getfield 121, 3) := by decide +kernel
theorem dX7_time_7 : decode cX7_time 7 = .ok (.ireturn, 1) := by decide +kernel
theorem dX7_requestCount_0 : decode cX7_requestCount 0 = .ok (.aload_n 0, 1) := by decide +kernel
theorem dX7_requestCount_1 : decode cX7_requestCount 1 = .ok (.getfield 10, 3) := by decide +kernel
theorem dX7_requestCount_4 : decode cX7_requestCount 4 = .ok (.getfield 131, 3) := by decide +kernel
theorem dX7_requestCount_7 : decode cX7_requestCount 7 = .ok (.getfield 135, 3) := by decide +kernel
theorem dX7_requestCount_10 : decode cX7_requestCount 10 = .ok (.ireturn, 1) := by decide +kernel
theorem dX7_requestValue_0 : decode cX7_requestValue 0 = .ok (.iload_n 1, 1) := by decide +kernel
theorem dX7_requestValue_1 : decode cX7_requestValue 1 = .ok (.aload_n 0, 1) := by decide +kernel
theorem dX7_requestValue_2 : decode cX7_requestValue 2 = .ok (.getfield 10, 3) := by decide +kernel
theorem dX7_requestValue_5 : decode cX7_requestValue 5 = .ok (.getfield 131, 3) := by decide +kernel
theorem dX7_requestValue_8 : decode cX7_requestValue 8 = .ok (.getfield 135, 3) := by decide +kernel
theorem dX7_requestValue_11 : decode cX7_requestValue 11 = .ok (.invokestatic 74, 3) := by decide +kernel
theorem dX7_requestValue_14 : decode cX7_requestValue 14 = .ok (.iload_n 2, 1) := by decide +kernel
theorem dX7_requestValue_15 : decode cX7_requestValue 15 = .ok (.iconst 0, 1) := by decide +kernel
theorem dX7_requestValue_16 : decode cX7_requestValue 16 = .ok (.bipush 12, 2) := by decide +kernel
theorem dX7_requestValue_18 : decode cX7_requestValue 18 = .ok (.invokestatic 86, 3) := by decide +kernel
theorem dX7_requestValue_21 : decode cX7_requestValue 21 = .ok (.aload_n 0, 1) := by decide +kernel
theorem dX7_requestValue_22 : decode cX7_requestValue 22 = .ok (.getfield 10, 3) := by decide +kernel
theorem dX7_requestValue_25 : decode cX7_requestValue 25 = .ok (.getfield 131, 3) := by decide +kernel
theorem dX7_requestValue_28 : decode cX7_requestValue 28 = .ok (.iload_n 1, 1) := by decide +kernel
theorem dX7_requestValue_29 : decode cX7_requestValue 29 = .ok (.iload_n 2, 1) := by decide +kernel
theorem dX7_requestValue_30 : decode cX7_requestValue 30 = .ok (.invokevirtual 161, 3) := by decide +kernel
theorem dX7_requestValue_33 : decode cX7_requestValue 33 = .ok (.ireturn, 1) := by decide +kernel
theorem dX7_pathLength_0 : decode cX7_pathLength 0 = .ok (.iload_n 1, 1) := by decide +kernel
theorem dX7_pathLength_1 : decode cX7_pathLength 1 = .ok (.aload_n 0, 1) := by decide +kernel
theorem dX7_pathLength_2 : decode cX7_pathLength 2 = .ok (.getfield 10, 3) := by decide +kernel
theorem dX7_pathLength_5 : decode cX7_pathLength 5 = .ok (.getfield 131, 3) := by decide +kernel
theorem dX7_pathLength_8 : decode cX7_pathLength 8 = .ok (.getfield 135, 3) := by decide +kernel
theorem dX7_pathLength_11 : decode cX7_pathLength 11 = .ok (.invokestatic 74, 3) := by decide +kernel
theorem dX7_pathLength_14 : decode cX7_pathLength 14 = .ok (.aload_n 0, 1) := by decide +kernel
theorem dX7_pathLength_15 : decode cX7_pathLength 15 = .ok (.getfield 10, 3) := by decide +kernel
theorem dX7_pathLength_18 : decode cX7_pathLength 18 = .ok (.getfield 131, 3) := by decide +kernel
theorem dX7_pathLength_21 : decode cX7_pathLength 21 = .ok (.getfield 162, 3) := by decide +kernel
theorem dX7_pathLength_24 : decode cX7_pathLength 24 = .ok (.iload_n 1, 1) := by decide +kernel
theorem dX7_pathLength_25 : decode cX7_pathLength 25 = .ok (.iaload, 1) := by decide +kernel
theorem dX7_pathLength_26 : decode cX7_pathLength 26 = .ok (.ireturn, 1) := by decide +kernel
theorem dX7_pathLink_0 : decode cX7_pathLink 0 = .ok (.iload_n 1, 1) := by decide +kernel
theorem dX7_pathLink_1 : decode cX7_pathLink 1 = .ok (.aload_n 0, 1) := by decide +kernel
theorem dX7_pathLink_2 : decode cX7_pathLink 2 = .ok (.getfield 10, 3) := by decide +kernel
theorem dX7_pathLink_5 : decode cX7_pathLink 5 = .ok (.getfield 131, 3) := by decide +kernel
theorem dX7_pathLink_8 : decode cX7_pathLink 8 = .ok (.getfield 135, 3) := by decide +kernel
theorem dX7_pathLink_11 : decode cX7_pathLink 11 = .ok (.invokestatic 74, 3) := by decide +kernel
theorem dX7_pathLink_14 : decode cX7_pathLink 14 = .ok (.iload_n 2, 1) := by decide +kernel
theorem dX7_pathLink_15 : decode cX7_pathLink 15 = .ok (.ifCond .lt 23, 3) := by decide +kernel
theorem dX7_pathLink_18 : decode cX7_pathLink 18 = .ok (.iload_n 2, 1) := by decide +kernel
theorem dX7_pathLink_19 : decode cX7_pathLink 19 = .ok (.aload_n 0, 1) := by decide +kernel
theorem dX7_pathLink_20 : decode cX7_pathLink 20 = .ok (.getfield 10, 3) := by decide +kernel
theorem dX7_pathLink_23 : decode cX7_pathLink 23 = .ok (.getfield 131, 3) := by decide +kernel
theorem dX7_pathLink_26 : decode cX7_pathLink 26 = .ok (.getfield 162, 3) := by decide +kernel
theorem dX7_pathLink_29 : decode cX7_pathLink 29 = .ok (.iload_n 1, 1) := by decide +kernel
theorem dX7_pathLink_30 : decode cX7_pathLink 30 = .ok (.iaload, 1) := by decide +kernel
theorem dX7_pathLink_31 : decode cX7_pathLink 31 = .ok (.if_icmp .ge 7, 3) := by decide +kernel
theorem dX7_pathLink_34 : decode cX7_pathLink 34 = .ok (.iconst 1, 1) := by decide +kernel
theorem dX7_pathLink_35 : decode cX7_pathLink 35 = .ok (.goto 4, 3) := by decide +kernel
theorem dX7_pathLink_38 : decode cX7_pathLink 38 = .ok (.iconst 0, 1) := by decide +kernel
theorem dX7_pathLink_39 : decode cX7_pathLink 39 = .ok (.istore_n 3, 1) := by decide +kernel
theorem dX7_pathLink_40 : decode cX7_pathLink 40 = .ok (.iload_n 3, 1) := by decide +kernel
theorem dX7_pathLink_41 : decode cX7_pathLink 41 = .ok (.ifCond .eq 20, 3) := by decide +kernel
theorem dX7_pathLink_44 : decode cX7_pathLink 44 = .ok (.aload_n 0, 1) := by decide +kernel
theorem dX7_pathLink_45 : decode cX7_pathLink 45 = .ok (.getfield 10, 3) := by decide +kernel
theorem dX7_pathLink_48 : decode cX7_pathLink 48 = .ok (.getfield 131, 3) := by decide +kernel
theorem dX7_pathLink_51 : decode cX7_pathLink 51 = .ok (.getfield 165, 3) := by decide +kernel
theorem dX7_pathLink_54 : decode cX7_pathLink 54 = .ok (.iload_n 1, 1) := by decide +kernel
theorem dX7_pathLink_55 : decode cX7_pathLink 55 = .ok (.aaload, 1) := by decide +kernel
theorem dX7_pathLink_56 : decode cX7_pathLink 56 = .ok (.iload_n 2, 1) := by decide +kernel
theorem dX7_pathLink_57 : decode cX7_pathLink 57 = .ok (.iaload, 1) := by decide +kernel
theorem dX7_pathLink_58 : decode cX7_pathLink 58 = .ok (.goto 4, 3) := by decide +kernel
theorem dX7_pathLink_61 : decode cX7_pathLink 61 = .ok (.iconst (-1), 1) := by decide +kernel
theorem dX7_pathLink_62 : decode cX7_pathLink 62 = .ok (.ireturn, 1) := by decide +kernel
theorem dX7_placeOf_0 : decode cX7_placeOf 0 = .ok (.iload_n 1, 1) := by decide +kernel
theorem dX7_placeOf_1 : decode cX7_placeOf 1 = .ok (.aload_n 0, 1) := by decide +kernel
theorem dX7_placeOf_2 : decode cX7_placeOf 2 = .ok (.getfield 10, 3) := by decide +kernel
theorem dX7_placeOf_5 : decode cX7_placeOf 5 = .ok (.getfield 131, 3) := by decide +kernel
theorem dX7_placeOf_8 : decode cX7_placeOf 8 = .ok (.getfield 135, 3) := by decide +kernel
theorem dX7_placeOf_11 : decode cX7_placeOf 11 = .ok (.invokestatic 74, 3) := by decide +kernel
theorem dX7_placeOf_14 : decode cX7_placeOf 14 = .ok (.aload_n 0, 1) := by decide +kernel
theorem dX7_placeOf_15 : decode cX7_placeOf 15 = .ok (.getfield 10, 3) := by decide +kernel
theorem dX7_placeOf_18 : decode cX7_placeOf 18 = .ok (.getfield 131, 3) := by decide +kernel
theorem dX7_placeOf_21 : decode cX7_placeOf 21 = .ok (.getfield 141, 3) := by decide +kernel
theorem dX7_placeOf_24 : decode cX7_placeOf 24 = .ok (.iload_n 1, 1) := by decide +kernel
theorem dX7_placeOf_25 : decode cX7_placeOf 25 = .ok (.iaload, 1) := by decide +kernel
theorem dX7_placeOf_26 : decode cX7_placeOf 26 = .ok (.istore_n 2, 1) := by decide +kernel
theorem dX7_placeOf_27 : decode cX7_placeOf 27 = .ok (.iload_n 2, 1) := by decide +kernel
theorem dX7_placeOf_28 : decode cX7_placeOf 28 = .ok (.ifCond .eq 8, 3) := by decide +kernel
theorem dX7_placeOf_31 : decode cX7_placeOf 31 = .ok (.iload_n 2, 1) := by decide +kernel
theorem dX7_placeOf_32 : decode cX7_placeOf 32 = .ok (.iconst 1, 1) := by decide +kernel
theorem dX7_placeOf_33 : decode cX7_placeOf 33 = .ok (.if_icmp .ne 18, 3) := by decide +kernel
theorem dX7_placeOf_36 : decode cX7_placeOf 36 = .ok (.aload_n 0, 1) := by decide +kernel
theorem dX7_placeOf_37 : decode cX7_placeOf 37 = .ok (.getfield 10, 3) := by decide +kernel
theorem dX7_placeOf_40 : decode cX7_placeOf 40 = .ok (.getfield 131, 3) := by decide +kernel
theorem dX7_placeOf_43 : decode cX7_placeOf 43 = .ok (.getfield 169, 3) := by decide +kernel
theorem dX7_placeOf_46 : decode cX7_placeOf 46 = .ok (.iload_n 1, 1) := by decide +kernel
theorem dX7_placeOf_47 : decode cX7_placeOf 47 = .ok (.iaload, 1) := by decide +kernel
theorem dX7_placeOf_48 : decode cX7_placeOf 48 = .ok (.goto 4, 3) := by decide +kernel
theorem dX7_placeOf_51 : decode cX7_placeOf 51 = .ok (.iconst (-1), 1) := by decide +kernel
theorem dX7_placeOf_52 : decode cX7_placeOf 52 = .ok (.ireturn, 1) := by decide +kernel
theorem dX7_inState_0 : decode cX7_inState 0 = .ok (.iload_n 1, 1) := by decide +kernel
theorem dX7_inState_1 : decode cX7_inState 1 = .ok (.iconst 0, 1) := by decide +kernel
theorem dX7_inState_2 : decode cX7_inState 2 = .ok (.bipush 7, 2) := by decide +kernel
theorem dX7_inState_4 : decode cX7_inState 4 = .ok (.invokestatic 86, 3) := by decide +kernel
theorem dX7_inState_7 : decode cX7_inState 7 = .ok (.aload_n 0, 1) := by decide +kernel
theorem dX7_inState_8 : decode cX7_inState 8 = .ok (.getfield 10, 3) := by decide +kernel
theorem dX7_inState_11 : decode cX7_inState 11 = .ok (.getfield 131, 3) := by decide +kernel
theorem dX7_inState_14 : decode cX7_inState 14 = .ok (.iload_n 1, 1) := by decide +kernel
theorem dX7_inState_15 : decode cX7_inState 15 = .ok (.invokevirtual 172, 3) := by decide +kernel
theorem dX7_inState_18 : decode cX7_inState 18 = .ok (.ireturn, 1) := by decide +kernel
theorem dX7_ticketCount_0 : decode cX7_ticketCount 0 = .ok (.aload_n 0, 1) := by decide +kernel
theorem dX7_ticketCount_1 : decode cX7_ticketCount 1 = .ok (.getfield 10, 3) := by decide +kernel
theorem dX7_ticketCount_4 : decode cX7_ticketCount 4 = .ok (.getfield 147, 3) := by decide +kernel
theorem dX7_ticketCount_7 : decode cX7_ticketCount 7 = .ok (.getfield 178, 3) := by decide +kernel
theorem dX7_ticketCount_10 : decode cX7_ticketCount 10 = .ok (.ireturn, 1) := by decide +kernel
theorem dX7_ticketValue_0 : decode cX7_ticketValue 0 = .ok (.iload_n 1, 1) := by decide +kernel
theorem dX7_ticketValue_1 : decode cX7_ticketValue 1 = .ok (.aload_n 0, 1) := by decide +kernel
theorem dX7_ticketValue_2 : decode cX7_ticketValue 2 = .ok (.getfield 10, 3) := by decide +kernel
theorem dX7_ticketValue_5 : decode cX7_ticketValue 5 = .ok (.getfield 147, 3) := by decide +kernel
theorem dX7_ticketValue_8 : decode cX7_ticketValue 8 = .ok (.getfield 178, 3) := by decide +kernel
theorem dX7_ticketValue_11 : decode cX7_ticketValue 11 = .ok (.invokestatic 74, 3) := by decide +kernel
theorem dX7_ticketValue_14 : decode cX7_ticketValue 14 = .ok (.iload_n 2, 1) := by decide +kernel
theorem dX7_ticketValue_15 : decode cX7_ticketValue 15 = .ok (.iconst 0, 1) := by decide +kernel
theorem dX7_ticketValue_16 : decode cX7_ticketValue 16 = .ok (.bipush 7, 2) := by decide +kernel
theorem dX7_ticketValue_18 : decode cX7_ticketValue 18 = .ok (.invokestatic 86, 3) := by decide +kernel
theorem dX7_ticketValue_21 : decode cX7_ticketValue 21 = .ok (.aload_n 0, 1) := by decide +kernel
theorem dX7_ticketValue_22 : decode cX7_ticketValue 22 = .ok (.getfield 10, 3) := by decide +kernel
theorem dX7_ticketValue_25 : decode cX7_ticketValue 25 = .ok (.getfield 147, 3) := by decide +kernel
theorem dX7_ticketValue_28 : decode cX7_ticketValue 28 = .ok (.iload_n 1, 1) := by decide +kernel
theorem dX7_ticketValue_29 : decode cX7_ticketValue 29 = .ok (.iload_n 2, 1) := by decide +kernel
theorem dX7_ticketValue_30 : decode cX7_ticketValue 30 = .ok (.invokevirtual 179, 3) := by decide +kernel
theorem dX7_ticketValue_33 : decode cX7_ticketValue 33 = .ok (.ireturn, 1) := by decide +kernel
theorem dX7_ticketOn_0 : decode cX7_ticketOn 0 = .ok (.iload_n 1, 1) := by decide +kernel
theorem dX7_ticketOn_1 : decode cX7_ticketOn 1 = .ok (.aload_n 0, 1) := by decide +kernel
theorem dX7_ticketOn_2 : decode cX7_ticketOn 2 = .ok (.getfield 10, 3) := by decide +kernel
theorem dX7_ticketOn_5 : decode cX7_ticketOn 5 = .ok (.getfield 55, 3) := by decide +kernel
theorem dX7_ticketOn_8 : decode cX7_ticketOn 8 = .ok (.getfield 59, 3) := by decide +kernel
theorem dX7_ticketOn_11 : decode cX7_ticketOn 11 = .ok (.invokestatic 74, 3) := by decide +kernel
theorem dX7_ticketOn_14 : decode cX7_ticketOn 14 = .ok (.aload_n 0, 1) := by decide +kernel
theorem dX7_ticketOn_15 : decode cX7_ticketOn 15 = .ok (.getfield 10, 3) := by decide +kernel
theorem dX7_ticketOn_18 : decode cX7_ticketOn 18 = .ok (.getfield 147, 3) := by decide +kernel
theorem dX7_ticketOn_21 : decode cX7_ticketOn 21 = .ok (.iload_n 1, 1) := by decide +kernel
theorem dX7_ticketOn_22 : decode cX7_ticketOn 22 = .ok (.iload_n 2, 1) := by decide +kernel
theorem dX7_ticketOn_23 : decode cX7_ticketOn 23 = .ok (.invokevirtual 180, 3) := by decide +kernel
theorem dX7_ticketOn_26 : decode cX7_ticketOn 26 = .ok (.ireturn, 1) := by decide +kernel
theorem dX7_revenue_0 : decode cX7_revenue 0 = .ok (.aload_n 0, 1) := by decide +kernel
theorem dX7_revenue_1 : decode cX7_revenue 1 = .ok (.getfield 10, 3) := by decide +kernel
theorem dX7_revenue_4 : decode cX7_revenue 4 = .ok (.invokevirtual 185, 3) := by decide +kernel
theorem dX7_revenue_7 : decode cX7_revenue 7 = .ok (.lreturn, 1) := by decide +kernel
theorem dX7_nextEvent_0 : decode cX7_nextEvent 0 = .ok (.aload_n 0, 1) := by decide +kernel
theorem dX7_nextEvent_1 : decode cX7_nextEvent 1 = .ok (.getfield 10, 3) := by decide +kernel
theorem dX7_nextEvent_4 : decode cX7_nextEvent 4 = .ok (.invokevirtual 199, 3) := by decide +kernel
theorem dX7_nextEvent_7 : decode cX7_nextEvent 7 = .ok (.ireturn, 1) := by decide +kernel
theorem dX7_isSafe_0 : decode cX7_isSafe 0 = .ok (.iconst 0, 1) := by decide +kernel
theorem dX7_isSafe_1 : decode cX7_isSafe 1 = .ok (.istore_n 1, 1) := by decide +kernel
theorem dX7_isSafe_2 : decode cX7_isSafe 2 = .ok (.iload_n 1, 1) := by decide +kernel
theorem dX7_isSafe_3 : decode cX7_isSafe 3 = .ok (.aload_n 0, 1) := by decide +kernel
theorem dX7_isSafe_4 : decode cX7_isSafe 4 = .ok (.getfield 10, 3) := by decide +kernel
theorem dX7_isSafe_7 : decode cX7_isSafe 7 = .ok (.getfield 55, 3) := by decide +kernel
theorem dX7_isSafe_10 : decode cX7_isSafe 10 = .ok (.getfield 59, 3) := by decide +kernel
theorem dX7_isSafe_13 : decode cX7_isSafe 13 = .ok (.if_icmp .ge 38, 3) := by decide +kernel
theorem dX7_isSafe_16 : decode cX7_isSafe 16 = .ok (.aload_n 0, 1) := by decide +kernel
theorem dX7_isSafe_17 : decode cX7_isSafe 17 = .ok (.getfield 10, 3) := by decide +kernel
theorem dX7_isSafe_20 : decode cX7_isSafe 20 = .ok (.getfield 55, 3) := by decide +kernel
theorem dX7_isSafe_23 : decode cX7_isSafe 23 = .ok (.getfield 104, 3) := by decide +kernel
theorem dX7_isSafe_26 : decode cX7_isSafe 26 = .ok (.iload_n 1, 1) := by decide +kernel
theorem dX7_isSafe_27 : decode cX7_isSafe 27 = .ok (.iaload, 1) := by decide +kernel
theorem dX7_isSafe_28 : decode cX7_isSafe 28 = .ok (.aload_n 0, 1) := by decide +kernel
theorem dX7_isSafe_29 : decode cX7_isSafe 29 = .ok (.getfield 10, 3) := by decide +kernel
theorem dX7_isSafe_32 : decode cX7_isSafe 32 = .ok (.getfield 55, 3) := by decide +kernel
theorem dX7_isSafe_35 : decode cX7_isSafe 35 = .ok (.getfield 107, 3) := by decide +kernel
theorem dX7_isSafe_38 : decode cX7_isSafe 38 = .ok (.iload_n 1, 1) := by decide +kernel
theorem dX7_isSafe_39 : decode cX7_isSafe 39 = .ok (.iaload, 1) := by decide +kernel
theorem dX7_isSafe_40 : decode cX7_isSafe 40 = .ok (.if_icmp .le 5, 3) := by decide +kernel
theorem dX7_isSafe_43 : decode cX7_isSafe 43 = .ok (.iconst 0, 1) := by decide +kernel
theorem dX7_isSafe_44 : decode cX7_isSafe 44 = .ok (.ireturn, 1) := by decide +kernel
theorem dX7_isSafe_45 : decode cX7_isSafe 45 = .ok (.iinc 1 1, 3) := by decide +kernel
theorem dX7_isSafe_48 : decode cX7_isSafe 48 = .ok (.goto (-46), 3) := by decide +kernel
theorem dX7_isSafe_51 : decode cX7_isSafe 51 = .ok (.iconst 1, 1) := by decide +kernel
theorem dX7_isSafe_52 : decode cX7_isSafe 52 = .ok (.ireturn, 1) := by decide +kernel
theorem dX7_cheapest_0 : decode cX7_cheapest 0 = .ok (.aload_n 0, 1) := by decide +kernel
theorem dX7_cheapest_1 : decode cX7_cheapest 1 = .ok (.iload_n 1, 1) := by decide +kernel
theorem dX7_cheapest_2 : decode cX7_cheapest 2 = .ok (.iload_n 2, 1) := by decide +kernel
theorem dX7_cheapest_3 : decode cX7_cheapest 3 = .ok (.iload_n 3, 1) := by decide +kernel
theorem dX7_cheapest_4 : decode cX7_cheapest 4 = .ok (.invokevirtual 202, 3) := by decide +kernel
theorem dX7_cheapest_7 : decode cX7_cheapest 7 = .ok (.istore 4, 2) := by decide +kernel
theorem dX7_cheapest_9 : decode cX7_cheapest 9 = .ok (.iload 4, 2) := by decide +kernel
theorem dX7_cheapest_11 : decode cX7_cheapest 11 = .ok (.ifCond .ne 7, 3) := by decide +kernel
theorem dX7_cheapest_14 : decode cX7_cheapest 14 = .ok (.iconst (-1), 1) := by decide +kernel
theorem dX7_cheapest_15 : decode cX7_cheapest 15 = .ok (.goto 24, 3) := by decide +kernel
theorem dX7_cheapest_18 : decode cX7_cheapest 18 = .ok (.aload_n 0, 1) := by decide +kernel
theorem dX7_cheapest_19 : decode cX7_cheapest 19 = .ok (.getfield 10, 3) := by decide +kernel
theorem dX7_cheapest_22 : decode cX7_cheapest 22 = .ok (.getfield 206, 3) := by decide +kernel
theorem dX7_cheapest_25 : decode cX7_cheapest 25 = .ok (.aload_n 0, 1) := by decide +kernel
theorem dX7_cheapest_26 : decode cX7_cheapest 26 = .ok (.getfield 10, 3) := by decide +kernel
theorem dX7_cheapest_29 : decode cX7_cheapest 29 = .ok (.getfield 55, 3) := by decide +kernel
theorem dX7_cheapest_32 : decode cX7_cheapest 32 = .ok (.getfield 210, 3) := by decide +kernel
theorem dX7_cheapest_35 : decode cX7_cheapest 35 = .ok (.iconst 0, 1) := by decide +kernel
theorem dX7_cheapest_36 : decode cX7_cheapest 36 = .ok (.invokevirtual 213, 3) := by decide +kernel
theorem dX7_cheapest_39 : decode cX7_cheapest 39 = .ok (.ireturn, 1) := by decide +kernel
theorem dX7_roundTrip_0 : decode cX7_roundTrip 0 = .ok (.aload_n 0, 1) := by decide +kernel
theorem dX7_roundTrip_1 : decode cX7_roundTrip 1 = .ok (.iload_n 1, 1) := by decide +kernel
theorem dX7_roundTrip_2 : decode cX7_roundTrip 2 = .ok (.iload_n 2, 1) := by decide +kernel
theorem dX7_roundTrip_3 : decode cX7_roundTrip 3 = .ok (.iload_n 3, 1) := by decide +kernel
theorem dX7_roundTrip_4 : decode cX7_roundTrip 4 = .ok (.invokevirtual 202, 3) := by decide +kernel
theorem dX7_roundTrip_7 : decode cX7_roundTrip 7 = .ok (.istore 4, 2) := by decide +kernel
theorem dX7_roundTrip_9 : decode cX7_roundTrip 9 = .ok (.iload 4, 2) := by decide +kernel
theorem dX7_roundTrip_11 : decode cX7_roundTrip 11 = .ok (.ifCond .ne 7, 3) := by decide +kernel
theorem dX7_roundTrip_14 : decode cX7_roundTrip 14 = .ok (.iconst (-1), 1) := by decide +kernel
theorem dX7_roundTrip_15 : decode cX7_roundTrip 15 = .ok (.goto 26, 3) := by decide +kernel
theorem dX7_roundTrip_18 : decode cX7_roundTrip 18 = .ok (.iconst 2, 1) := by decide +kernel
theorem dX7_roundTrip_19 : decode cX7_roundTrip 19 = .ok (.aload_n 0, 1) := by decide +kernel
theorem dX7_roundTrip_20 : decode cX7_roundTrip 20 = .ok (.getfield 10, 3) := by decide +kernel
theorem dX7_roundTrip_23 : decode cX7_roundTrip 23 = .ok (.getfield 206, 3) := by decide +kernel
theorem dX7_roundTrip_26 : decode cX7_roundTrip 26 = .ok (.aload_n 0, 1) := by decide +kernel
theorem dX7_roundTrip_27 : decode cX7_roundTrip 27 = .ok (.getfield 10, 3) := by decide +kernel
theorem dX7_roundTrip_30 : decode cX7_roundTrip 30 = .ok (.getfield 55, 3) := by decide +kernel
theorem dX7_roundTrip_33 : decode cX7_roundTrip 33 = .ok (.getfield 222, 3) := by decide +kernel
theorem dX7_roundTrip_36 : decode cX7_roundTrip 36 = .ok (.iconst 0, 1) := by decide +kernel
theorem dX7_roundTrip_37 : decode cX7_roundTrip 37 = .ok (.invokevirtual 213, 3) := by decide +kernel
theorem dX7_roundTrip_40 : decode cX7_roundTrip 40 = .ok (.imul, 1) := by decide +kernel
theorem dX7_roundTrip_41 : decode cX7_roundTrip 41 = .ok (.ireturn, 1) := by decide +kernel
theorem dX7_neededHold_0 : decode cX7_neededHold 0 = .ok (.aload_n 0, 1) := by decide +kernel
theorem dX7_neededHold_1 : decode cX7_neededHold 1 = .ok (.iload_n 1, 1) := by decide +kernel
theorem dX7_neededHold_2 : decode cX7_neededHold 2 = .ok (.iload_n 2, 1) := by decide +kernel
theorem dX7_neededHold_3 : decode cX7_neededHold 3 = .ok (.iload_n 3, 1) := by decide +kernel
theorem dX7_neededHold_4 : decode cX7_neededHold 4 = .ok (.invokevirtual 202, 3) := by decide +kernel
theorem dX7_neededHold_7 : decode cX7_neededHold 7 = .ok (.istore 4, 2) := by decide +kernel
theorem dX7_neededHold_9 : decode cX7_neededHold 9 = .ok (.iconst 0, 1) := by decide +kernel
theorem dX7_neededHold_10 : decode cX7_neededHold 10 = .ok (.istore 5, 2) := by decide +kernel
theorem dX7_neededHold_12 : decode cX7_neededHold 12 = .ok (.iconst 0, 1) := by decide +kernel
theorem dX7_neededHold_13 : decode cX7_neededHold 13 = .ok (.istore 6, 2) := by decide +kernel
theorem dX7_neededHold_15 : decode cX7_neededHold 15 = .ok (.iload 6, 2) := by decide +kernel
theorem dX7_neededHold_17 : decode cX7_neededHold 17 = .ok (.iload 4, 2) := by decide +kernel
theorem dX7_neededHold_19 : decode cX7_neededHold 19 = .ok (.if_icmp .ge 71, 3) := by decide +kernel
theorem dX7_neededHold_22 : decode cX7_neededHold 22 = .ok (.aload_n 0, 1) := by decide +kernel
theorem dX7_neededHold_23 : decode cX7_neededHold 23 = .ok (.getfield 10, 3) := by decide +kernel
theorem dX7_neededHold_26 : decode cX7_neededHold 26 = .ok (.getfield 55, 3) := by decide +kernel
theorem dX7_neededHold_29 : decode cX7_neededHold 29 = .ok (.getfield 222, 3) := by decide +kernel
theorem dX7_neededHold_32 : decode cX7_neededHold 32 = .ok (.aload_n 0, 1) := by decide +kernel
theorem dX7_neededHold_33 : decode cX7_neededHold 33 = .ok (.getfield 10, 3) := by decide +kernel
theorem dX7_neededHold_36 : decode cX7_neededHold 36 = .ok (.getfield 206, 3) := by decide +kernel
theorem dX7_neededHold_39 : decode cX7_neededHold 39 = .ok (.getfield 219, 3) := by decide +kernel
theorem dX7_neededHold_42 : decode cX7_neededHold 42 = .ok (.iload 6, 2) := by decide +kernel
theorem dX7_neededHold_44 : decode cX7_neededHold 44 = .ok (.iaload, 1) := by decide +kernel
theorem dX7_neededHold_45 : decode cX7_neededHold 45 = .ok (.iaload, 1) := by decide +kernel
theorem dX7_neededHold_46 : decode cX7_neededHold 46 = .ok (.istore 7, 2) := by decide +kernel
theorem dX7_neededHold_48 : decode cX7_neededHold 48 = .ok (.iload 5, 2) := by decide +kernel
theorem dX7_neededHold_50 : decode cX7_neededHold 50 = .ok (.iconst 2, 1) := by decide +kernel
theorem dX7_neededHold_51 : decode cX7_neededHold 51 = .ok (.aload_n 0, 1) := by decide +kernel
theorem dX7_neededHold_52 : decode cX7_neededHold 52 = .ok (.getfield 10, 3) := by decide +kernel
theorem dX7_neededHold_55 : decode cX7_neededHold 55 = .ok (.getfield 206, 3) := by decide +kernel
theorem dX7_neededHold_58 : decode cX7_neededHold 58 = .ok (.aload_n 0, 1) := by decide +kernel
theorem dX7_neededHold_59 : decode cX7_neededHold 59 = .ok (.getfield 10, 3) := by decide +kernel
theorem dX7_neededHold_62 : decode cX7_neededHold 62 = .ok (.getfield 55, 3) := by decide +kernel
theorem dX7_neededHold_65 : decode cX7_neededHold 65 = .ok (.getfield 222, 3) := by decide +kernel
theorem dX7_neededHold_68 : decode cX7_neededHold 68 = .ok (.iload 6, 2) := by decide +kernel
theorem dX7_neededHold_70 : decode cX7_neededHold 70 = .ok (.iconst 1, 1) := by decide +kernel
theorem dX7_neededHold_71 : decode cX7_neededHold 71 = .ok (.iadd, 1) := by decide +kernel
theorem dX7_neededHold_72 : decode cX7_neededHold 72 = .ok (.invokevirtual 213, 3) := by decide +kernel
theorem dX7_neededHold_75 : decode cX7_neededHold 75 = .ok (.imul, 1) := by decide +kernel
theorem dX7_neededHold_76 : decode cX7_neededHold 76 = .ok (.iload 7, 2) := by decide +kernel
theorem dX7_neededHold_78 : decode cX7_neededHold 78 = .ok (.iadd, 1) := by decide +kernel
theorem dX7_neededHold_79 : decode cX7_neededHold 79 = .ok (.invokestatic 225, 3) := by decide +kernel
theorem dX7_neededHold_82 : decode cX7_neededHold 82 = .ok (.istore 5, 2) := by decide +kernel
theorem dX7_neededHold_84 : decode cX7_neededHold 84 = .ok (.iinc 6 1, 3) := by decide +kernel
theorem dX7_neededHold_87 : decode cX7_neededHold 87 = .ok (.goto (-72), 3) := by decide +kernel
theorem dX7_neededHold_90 : decode cX7_neededHold 90 = .ok (.iload 4, 2) := by decide +kernel
theorem dX7_neededHold_92 : decode cX7_neededHold 92 = .ok (.ifCond .ne 7, 3) := by decide +kernel
theorem dX7_neededHold_95 : decode cX7_neededHold 95 = .ok (.iconst (-1), 1) := by decide +kernel
theorem dX7_neededHold_96 : decode cX7_neededHold 96 = .ok (.goto 7, 3) := by decide +kernel
theorem dX7_neededHold_99 : decode cX7_neededHold 99 = .ok (.iload 5, 2) := by decide +kernel
theorem dX7_neededHold_101 : decode cX7_neededHold 101 = .ok (.iconst 1, 1) := by decide +kernel
theorem dX7_neededHold_102 : decode cX7_neededHold 102 = .ok (.iadd, 1) := by decide +kernel
theorem dX7_neededHold_103 : decode cX7_neededHold 103 = .ok (.ireturn, 1) := by decide +kernel
theorem dX7_widest_0 : decode cX7_widest 0 = .ok (.aload_n 0, 1) := by decide +kernel
theorem dX7_widest_1 : decode cX7_widest 1 = .ok (.iload_n 1, 1) := by decide +kernel
theorem dX7_widest_2 : decode cX7_widest 2 = .ok (.iload_n 2, 1) := by decide +kernel
theorem dX7_widest_3 : decode cX7_widest 3 = .ok (.invokevirtual 124, 3) := by decide +kernel
theorem dX7_widest_6 : decode cX7_widest 6 = .ok (.aload_n 0, 1) := by decide +kernel
theorem dX7_widest_7 : decode cX7_widest 7 = .ok (.getfield 10, 3) := by decide +kernel
theorem dX7_widest_10 : decode cX7_widest 10 = .ok (.getfield 206, 3) := by decide +kernel
theorem dX7_widest_13 : decode cX7_widest 13 = .ok (.aload_n 0, 1) := by decide +kernel
theorem dX7_widest_14 : decode cX7_widest 14 = .ok (.getfield 10, 3) := by decide +kernel
theorem dX7_widest_17 : decode cX7_widest 17 = .ok (.getfield 55, 3) := by decide +kernel
theorem dX7_widest_20 : decode cX7_widest 20 = .ok (.iload_n 1, 1) := by decide +kernel
theorem dX7_widest_21 : decode cX7_widest 21 = .ok (.iload_n 2, 1) := by decide +kernel
theorem dX7_widest_22 : decode cX7_widest 22 = .ok (.invokevirtual 230, 3) := by decide +kernel
theorem dX7_widest_25 : decode cX7_widest 25 = .ok (.ireturn, 1) := by decide +kernel
theorem dX7_greatestFlow_0 : decode cX7_greatestFlow 0 = .ok (.aload_n 0, 1) := by decide +kernel
theorem dX7_greatestFlow_1 : decode cX7_greatestFlow 1 = .ok (.iload_n 1, 1) := by decide +kernel
theorem dX7_greatestFlow_2 : decode cX7_greatestFlow 2 = .ok (.iload_n 2, 1) := by decide +kernel
theorem dX7_greatestFlow_3 : decode cX7_greatestFlow 3 = .ok (.invokevirtual 124, 3) := by decide +kernel
theorem dX7_greatestFlow_6 : decode cX7_greatestFlow 6 = .ok (.aload_n 0, 1) := by decide +kernel
theorem dX7_greatestFlow_7 : decode cX7_greatestFlow 7 = .ok (.getfield 26, 3) := by decide +kernel
theorem dX7_greatestFlow_10 : decode cX7_greatestFlow 10 = .ok (.aload_n 0, 1) := by decide +kernel
theorem dX7_greatestFlow_11 : decode cX7_greatestFlow 11 = .ok (.getfield 10, 3) := by decide +kernel
theorem dX7_greatestFlow_14 : decode cX7_greatestFlow 14 = .ok (.getfield 55, 3) := by decide +kernel
theorem dX7_greatestFlow_17 : decode cX7_greatestFlow 17 = .ok (.invokevirtual 234, 3) := by decide +kernel
theorem dX7_greatestFlow_20 : decode cX7_greatestFlow 20 = .ok (.aload_n 0, 1) := by decide +kernel
theorem dX7_greatestFlow_21 : decode cX7_greatestFlow 21 = .ok (.getfield 26, 3) := by decide +kernel
theorem dX7_greatestFlow_24 : decode cX7_greatestFlow 24 = .ok (.aload_n 0, 1) := by decide +kernel
theorem dX7_greatestFlow_25 : decode cX7_greatestFlow 25 = .ok (.getfield 10, 3) := by decide +kernel
theorem dX7_greatestFlow_28 : decode cX7_greatestFlow 28 = .ok (.getfield 55, 3) := by decide +kernel
theorem dX7_greatestFlow_31 : decode cX7_greatestFlow 31 = .ok (.iload_n 1, 1) := by decide +kernel
theorem dX7_greatestFlow_32 : decode cX7_greatestFlow 32 = .ok (.iload_n 2, 1) := by decide +kernel
theorem dX7_greatestFlow_33 : decode cX7_greatestFlow 33 = .ok (.invokevirtual 238, 3) := by decide +kernel
theorem dX7_greatestFlow_36 : decode cX7_greatestFlow 36 = .ok (.ireturn, 1) := by decide +kernel
theorem dX7_smallestCut_0 : decode cX7_smallestCut 0 = .ok (.aload_n 0, 1) := by decide +kernel
theorem dX7_smallestCut_1 : decode cX7_smallestCut 1 = .ok (.iload_n 1, 1) := by decide +kernel
theorem dX7_smallestCut_2 : decode cX7_smallestCut 2 = .ok (.iload_n 2, 1) := by decide +kernel
theorem dX7_smallestCut_3 : decode cX7_smallestCut 3 = .ok (.invokevirtual 124, 3) := by decide +kernel
theorem dX7_smallestCut_6 : decode cX7_smallestCut 6 = .ok (.aload_n 0, 1) := by decide +kernel
theorem dX7_smallestCut_7 : decode cX7_smallestCut 7 = .ok (.getfield 26, 3) := by decide +kernel
theorem dX7_smallestCut_10 : decode cX7_smallestCut 10 = .ok (.aload_n 0, 1) := by decide +kernel
theorem dX7_smallestCut_11 : decode cX7_smallestCut 11 = .ok (.getfield 10, 3) := by decide +kernel
theorem dX7_smallestCut_14 : decode cX7_smallestCut 14 = .ok (.getfield 55, 3) := by decide +kernel
theorem dX7_smallestCut_17 : decode cX7_smallestCut 17 = .ok (.invokevirtual 234, 3) := by decide +kernel
theorem dX7_smallestCut_20 : decode cX7_smallestCut 20 = .ok (.aload_n 0, 1) := by decide +kernel
theorem dX7_smallestCut_21 : decode cX7_smallestCut 21 = .ok (.getfield 26, 3) := by decide +kernel
theorem dX7_smallestCut_24 : decode cX7_smallestCut 24 = .ok (.aload_n 0, 1) := by decide +kernel
theorem dX7_smallestCut_25 : decode cX7_smallestCut 25 = .ok (.getfield 10, 3) := by decide +kernel
theorem dX7_smallestCut_28 : decode cX7_smallestCut 28 = .ok (.getfield 55, 3) := by decide +kernel
theorem dX7_smallestCut_31 : decode cX7_smallestCut 31 = .ok (.iload_n 1, 1) := by decide +kernel
theorem dX7_smallestCut_32 : decode cX7_smallestCut 32 = .ok (.iload_n 2, 1) := by decide +kernel
theorem dX7_smallestCut_33 : decode cX7_smallestCut 33 = .ok (.invokevirtual 238, 3) := by decide +kernel
theorem dX7_smallestCut_36 : decode cX7_smallestCut 36 = .ok (.pop, 1) := by decide +kernel
theorem dX7_smallestCut_37 : decode cX7_smallestCut 37 = .ok (.iconst 0, 1) := by decide +kernel
theorem dX7_smallestCut_38 : decode cX7_smallestCut 38 = .ok (.istore_n 3, 1) := by decide +kernel
theorem dX7_smallestCut_39 : decode cX7_smallestCut 39 = .ok (.iconst 0, 1) := by decide +kernel
theorem dX7_smallestCut_40 : decode cX7_smallestCut 40 = .ok (.istore 4, 2) := by decide +kernel
theorem dX7_smallestCut_42 : decode cX7_smallestCut 42 = .ok (.iload 4, 2) := by decide +kernel
theorem dX7_smallestCut_44 : decode cX7_smallestCut 44 = .ok (.aload_n 0, 1) := by decide +kernel
theorem dX7_smallestCut_45 : decode cX7_smallestCut 45 = .ok (.getfield 10, 3) := by decide +kernel
theorem dX7_smallestCut_48 : decode cX7_smallestCut 48 = .ok (.getfield 55, 3) := by decide +kernel
theorem dX7_smallestCut_51 : decode cX7_smallestCut 51 = .ok (.getfield 59, 3) := by decide +kernel
theorem dX7_smallestCut_54 : decode cX7_smallestCut 54 = .ok (.if_icmp .ge 78, 3) := by decide +kernel
theorem dX7_smallestCut_57 : decode cX7_smallestCut 57 = .ok (.aload_n 0, 1) := by decide +kernel
theorem dX7_smallestCut_58 : decode cX7_smallestCut 58 = .ok (.getfield 26, 3) := by decide +kernel
theorem dX7_smallestCut_61 : decode cX7_smallestCut 61 = .ok (.aload_n 0, 1) := by decide +kernel
theorem dX7_smallestCut_62 : decode cX7_smallestCut 62 = .ok (.getfield 10, 3) := by decide +kernel
theorem dX7_smallestCut_65 : decode cX7_smallestCut 65 = .ok (.getfield 55, 3) := by decide +kernel
theorem dX7_smallestCut_68 : decode cX7_smallestCut 68 = .ok (.getfield 241, 3) := by decide +kernel
theorem dX7_smallestCut_71 : decode cX7_smallestCut 71 = .ok (.iload 4, 2) := by decide +kernel
theorem dX7_smallestCut_73 : decode cX7_smallestCut 73 = .ok (.iaload, 1) := by decide +kernel
theorem dX7_smallestCut_74 : decode cX7_smallestCut 74 = .ok (.invokevirtual 244, 3) := by decide +kernel
theorem dX7_smallestCut_77 : decode cX7_smallestCut 77 = .ok (.ifCond .eq 30, 3) := by decide +kernel
theorem dX7_smallestCut_80 : decode cX7_smallestCut 80 = .ok (.aload_n 0, 1) := by decide +kernel
theorem dX7_smallestCut_81 : decode cX7_smallestCut 81 = .ok (.getfield 26, 3) := by decide +kernel
theorem dX7_smallestCut_84 : decode cX7_smallestCut 84 = .ok (.aload_n 0, 1) := by decide +kernel
theorem dX7_smallestCut_85 : decode cX7_smallestCut 85 = .ok (.getfield 10, 3) := by decide +kernel
theorem dX7_smallestCut_88 : decode cX7_smallestCut 88 = .ok (.getfield 55, 3) := by decide +kernel
theorem dX7_smallestCut_91 : decode cX7_smallestCut 91 = .ok (.getfield 247, 3) := by decide +kernel
theorem dX7_smallestCut_94 : decode cX7_smallestCut 94 = .ok (.iload 4, 2) := by decide +kernel
theorem dX7_smallestCut_96 : decode cX7_smallestCut 96 = .ok (.iaload, 1) := by decide +kernel
theorem dX7_smallestCut_97 : decode cX7_smallestCut 97 = .ok (.invokevirtual 244, 3) := by decide +kernel
theorem dX7_smallestCut_100 : decode cX7_smallestCut 100 = .ok (.ifCond .ne 7, 3) := by decide +kernel
theorem dX7_smallestCut_103 : decode cX7_smallestCut 103 = .ok (.iconst 1, 1) := by decide +kernel
theorem dX7_smallestCut_104 : decode cX7_smallestCut 104 = .ok (.goto 4, 3) := by decide +kernel
theorem dX7_smallestCut_107 : decode cX7_smallestCut 107 = .ok (.iconst 0, 1) := by decide +kernel
theorem dX7_smallestCut_108 : decode cX7_smallestCut 108 = .ok (.istore 5, 2) := by decide +kernel
theorem dX7_smallestCut_110 : decode cX7_smallestCut 110 = .ok (.iload_n 3, 1) := by decide +kernel
theorem dX7_smallestCut_111 : decode cX7_smallestCut 111 = .ok (.iload 5, 2) := by decide +kernel
theorem dX7_smallestCut_113 : decode cX7_smallestCut 113 = .ok (.ifCond .eq 10, 3) := by decide +kernel
theorem dX7_smallestCut_116 : decode cX7_smallestCut 116 = .ok (.iconst 1, 1) := by decide +kernel
theorem dX7_smallestCut_117 : decode cX7_smallestCut 117 = .ok (.iload 4, 2) := by decide +kernel
theorem dX7_smallestCut_119 : decode cX7_smallestCut 119 = .ok (.ishl, 1) := by decide +kernel
theorem dX7_smallestCut_120 : decode cX7_smallestCut 120 = .ok (.goto 4, 3) := by decide +kernel
theorem dX7_smallestCut_123 : decode cX7_smallestCut 123 = .ok (.iconst 0, 1) := by decide +kernel
theorem dX7_smallestCut_124 : decode cX7_smallestCut 124 = .ok (.ior, 1) := by decide +kernel
theorem dX7_smallestCut_125 : decode cX7_smallestCut 125 = .ok (.istore_n 3, 1) := by decide +kernel
theorem dX7_smallestCut_126 : decode cX7_smallestCut 126 = .ok (.iinc 4 1, 3) := by decide +kernel
theorem dX7_smallestCut_129 : decode cX7_smallestCut 129 = .ok (.goto (-87), 3) := by decide +kernel
theorem dX7_smallestCut_132 : decode cX7_smallestCut 132 = .ok (.iload_n 3, 1) := by decide +kernel
theorem dX7_smallestCut_133 : decode cX7_smallestCut 133 = .ok (.aload_n 0, 1) := by decide +kernel
theorem dX7_smallestCut_134 : decode cX7_smallestCut 134 = .ok (.getfield 10, 3) := by decide +kernel
theorem dX7_smallestCut_137 : decode cX7_smallestCut 137 = .ok (.getfield 55, 3) := by decide +kernel
theorem dX7_smallestCut_140 : decode cX7_smallestCut 140 = .ok (.getfield 118, 3) := by decide +kernel
theorem dX7_smallestCut_143 : decode cX7_smallestCut 143 = .ok (.iand, 1) := by decide +kernel
theorem dX7_smallestCut_144 : decode cX7_smallestCut 144 = .ok (.ireturn, 1) := by decide +kernel
theorem dX7_disjointPaths_0 : decode cX7_disjointPaths 0 = .ok (.aload_n 0, 1) := by decide +kernel
theorem dX7_disjointPaths_1 : decode cX7_disjointPaths 1 = .ok (.iload_n 1, 1) := by decide +kernel
theorem dX7_disjointPaths_2 : decode cX7_disjointPaths 2 = .ok (.iload_n 2, 1) := by decide +kernel
theorem dX7_disjointPaths_3 : decode cX7_disjointPaths 3 = .ok (.invokevirtual 124, 3) := by decide +kernel
theorem dX7_disjointPaths_6 : decode cX7_disjointPaths 6 = .ok (.iload_n 3, 1) := by decide +kernel
theorem dX7_disjointPaths_7 : decode cX7_disjointPaths 7 = .ok (.iconst 0, 1) := by decide +kernel
theorem dX7_disjointPaths_8 : decode cX7_disjointPaths 8 = .ok (.sipush 1000, 3) := by decide +kernel
theorem dX7_disjointPaths_11 : decode cX7_disjointPaths 11 = .ok (.invokestatic 86, 3) := by decide +kernel
theorem dX7_disjointPaths_14 : decode cX7_disjointPaths 14 = .ok (.aload_n 0, 1) := by decide +kernel
theorem dX7_disjointPaths_15 : decode cX7_disjointPaths 15 = .ok (.getfield 26, 3) := by decide +kernel
theorem dX7_disjointPaths_18 : decode cX7_disjointPaths 18 = .ok (.aload_n 0, 1) := by decide +kernel
theorem dX7_disjointPaths_19 : decode cX7_disjointPaths 19 = .ok (.getfield 10, 3) := by decide +kernel
theorem dX7_disjointPaths_22 : decode cX7_disjointPaths 22 = .ok (.getfield 55, 3) := by decide +kernel
theorem dX7_disjointPaths_25 : decode cX7_disjointPaths 25 = .ok (.iload_n 3, 1) := by decide +kernel
theorem dX7_disjointPaths_26 : decode cX7_disjointPaths 26 = .ok (.invokevirtual 250, 3) := by decide +kernel
theorem dX7_disjointPaths_29 : decode cX7_disjointPaths 29 = .ok (.invokevirtual 253, 3) := by decide +kernel
theorem dX7_disjointPaths_32 : decode cX7_disjointPaths 32 = .ok (.aload_n 0, 1) := by decide +kernel
theorem dX7_disjointPaths_33 : decode cX7_disjointPaths 33 = .ok (.getfield 26, 3) := by decide +kernel
theorem dX7_disjointPaths_36 : decode cX7_disjointPaths 36 = .ok (.aload_n 0, 1) := by decide +kernel
theorem dX7_disjointPaths_37 : decode cX7_disjointPaths 37 = .ok (.getfield 10, 3) := by decide +kernel
theorem dX7_disjointPaths_40 : decode cX7_disjointPaths 40 = .ok (.getfield 55, 3) := by decide +kernel
theorem dX7_disjointPaths_43 : decode cX7_disjointPaths 43 = .ok (.iload_n 1, 1) := by decide +kernel
theorem dX7_disjointPaths_44 : decode cX7_disjointPaths 44 = .ok (.iload_n 2, 1) := by decide +kernel
theorem dX7_disjointPaths_45 : decode cX7_disjointPaths 45 = .ok (.invokevirtual 238, 3) := by decide +kernel
theorem dX7_disjointPaths_48 : decode cX7_disjointPaths 48 = .ok (.ireturn, 1) := by decide +kernel
theorem dX7_reachable_0 : decode cX7_reachable 0 = .ok (.iload_n 1, 1) := by decide +kernel
theorem dX7_reachable_1 : decode cX7_reachable 1 = .ok (.aload_n 0, 1) := by decide +kernel
theorem dX7_reachable_2 : decode cX7_reachable 2 = .ok (.getfield 10, 3) := by decide +kernel
theorem dX7_reachable_5 : decode cX7_reachable 5 = .ok (.getfield 71, 3) := by decide +kernel
theorem dX7_reachable_8 : decode cX7_reachable 8 = .ok (.invokestatic 74, 3) := by decide +kernel
theorem dX7_reachable_11 : decode cX7_reachable 11 = .ok (.iload_n 2, 1) := by decide +kernel
theorem dX7_reachable_12 : decode cX7_reachable 12 = .ok (.iconst 0, 1) := by decide +kernel
theorem dX7_reachable_13 : decode cX7_reachable 13 = .ok (.sipush 1000, 3) := by decide +kernel
theorem dX7_reachable_16 : decode cX7_reachable 16 = .ok (.invokestatic 86, 3) := by decide +kernel
theorem dX7_reachable_19 : decode cX7_reachable 19 = .ok (.aload_n 0, 1) := by decide +kernel
theorem dX7_reachable_20 : decode cX7_reachable 20 = .ok (.getfield 10, 3) := by decide +kernel
theorem dX7_reachable_23 : decode cX7_reachable 23 = .ok (.getfield 206, 3) := by decide +kernel
theorem dX7_reachable_26 : decode cX7_reachable 26 = .ok (.aload_n 0, 1) := by decide +kernel
theorem dX7_reachable_27 : decode cX7_reachable 27 = .ok (.getfield 10, 3) := by decide +kernel
theorem dX7_reachable_30 : decode cX7_reachable 30 = .ok (.getfield 55, 3) := by decide +kernel
theorem dX7_reachable_33 : decode cX7_reachable 33 = .ok (.iload_n 1, 1) := by decide +kernel
theorem dX7_reachable_34 : decode cX7_reachable 34 = .ok (.aload_n 0, 1) := by decide +kernel
theorem dX7_reachable_35 : decode cX7_reachable 35 = .ok (.getfield 10, 3) := by decide +kernel
theorem dX7_reachable_38 : decode cX7_reachable 38 = .ok (.getfield 55, 3) := by decide +kernel
theorem dX7_reachable_41 : decode cX7_reachable 41 = .ok (.iload_n 2, 1) := by decide +kernel
theorem dX7_reachable_42 : decode cX7_reachable 42 = .ok (.invokevirtual 250, 3) := by decide +kernel
theorem dX7_reachable_45 : decode cX7_reachable 45 = .ok (.invokevirtual 256, 3) := by decide +kernel
theorem dX7_reachable_48 : decode cX7_reachable 48 = .ok (.ireturn, 1) := by decide +kernel
theorem dX7_ticksUntilActive_0 : decode cX7_ticksUntilActive 0 = .ok (.iload_n 1, 1) := by decide +kernel
theorem dX7_ticksUntilActive_1 : decode cX7_ticksUntilActive 1 = .ok (.aload_n 0, 1) := by decide +kernel
theorem dX7_ticksUntilActive_2 : decode cX7_ticksUntilActive 2 = .ok (.getfield 10, 3) := by decide +kernel
theorem dX7_ticksUntilActive_5 : decode cX7_ticksUntilActive 5 = .ok (.getfield 131, 3) := by decide +kernel
theorem dX7_ticksUntilActive_8 : decode cX7_ticksUntilActive 8 = .ok (.getfield 135, 3) := by decide +kernel
theorem dX7_ticksUntilActive_11 : decode cX7_ticksUntilActive 11 = .ok (.invokestatic 74, 3) := by decide +kernel
theorem dX7_ticksUntilActive_14 : decode cX7_ticksUntilActive 14 = .ok (.aload_n 0, 1) := by decide +kernel
theorem dX7_ticksUntilActive_15 : decode cX7_ticksUntilActive 15 = .ok (.getfield 16, 3) := by decide +kernel
theorem dX7_ticksUntilActive_18 : decode cX7_ticksUntilActive 18 = .ok (.aload_n 0, 1) := by decide +kernel
theorem dX7_ticksUntilActive_19 : decode cX7_ticksUntilActive 19 = .ok (.getfield 10, 3) := by decide +kernel
theorem dX7_ticksUntilActive_22 : decode cX7_ticksUntilActive 22 = .ok (.invokevirtual 52, 3) := by decide +kernel
theorem dX7_ticksUntilActive_25 : decode cX7_ticksUntilActive 25 = .ok (.aload_n 0, 1) := by decide +kernel
theorem dX7_ticksUntilActive_26 : decode cX7_ticksUntilActive 26 = .ok (.getfield 16, 3) := by decide +kernel
theorem dX7_ticksUntilActive_29 : decode cX7_ticksUntilActive 29 = .ok (.iload_n 1, 1) := by decide +kernel
theorem dX7_ticksUntilActive_30 : decode cX7_ticksUntilActive 30 = .ok (.invokevirtual 259, 3) := by decide +kernel
theorem dX7_ticksUntilActive_33 : decode cX7_ticksUntilActive 33 = .ok (.ireturn, 1) := by decide +kernel
theorem dX7_greatestNew_0 : decode cX7_greatestNew 0 = .ok (.aload_n 0, 1) := by decide +kernel
theorem dX7_greatestNew_1 : decode cX7_greatestNew 1 = .ok (.iload_n 1, 1) := by decide +kernel
theorem dX7_greatestNew_2 : decode cX7_greatestNew 2 = .ok (.iload_n 2, 1) := by decide +kernel
theorem dX7_greatestNew_3 : decode cX7_greatestNew 3 = .ok (.invokevirtual 124, 3) := by decide +kernel
theorem dX7_greatestNew_6 : decode cX7_greatestNew 6 = .ok (.sipush 512, 3) := by decide +kernel
theorem dX7_greatestNew_9 : decode cX7_greatestNew 9 = .ok (.istore_n 3, 1) := by decide +kernel
theorem dX7_greatestNew_10 : decode cX7_greatestNew 10 = .ok (.iload_n 3, 1) := by decide +kernel
theorem dX7_greatestNew_11 : decode cX7_greatestNew 11 = .ok (.iconst 1, 1) := by decide +kernel
theorem dX7_greatestNew_12 : decode cX7_greatestNew 12 = .ok (.if_icmp .lt 59, 3) := by decide +kernel
theorem dX7_greatestNew_15 : decode cX7_greatestNew 15 = .ok (.aload_n 0, 1) := by decide +kernel
theorem dX7_greatestNew_16 : decode cX7_greatestNew 16 = .ok (.getfield 16, 3) := by decide +kernel
theorem dX7_greatestNew_19 : decode cX7_greatestNew 19 = .ok (.aload_n 0, 1) := by decide +kernel
theorem dX7_greatestNew_20 : decode cX7_greatestNew 20 = .ok (.getfield 10, 3) := by decide +kernel
theorem dX7_greatestNew_23 : decode cX7_greatestNew 23 = .ok (.invokevirtual 52, 3) := by decide +kernel
theorem dX7_greatestNew_26 : decode cX7_greatestNew 26 = .ok (.aload_n 0, 1) := by decide +kernel
theorem dX7_greatestNew_27 : decode cX7_greatestNew 27 = .ok (.getfield 16, 3) := by decide +kernel
theorem dX7_greatestNew_30 : decode cX7_greatestNew 30 = .ok (.iload_n 1, 1) := by decide +kernel
theorem dX7_greatestNew_31 : decode cX7_greatestNew 31 = .ok (.iload_n 2, 1) := by decide +kernel
theorem dX7_greatestNew_32 : decode cX7_greatestNew 32 = .ok (.iload_n 3, 1) := by decide +kernel
theorem dX7_greatestNew_33 : decode cX7_greatestNew 33 = .ok (.iconst 1, 1) := by decide +kernel
theorem dX7_greatestNew_34 : decode cX7_greatestNew 34 = .ok (.invokevirtual 127, 3) := by decide +kernel
theorem dX7_greatestNew_37 : decode cX7_greatestNew 37 = .ok (.istore 4, 2) := by decide +kernel
theorem dX7_greatestNew_39 : decode cX7_greatestNew 39 = .ok (.iload 4, 2) := by decide +kernel
theorem dX7_greatestNew_41 : decode cX7_greatestNew 41 = .ok (.bipush (-2), 2) := by decide +kernel
theorem dX7_greatestNew_43 : decode cX7_greatestNew 43 = .ok (.if_icmp .ne 6, 3) := by decide +kernel
theorem dX7_greatestNew_46 : decode cX7_greatestNew 46 = .ok (.bipush (-2), 2) := by decide +kernel
theorem dX7_greatestNew_48 : decode cX7_greatestNew 48 = .ok (.ireturn, 1) := by decide +kernel
theorem dX7_greatestNew_49 : decode cX7_greatestNew 49 = .ok (.aload_n 0, 1) := by decide +kernel
theorem dX7_greatestNew_50 : decode cX7_greatestNew 50 = .ok (.getfield 16, 3) := by decide +kernel
theorem dX7_greatestNew_53 : decode cX7_greatestNew 53 = .ok (.iload 4, 2) := by decide +kernel
theorem dX7_greatestNew_55 : decode cX7_greatestNew 55 = .ok (.invokevirtual 259, 3) := by decide +kernel
theorem dX7_greatestNew_58 : decode cX7_greatestNew 58 = .ok (.iconst (-1), 1) := by decide +kernel
theorem dX7_greatestNew_59 : decode cX7_greatestNew 59 = .ok (.if_icmp .eq 5, 3) := by decide +kernel
theorem dX7_greatestNew_62 : decode cX7_greatestNew 62 = .ok (.iload_n 3, 1) := by decide +kernel
theorem dX7_greatestNew_63 : decode cX7_greatestNew 63 = .ok (.ireturn, 1) := by decide +kernel
theorem dX7_greatestNew_64 : decode cX7_greatestNew 64 = .ok (.iload_n 3, 1) := by decide +kernel
theorem dX7_greatestNew_65 : decode cX7_greatestNew 65 = .ok (.iconst 2, 1) := by decide +kernel
theorem dX7_greatestNew_66 : decode cX7_greatestNew 66 = .ok (.idiv, 1) := by decide +kernel
theorem dX7_greatestNew_67 : decode cX7_greatestNew 67 = .ok (.istore_n 3, 1) := by decide +kernel
theorem dX7_greatestNew_68 : decode cX7_greatestNew 68 = .ok (.goto (-58), 3) := by decide +kernel
theorem dX7_greatestNew_71 : decode cX7_greatestNew 71 = .ok (.iconst (-1), 1) := by decide +kernel
theorem dX7_greatestNew_72 : decode cX7_greatestNew 72 = .ok (.ireturn, 1) := by decide +kernel
theorem dX7_revenueAfter_0 : decode cX7_revenueAfter 0 = .ok (.iload_n 1, 1) := by decide +kernel
theorem dX7_revenueAfter_1 : decode cX7_revenueAfter 1 = .ok (.iconst 0, 1) := by decide +kernel
theorem dX7_revenueAfter_2 : decode cX7_revenueAfter 2 = .ok (.sipush 2000, 3) := by decide +kernel
theorem dX7_revenueAfter_5 : decode cX7_revenueAfter 5 = .ok (.invokestatic 86, 3) := by decide +kernel
theorem dX7_revenueAfter_8 : decode cX7_revenueAfter 8 = .ok (.aload_n 0, 1) := by decide +kernel
theorem dX7_revenueAfter_9 : decode cX7_revenueAfter 9 = .ok (.getfield 16, 3) := by decide +kernel
theorem dX7_revenueAfter_12 : decode cX7_revenueAfter 12 = .ok (.aload_n 0, 1) := by decide +kernel
theorem dX7_revenueAfter_13 : decode cX7_revenueAfter 13 = .ok (.getfield 10, 3) := by decide +kernel
theorem dX7_revenueAfter_16 : decode cX7_revenueAfter 16 = .ok (.invokevirtual 52, 3) := by decide +kernel
theorem dX7_revenueAfter_19 : decode cX7_revenueAfter 19 = .ok (.aload_n 0, 1) := by decide +kernel
theorem dX7_revenueAfter_20 : decode cX7_revenueAfter 20 = .ok (.getfield 16, 3) := by decide +kernel
theorem dX7_revenueAfter_23 : decode cX7_revenueAfter 23 = .ok (.aload_n 0, 1) := by decide +kernel
theorem dX7_revenueAfter_24 : decode cX7_revenueAfter 24 = .ok (.getfield 16, 3) := by decide +kernel
theorem dX7_revenueAfter_27 : decode cX7_revenueAfter 27 = .ok (.getfield 121, 3) := by decide +kernel
theorem dX7_revenueAfter_30 : decode cX7_revenueAfter 30 = .ok (.iload_n 1, 1) := by decide +kernel
theorem dX7_revenueAfter_31 : decode cX7_revenueAfter 31 = .ok (.iadd, 1) := by decide +kernel
theorem dX7_revenueAfter_32 : decode cX7_revenueAfter 32 = .ok (.invokevirtual 157, 3) := by decide +kernel
theorem dX7_revenueAfter_35 : decode cX7_revenueAfter 35 = .ok (.aload_n 0, 1) := by decide +kernel
theorem dX7_revenueAfter_36 : decode cX7_revenueAfter 36 = .ok (.getfield 16, 3) := by decide +kernel
theorem dX7_revenueAfter_39 : decode cX7_revenueAfter 39 = .ok (.invokevirtual 185, 3) := by decide +kernel
theorem dX7_revenueAfter_42 : decode cX7_revenueAfter 42 = .ok (.lreturn, 1) := by decide +kernel
theorem dX7_stateAfter_0 : decode cX7_stateAfter 0 = .ok (.iload_n 1, 1) := by decide +kernel
theorem dX7_stateAfter_1 : decode cX7_stateAfter 1 = .ok (.aload_n 0, 1) := by decide +kernel
theorem dX7_stateAfter_2 : decode cX7_stateAfter 2 = .ok (.getfield 10, 3) := by decide +kernel
theorem dX7_stateAfter_5 : decode cX7_stateAfter 5 = .ok (.getfield 131, 3) := by decide +kernel
theorem dX7_stateAfter_8 : decode cX7_stateAfter 8 = .ok (.getfield 135, 3) := by decide +kernel
theorem dX7_stateAfter_11 : decode cX7_stateAfter 11 = .ok (.invokestatic 74, 3) := by decide +kernel
theorem dX7_stateAfter_14 : decode cX7_stateAfter 14 = .ok (.iload_n 2, 1) := by decide +kernel
theorem dX7_stateAfter_15 : decode cX7_stateAfter 15 = .ok (.iconst 0, 1) := by decide +kernel
theorem dX7_stateAfter_16 : decode cX7_stateAfter 16 = .ok (.sipush 2000, 3) := by decide +kernel
theorem dX7_stateAfter_19 : decode cX7_stateAfter 19 = .ok (.invokestatic 86, 3) := by decide +kernel
theorem dX7_stateAfter_22 : decode cX7_stateAfter 22 = .ok (.aload_n 0, 1) := by decide +kernel
theorem dX7_stateAfter_23 : decode cX7_stateAfter 23 = .ok (.getfield 16, 3) := by decide +kernel
theorem dX7_stateAfter_26 : decode cX7_stateAfter 26 = .ok (.aload_n 0, 1) := by decide +kernel
theorem dX7_stateAfter_27 : decode cX7_stateAfter 27 = .ok (.getfield 10, 3) := by decide +kernel
theorem dX7_stateAfter_30 : decode cX7_stateAfter 30 = .ok (.invokevirtual 52, 3) := by decide +kernel
theorem dX7_stateAfter_33 : decode cX7_stateAfter 33 = .ok (.aload_n 0, 1) := by decide +kernel
theorem dX7_stateAfter_34 : decode cX7_stateAfter 34 = .ok (.getfield 16, 3) := by decide +kernel
theorem dX7_stateAfter_37 : decode cX7_stateAfter 37 = .ok (.aload_n 0, 1) := by decide +kernel
theorem dX7_stateAfter_38 : decode cX7_stateAfter 38 = .ok (.getfield 16, 3) := by decide +kernel
theorem dX7_stateAfter_41 : decode cX7_stateAfter 41 = .ok (.getfield 121, 3) := by decide +kernel
theorem dX7_stateAfter_44 : decode cX7_stateAfter 44 = .ok (.iload_n 2, 1) := by decide +kernel
theorem dX7_stateAfter_45 : decode cX7_stateAfter 45 = .ok (.iadd, 1) := by decide +kernel
theorem dX7_stateAfter_46 : decode cX7_stateAfter 46 = .ok (.invokevirtual 157, 3) := by decide +kernel
theorem dX7_stateAfter_49 : decode cX7_stateAfter 49 = .ok (.aload_n 0, 1) := by decide +kernel
theorem dX7_stateAfter_50 : decode cX7_stateAfter 50 = .ok (.getfield 16, 3) := by decide +kernel
theorem dX7_stateAfter_53 : decode cX7_stateAfter 53 = .ok (.getfield 131, 3) := by decide +kernel
theorem dX7_stateAfter_56 : decode cX7_stateAfter 56 = .ok (.getfield 141, 3) := by decide +kernel
theorem dX7_stateAfter_59 : decode cX7_stateAfter 59 = .ok (.iload_n 1, 1) := by decide +kernel
theorem dX7_stateAfter_60 : decode cX7_stateAfter 60 = .ok (.iaload, 1) := by decide +kernel
theorem dX7_stateAfter_61 : decode cX7_stateAfter 61 = .ok (.ireturn, 1) := by decide +kernel
theorem dX7_activeWithout_0 : decode cX7_activeWithout 0 = .ok (.iload_n 1, 1) := by decide +kernel
theorem dX7_activeWithout_1 : decode cX7_activeWithout 1 = .ok (.aload_n 0, 1) := by decide +kernel
theorem dX7_activeWithout_2 : decode cX7_activeWithout 2 = .ok (.getfield 10, 3) := by decide +kernel
theorem dX7_activeWithout_5 : decode cX7_activeWithout 5 = .ok (.getfield 55, 3) := by decide +kernel
theorem dX7_activeWithout_8 : decode cX7_activeWithout 8 = .ok (.getfield 59, 3) := by decide +kernel
theorem dX7_activeWithout_11 : decode cX7_activeWithout 11 = .ok (.invokestatic 74, 3) := by decide +kernel
theorem dX7_activeWithout_14 : decode cX7_activeWithout 14 = .ok (.iload_n 2, 1) := by decide +kernel
theorem dX7_activeWithout_15 : decode cX7_activeWithout 15 = .ok (.iconst 0, 1) := by decide +kernel
theorem dX7_activeWithout_16 : decode cX7_activeWithout 16 = .ok (.sipush 2000, 3) := by decide +kernel
theorem dX7_activeWithout_19 : decode cX7_activeWithout 19 = .ok (.invokestatic 86, 3) := by decide +kernel
theorem dX7_activeWithout_22 : decode cX7_activeWithout 22 = .ok (.aload_n 0, 1) := by decide +kernel
theorem dX7_activeWithout_23 : decode cX7_activeWithout 23 = .ok (.getfield 16, 3) := by decide +kernel
theorem dX7_activeWithout_26 : decode cX7_activeWithout 26 = .ok (.aload_n 0, 1) := by decide +kernel
theorem dX7_activeWithout_27 : decode cX7_activeWithout 27 = .ok (.getfield 10, 3) := by decide +kernel
theorem dX7_activeWithout_30 : decode cX7_activeWithout 30 = .ok (.invokevirtual 52, 3) := by decide +kernel
theorem dX7_activeWithout_33 : decode cX7_activeWithout 33 = .ok (.aload_n 0, 1) := by decide +kernel
theorem dX7_activeWithout_34 : decode cX7_activeWithout 34 = .ok (.getfield 16, 3) := by decide +kernel
theorem dX7_activeWithout_37 : decode cX7_activeWithout 37 = .ok (.getfield 55, 3) := by decide +kernel
theorem dX7_activeWithout_40 : decode cX7_activeWithout 40 = .ok (.iload_n 1, 1) := by decide +kernel
theorem dX7_activeWithout_41 : decode cX7_activeWithout 41 = .ok (.invokevirtual 110, 3) := by decide +kernel
theorem dX7_activeWithout_44 : decode cX7_activeWithout 44 = .ok (.ifCond .eq 12, 3) := by decide +kernel
theorem dX7_activeWithout_47 : decode cX7_activeWithout 47 = .ok (.aload_n 0, 1) := by decide +kernel
theorem dX7_activeWithout_48 : decode cX7_activeWithout 48 = .ok (.getfield 16, 3) := by decide +kernel
theorem dX7_activeWithout_51 : decode cX7_activeWithout 51 = .ok (.iload_n 1, 1) := by decide +kernel
theorem dX7_activeWithout_52 : decode cX7_activeWithout 52 = .ok (.invokevirtual 114, 3) := by decide +kernel
theorem dX7_activeWithout_55 : decode cX7_activeWithout 55 = .ok (.pop, 1) := by decide +kernel
theorem dX7_activeWithout_56 : decode cX7_activeWithout 56 = .ok (.aload_n 0, 1) := by decide +kernel
theorem dX7_activeWithout_57 : decode cX7_activeWithout 57 = .ok (.getfield 16, 3) := by decide +kernel
theorem dX7_activeWithout_60 : decode cX7_activeWithout 60 = .ok (.aload_n 0, 1) := by decide +kernel
theorem dX7_activeWithout_61 : decode cX7_activeWithout 61 = .ok (.getfield 16, 3) := by decide +kernel
theorem dX7_activeWithout_64 : decode cX7_activeWithout 64 = .ok (.getfield 121, 3) := by decide +kernel
theorem dX7_activeWithout_67 : decode cX7_activeWithout 67 = .ok (.iload_n 2, 1) := by decide +kernel
theorem dX7_activeWithout_68 : decode cX7_activeWithout 68 = .ok (.iadd, 1) := by decide +kernel
theorem dX7_activeWithout_69 : decode cX7_activeWithout 69 = .ok (.invokevirtual 157, 3) := by decide +kernel
theorem dX7_activeWithout_72 : decode cX7_activeWithout 72 = .ok (.aload_n 0, 1) := by decide +kernel
theorem dX7_activeWithout_73 : decode cX7_activeWithout 73 = .ok (.getfield 16, 3) := by decide +kernel
theorem dX7_activeWithout_76 : decode cX7_activeWithout 76 = .ok (.getfield 131, 3) := by decide +kernel
theorem dX7_activeWithout_79 : decode cX7_activeWithout 79 = .ok (.iconst 2, 1) := by decide +kernel
theorem dX7_activeWithout_80 : decode cX7_activeWithout 80 = .ok (.invokevirtual 172, 3) := by decide +kernel
theorem dX7_activeWithout_83 : decode cX7_activeWithout 83 = .ok (.ireturn, 1) := by decide +kernel
theorem dX7_ticksUntilQuiet_0 : decode cX7_ticksUntilQuiet 0 = .ok (.aload_n 0, 1) := by decide +kernel
theorem dX7_ticksUntilQuiet_1 : decode cX7_ticksUntilQuiet 1 = .ok (.getfield 16, 3) := by decide +kernel
theorem dX7_ticksUntilQuiet_4 : decode cX7_ticksUntilQuiet 4 = .ok (.aload_n 0, 1) := by decide +kernel
theorem dX7_ticksUntilQuiet_5 : decode cX7_ticksUntilQuiet 5 = .ok (.getfield 10, 3) := by decide +kernel
theorem dX7_ticksUntilQuiet_8 : decode cX7_ticksUntilQuiet 8 = .ok (.invokevirtual 52, 3) := by decide +kernel
theorem dX7_ticksUntilQuiet_11 : decode cX7_ticksUntilQuiet 11 = .ok (.aload_n 0, 1) := by decide +kernel
theorem dX7_ticksUntilQuiet_12 : decode cX7_ticksUntilQuiet 12 = .ok (.getfield 16, 3) := by decide +kernel
theorem dX7_ticksUntilQuiet_15 : decode cX7_ticksUntilQuiet 15 = .ok (.invokevirtual 268, 3) := by decide +kernel
theorem dX7_ticksUntilQuiet_18 : decode cX7_ticksUntilQuiet 18 = .ok (.ireturn, 1) := by decide +kernel
theorem dX7_saveSnapshot_0 : decode cX7_saveSnapshot 0 = .ok (.iload_n 1, 1) := by decide +kernel
theorem dX7_saveSnapshot_1 : decode cX7_saveSnapshot 1 = .ok (.iconst 0, 1) := by decide +kernel
theorem dX7_saveSnapshot_2 : decode cX7_saveSnapshot 2 = .ok (.iconst 1, 1) := by decide +kernel
theorem dX7_saveSnapshot_3 : decode cX7_saveSnapshot 3 = .ok (.invokestatic 86, 3) := by decide +kernel
theorem dX7_saveSnapshot_6 : decode cX7_saveSnapshot 6 = .ok (.aload_n 0, 1) := by decide +kernel
theorem dX7_saveSnapshot_7 : decode cX7_saveSnapshot 7 = .ok (.getfield 19, 3) := by decide +kernel
theorem dX7_saveSnapshot_10 : decode cX7_saveSnapshot 10 = .ok (.iload_n 1, 1) := by decide +kernel
theorem dX7_saveSnapshot_11 : decode cX7_saveSnapshot 11 = .ok (.aaload, 1) := by decide +kernel
theorem dX7_saveSnapshot_12 : decode cX7_saveSnapshot 12 = .ok (.ifnonnull 16, 3) := by decide +kernel
theorem dX7_saveSnapshot_15 : decode cX7_saveSnapshot 15 = .ok (.aload_n 0, 1) := by decide +kernel
theorem dX7_saveSnapshot_16 : decode cX7_saveSnapshot 16 = .ok (.getfield 19, 3) := by decide +kernel
theorem dX7_saveSnapshot_19 : decode cX7_saveSnapshot 19 = .ok (.iload_n 1, 1) := by decide +kernel
theorem dX7_saveSnapshot_20 : decode cX7_saveSnapshot 20 = .ok (.new 7, 3) := by decide +kernel
theorem dX7_saveSnapshot_23 : decode cX7_saveSnapshot 23 = .ok (.dup, 1) := by decide +kernel
theorem dX7_saveSnapshot_24 : decode cX7_saveSnapshot 24 = .ok (.invokespecial 9, 3) := by decide +kernel
theorem dX7_saveSnapshot_27 : decode cX7_saveSnapshot 27 = .ok (.aastore, 1) := by decide +kernel
theorem dX7_saveSnapshot_28 : decode cX7_saveSnapshot 28 = .ok (.aload_n 0, 1) := by decide +kernel
theorem dX7_saveSnapshot_29 : decode cX7_saveSnapshot 29 = .ok (.getfield 19, 3) := by decide +kernel
theorem dX7_saveSnapshot_32 : decode cX7_saveSnapshot 32 = .ok (.iload_n 1, 1) := by decide +kernel
theorem dX7_saveSnapshot_33 : decode cX7_saveSnapshot 33 = .ok (.aaload, 1) := by decide +kernel
theorem dX7_saveSnapshot_34 : decode cX7_saveSnapshot 34 = .ok (.aload_n 0, 1) := by decide +kernel
theorem dX7_saveSnapshot_35 : decode cX7_saveSnapshot 35 = .ok (.getfield 10, 3) := by decide +kernel
theorem dX7_saveSnapshot_38 : decode cX7_saveSnapshot 38 = .ok (.invokevirtual 52, 3) := by decide +kernel
theorem dX7_saveSnapshot_41 : decode cX7_saveSnapshot 41 = .ok (.aload_n 0, 1) := by decide +kernel
theorem dX7_saveSnapshot_42 : decode cX7_saveSnapshot 42 = .ok (.getfield 10, 3) := by decide +kernel
theorem dX7_saveSnapshot_45 : decode cX7_saveSnapshot 45 = .ok (.getfield 121, 3) := by decide +kernel
theorem dX7_saveSnapshot_48 : decode cX7_saveSnapshot 48 = .ok (.ireturn, 1) := by decide +kernel
theorem dX7_restoreSnapshot_0 : decode cX7_restoreSnapshot 0 = .ok (.iload_n 1, 1) := by decide +kernel
theorem dX7_restoreSnapshot_1 : decode cX7_restoreSnapshot 1 = .ok (.iconst 0, 1) := by decide +kernel
theorem dX7_restoreSnapshot_2 : decode cX7_restoreSnapshot 2 = .ok (.iconst 1, 1) := by decide +kernel
theorem dX7_restoreSnapshot_3 : decode cX7_restoreSnapshot 3 = .ok (.invokestatic 86, 3) := by decide +kernel
theorem dX7_restoreSnapshot_6 : decode cX7_restoreSnapshot 6 = .ok (.aload_n 0, 1) := by decide +kernel
theorem dX7_restoreSnapshot_7 : decode cX7_restoreSnapshot 7 = .ok (.getfield 19, 3) := by decide +kernel
theorem dX7_restoreSnapshot_10 : decode cX7_restoreSnapshot 10 = .ok (.iload_n 1, 1) := by decide +kernel
theorem dX7_restoreSnapshot_11 : decode cX7_restoreSnapshot 11 = .ok (.aaload, 1) := by decide +kernel
theorem dX7_restoreSnapshot_12 : decode cX7_restoreSnapshot 12 = .ok (.ifnonnull 5, 3) := by decide +kernel
theorem dX7_restoreSnapshot_15 : decode cX7_restoreSnapshot 15 = .ok (.iconst (-1), 1) := by decide +kernel
theorem dX7_restoreSnapshot_16 : decode cX7_restoreSnapshot 16 = .ok (.ireturn, 1) := by decide +kernel
theorem dX7_restoreSnapshot_17 : decode cX7_restoreSnapshot 17 = .ok (.aload_n 0, 1) := by decide +kernel
theorem dX7_restoreSnapshot_18 : decode cX7_restoreSnapshot 18 = .ok (.getfield 10, 3) := by decide +kernel
theorem dX7_restoreSnapshot_21 : decode cX7_restoreSnapshot 21 = .ok (.aload_n 0, 1) := by decide +kernel
theorem dX7_restoreSnapshot_22 : decode cX7_restoreSnapshot 22 = .ok (.getfield 19, 3) := by decide +kernel
theorem dX7_restoreSnapshot_25 : decode cX7_restoreSnapshot 25 = .ok (.iload_n 1, 1) := by decide +kernel
theorem dX7_restoreSnapshot_26 : decode cX7_restoreSnapshot 26 = .ok (.aaload, 1) := by decide +kernel
theorem dX7_restoreSnapshot_27 : decode cX7_restoreSnapshot 27 = .ok (.invokevirtual 52, 3) := by decide +kernel
theorem dX7_restoreSnapshot_30 : decode cX7_restoreSnapshot 30 = .ok (.aload_n 0, 1) := by decide +kernel
theorem dX7_restoreSnapshot_31 : decode cX7_restoreSnapshot 31 = .ok (.getfield 10, 3) := by decide +kernel
theorem dX7_restoreSnapshot_34 : decode cX7_restoreSnapshot 34 = .ok (.getfield 121, 3) := by decide +kernel
theorem dX7_restoreSnapshot_37 : decode cX7_restoreSnapshot 37 = .ok (.ireturn, 1) := by decide +kernel
theorem dX7_requireIndex_0 : decode cX7_requireIndex 0 = .ok (.iload_n 0, 1) := by decide +kernel
theorem dX7_requireIndex_1 : decode cX7_requireIndex 1 = .ok (.ifCond .lt 8, 3) := by decide +kernel
theorem dX7_requireIndex_4 : decode cX7_requireIndex 4 = .ok (.iload_n 0, 1) := by decide +kernel
theorem dX7_requireIndex_5 : decode cX7_requireIndex 5 = .ok (.iload_n 1, 1) := by decide +kernel
theorem dX7_requireIndex_6 : decode cX7_requireIndex 6 = .ok (.if_icmp .lt 14, 3) := by decide +kernel
theorem dX7_requireIndex_9 : decode cX7_requireIndex 9 = .ok (.new 271, 3) := by decide +kernel
theorem dX7_requireIndex_12 : decode cX7_requireIndex 12 = .ok (.dup, 1) := by decide +kernel
theorem dX7_requireIndex_13 : decode cX7_requireIndex 13 = .ok (.ldc_w 273, 3) := by decide +kernel
theorem dX7_requireIndex_16 : decode cX7_requireIndex 16 = .ok (.invokespecial 275, 3) := by decide +kernel
theorem dX7_requireIndex_19 : decode cX7_requireIndex 19 = .ok (.athrow, 1) := by decide +kernel
theorem dX7_requireIndex_20 : decode cX7_requireIndex 20 = .ok (.return_, 1) := by decide +kernel
theorem dX7_requireRange_0 : decode cX7_requireRange 0 = .ok (.iload_n 0, 1) := by decide +kernel
theorem dX7_requireRange_1 : decode cX7_requireRange 1 = .ok (.iload_n 1, 1) := by decide +kernel
theorem dX7_requireRange_2 : decode cX7_requireRange 2 = .ok (.if_icmp .lt 8, 3) := by decide +kernel
theorem dX7_requireRange_5 : decode cX7_requireRange 5 = .ok (.iload_n 0, 1) := by decide +kernel
theorem dX7_requireRange_6 : decode cX7_requireRange 6 = .ok (.iload_n 2, 1) := by decide +kernel
theorem dX7_requireRange_7 : decode cX7_requireRange 7 = .ok (.if_icmp .le 14, 3) := by decide +kernel
theorem dX7_requireRange_10 : decode cX7_requireRange 10 = .ok (.new 278, 3) := by decide +kernel
theorem dX7_requireRange_13 : decode cX7_requireRange 13 = .ok (.dup, 1) := by decide +kernel
theorem dX7_requireRange_14 : decode cX7_requireRange 14 = .ok (.ldc_w 280, 3) := by decide +kernel
theorem dX7_requireRange_17 : decode cX7_requireRange 17 = .ok (.invokespecial 282, 3) := by decide +kernel
theorem dX7_requireRange_20 : decode cX7_requireRange 20 = .ok (.athrow, 1) := by decide +kernel
theorem dX7_requireRange_21 : decode cX7_requireRange 21 = .ok (.return_, 1) := by decide +kernel
theorem dX7_requirePair_0 : decode cX7_requirePair 0 = .ok (.iload_n 1, 1) := by decide +kernel
theorem dX7_requirePair_1 : decode cX7_requirePair 1 = .ok (.aload_n 0, 1) := by decide +kernel
theorem dX7_requirePair_2 : decode cX7_requirePair 2 = .ok (.getfield 10, 3) := by decide +kernel
theorem dX7_requirePair_5 : decode cX7_requirePair 5 = .ok (.getfield 71, 3) := by decide +kernel
theorem dX7_requirePair_8 : decode cX7_requirePair 8 = .ok (.invokestatic 74, 3) := by decide +kernel
theorem dX7_requirePair_11 : decode cX7_requirePair 11 = .ok (.iload_n 2, 1) := by decide +kernel
theorem dX7_requirePair_12 : decode cX7_requirePair 12 = .ok (.aload_n 0, 1) := by decide +kernel
theorem dX7_requirePair_13 : decode cX7_requirePair 13 = .ok (.getfield 10, 3) := by decide +kernel
theorem dX7_requirePair_16 : decode cX7_requirePair 16 = .ok (.getfield 71, 3) := by decide +kernel
theorem dX7_requirePair_19 : decode cX7_requirePair 19 = .ok (.invokestatic 74, 3) := by decide +kernel
theorem dX7_requirePair_22 : decode cX7_requirePair 22 = .ok (.iload_n 1, 1) := by decide +kernel
theorem dX7_requirePair_23 : decode cX7_requirePair 23 = .ok (.iload_n 2, 1) := by decide +kernel
theorem dX7_requirePair_24 : decode cX7_requirePair 24 = .ok (.if_icmp .ne 14, 3) := by decide +kernel
theorem dX7_requirePair_27 : decode cX7_requirePair 27 = .ok (.new 278, 3) := by decide +kernel
theorem dX7_requirePair_30 : decode cX7_requirePair 30 = .ok (.dup, 1) := by decide +kernel
theorem dX7_requirePair_31 : decode cX7_requirePair 31 = .ok (.ldc_w 283, 3) := by decide +kernel
theorem dX7_requirePair_34 : decode cX7_requirePair 34 = .ok (.invokespecial 282, 3) := by decide +kernel
theorem dX7_requirePair_37 : decode cX7_requirePair 37 = .ok (.athrow, 1) := by decide +kernel
theorem dX7_requirePair_38 : decode cX7_requirePair 38 = .ok (.return_, 1) := by decide +kernel
theorem dX7_findPath_0 : decode cX7_findPath 0 = .ok (.aload_n 0, 1) := by decide +kernel
theorem dX7_findPath_1 : decode cX7_findPath 1 = .ok (.iload_n 1, 1) := by decide +kernel
theorem dX7_findPath_2 : decode cX7_findPath 2 = .ok (.iload_n 2, 1) := by decide +kernel
theorem dX7_findPath_3 : decode cX7_findPath 3 = .ok (.invokevirtual 124, 3) := by decide +kernel
theorem dX7_findPath_6 : decode cX7_findPath 6 = .ok (.iload_n 3, 1) := by decide +kernel
theorem dX7_findPath_7 : decode cX7_findPath 7 = .ok (.iconst 0, 1) := by decide +kernel
theorem dX7_findPath_8 : decode cX7_findPath 8 = .ok (.sipush 1000, 3) := by decide +kernel
theorem dX7_findPath_11 : decode cX7_findPath 11 = .ok (.invokestatic 86, 3) := by decide +kernel
theorem dX7_findPath_14 : decode cX7_findPath 14 = .ok (.aload_n 0, 1) := by decide +kernel
theorem dX7_findPath_15 : decode cX7_findPath 15 = .ok (.getfield 10, 3) := by decide +kernel
theorem dX7_findPath_18 : decode cX7_findPath 18 = .ok (.getfield 206, 3) := by decide +kernel
theorem dX7_findPath_21 : decode cX7_findPath 21 = .ok (.aload_n 0, 1) := by decide +kernel
theorem dX7_findPath_22 : decode cX7_findPath 22 = .ok (.getfield 10, 3) := by decide +kernel
theorem dX7_findPath_25 : decode cX7_findPath 25 = .ok (.getfield 55, 3) := by decide +kernel
theorem dX7_findPath_28 : decode cX7_findPath 28 = .ok (.iload_n 1, 1) := by decide +kernel
theorem dX7_findPath_29 : decode cX7_findPath 29 = .ok (.iload_n 2, 1) := by decide +kernel
theorem dX7_findPath_30 : decode cX7_findPath 30 = .ok (.aload_n 0, 1) := by decide +kernel
theorem dX7_findPath_31 : decode cX7_findPath 31 = .ok (.getfield 10, 3) := by decide +kernel
theorem dX7_findPath_34 : decode cX7_findPath 34 = .ok (.getfield 55, 3) := by decide +kernel
theorem dX7_findPath_37 : decode cX7_findPath 37 = .ok (.iload_n 3, 1) := by decide +kernel
theorem dX7_findPath_38 : decode cX7_findPath 38 = .ok (.invokevirtual 250, 3) := by decide +kernel
theorem dX7_findPath_41 : decode cX7_findPath 41 = .ok (.invokevirtual 285, 3) := by decide +kernel
theorem dX7_findPath_44 : decode cX7_findPath 44 = .ok (.ireturn, 1) := by decide +kernel
theorem dJ5_init_d00df_0 : decode cJ5_init_d00df 0 = .ok (.aload_n 0, 1) := by decide +kernel
theorem dJ5_init_d00df_1 : decode cJ5_init_d00df 1 = .ok (.invokespecial 3, 3) := by decide +kernel
theorem dJ5_init_d00df_4 : decode cJ5_init_d00df 4 = .ok (.getstatic 18, 3) := by decide +kernel
theorem dJ5_init_d00df_7 : decode cJ5_init_d00df 7 = .ok (.ifCond .eq 18, 3) := by decide +kernel
theorem dJ5_init_d00df_10 : decode cJ5_init_d00df 10 = .ok (.aload_n 0, 1) := by decide +kernel
theorem dJ5_init_d00df_11 : decode cJ5_init_d00df 11 = .ok (.iload_n 1, 1) := by decide +kernel
theorem dJ5_init_d00df_12 : decode cJ5_init_d00df 12 = .ok (.newarray .byte, 2) := by decide +kernel
theorem dJ5_init_d00df_14 : decode cJ5_init_d00df 14 = .ok (.putfield 15, 3) := by decide +kernel
theorem dJ5_init_d00df_17 : decode cJ5_init_d00df 17 = .ok (.aload_n 0, 1) := by decide +kernel
theorem dJ5_init_d00df_18 : decode cJ5_init_d00df 18 = .ok (.iconst 0, 1) := by decide +kernel
theorem dJ5_init_d00df_19 : decode cJ5_init_d00df 19 = .ok (.putfield 22, 3) := by decide +kernel
theorem dJ5_init_d00df_22 : decode cJ5_init_d00df 22 = .ok (.goto 16, 3) := by decide +kernel
theorem dJ5_init_d00df_25 : decode cJ5_init_d00df 25 = .ok (.aload_n 0, 1) := by decide +kernel
theorem dJ5_init_d00df_26 : decode cJ5_init_d00df 26 = .ok (.iload_n 1, 1) := by decide +kernel
theorem dJ5_init_d00df_27 : decode cJ5_init_d00df 27 = .ok (.invokestatic 26, 3) := by decide +kernel
theorem dJ5_init_d00df_30 : decode cJ5_init_d00df 30 = .ok (.putfield 15, 3) := by decide +kernel
theorem dJ5_init_d00df_33 : decode cJ5_init_d00df 33 = .ok (.aload_n 0, 1) := by decide +kernel
theorem dJ5_init_d00df_34 : decode cJ5_init_d00df 34 = .ok (.iconst 1, 1) := by decide +kernel
theorem dJ5_init_d00df_35 : decode cJ5_init_d00df 35 = .ok (.putfield 22, 3) := by decide +kernel
theorem dJ5_init_d00df_38 : decode cJ5_init_d00df 38 = .ok (.return_, 1) := by decide +kernel
theorem dJ5_init_a7421_0 : decode cJ5_init_a7421 0 = .ok (.aload_n 0, 1) := by decide +kernel
theorem dJ5_init_a7421_1 : decode cJ5_init_a7421 1 = .ok (.invokespecial 3, 3) := by decide +kernel
theorem dJ5_init_a7421_4 : decode cJ5_init_a7421 4 = .ok (.aload_n 1, 1) := by decide +kernel
theorem dJ5_init_a7421_5 : decode cJ5_init_a7421 5 = .ok (.invokevirtual 32, 3) := by decide +kernel
theorem dJ5_init_a7421_8 : decode cJ5_init_a7421 8 = .ok (.istore_n 2, 1) := by decide +kernel
theorem dJ5_init_a7421_9 : decode cJ5_init_a7421 9 = .ok (.iload_n 2, 1) := by decide +kernel
theorem dJ5_init_a7421_10 : decode cJ5_init_a7421 10 = .ok (.ldc 38, 2) := by decide +kernel
theorem dJ5_init_a7421_12 : decode cJ5_init_a7421 12 = .ok (.if_icmp .ge 10, 3) := by decide +kernel
theorem dJ5_init_a7421_15 : decode cJ5_init_a7421 15 = .ok (.iload_n 2, 1) := by decide +kernel
theorem dJ5_init_a7421_16 : decode cJ5_init_a7421 16 = .ok (.bipush 16, 2) := by decide +kernel
theorem dJ5_init_a7421_18 : decode cJ5_init_a7421 18 = .ok (.iadd, 1) := by decide +kernel
theorem dJ5_init_a7421_19 : decode cJ5_init_a7421 19 = .ok (.goto 5, 3) := by decide +kernel
theorem dJ5_init_a7421_22 : decode cJ5_init_a7421 22 = .ok (.ldc 39, 2) := by decide +kernel
theorem dJ5_init_a7421_24 : decode cJ5_init_a7421 24 = .ok (.istore_n 3, 1) := by decide +kernel
theorem dJ5_init_a7421_25 : decode cJ5_init_a7421 25 = .ok (.aload_n 1, 1) := by decide +kernel
theorem dJ5_init_a7421_26 : decode cJ5_init_a7421 26 = .ok (.invokevirtual 40, 3) := by decide +kernel
theorem dJ5_init_a7421_29 : decode cJ5_init_a7421 29 = .ok (.istore 4, 2) := by decide +kernel
theorem dJ5_init_a7421_31 : decode cJ5_init_a7421 31 = .ok (.aload_n 0, 1) := by decide +kernel
theorem dJ5_init_a7421_32 : decode cJ5_init_a7421 32 = .ok (.iload 4, 2) := by decide +kernel
theorem dJ5_init_a7421_34 : decode cJ5_init_a7421 34 = .ok (.putfield 22, 3) := by decide +kernel
theorem dJ5_init_a7421_37 : decode cJ5_init_a7421 37 = .ok (.aload_n 0, 1) := by decide +kernel
theorem dJ5_init_a7421_38 : decode cJ5_init_a7421 38 = .ok (.iload 4, 2) := by decide +kernel
theorem dJ5_init_a7421_40 : decode cJ5_init_a7421 40 = .ok (.ifCond .ne 9, 3) := by decide +kernel
theorem dJ5_init_a7421_43 : decode cJ5_init_a7421 43 = .ok (.iload_n 3, 1) := by decide +kernel
theorem dJ5_init_a7421_44 : decode cJ5_init_a7421 44 = .ok (.newarray .byte, 2) := by decide +kernel
theorem dJ5_init_a7421_46 : decode cJ5_init_a7421 46 = .ok (.goto 7, 3) := by decide +kernel
theorem dJ5_init_a7421_49 : decode cJ5_init_a7421 49 = .ok (.iload_n 3, 1) := by decide +kernel
theorem dJ5_init_a7421_50 : decode cJ5_init_a7421 50 = .ok (.invokestatic 26, 3) := by decide +kernel
theorem dJ5_init_a7421_53 : decode cJ5_init_a7421 53 = .ok (.putfield 15, 3) := by decide +kernel
theorem dJ5_init_a7421_56 : decode cJ5_init_a7421 56 = .ok (.aload_n 0, 1) := by decide +kernel
theorem dJ5_init_a7421_57 : decode cJ5_init_a7421 57 = .ok (.aload_n 1, 1) := by decide +kernel
theorem dJ5_init_a7421_58 : decode cJ5_init_a7421 58 = .ok (.invokevirtual 43, 3) := by decide +kernel
theorem dJ5_init_a7421_61 : decode cJ5_init_a7421 61 = .ok (.pop, 1) := by decide +kernel
theorem dJ5_init_a7421_62 : decode cJ5_init_a7421 62 = .ok (.return_, 1) := by decide +kernel
theorem dJ5_length_8abf5_0 : decode cJ5_length_8abf5 0 = .ok (.aload_n 0, 1) := by decide +kernel
theorem dJ5_length_8abf5_1 : decode cJ5_length_8abf5 1 = .ok (.getfield 79, 3) := by decide +kernel
theorem dJ5_length_8abf5_4 : decode cJ5_length_8abf5 4 = .ok (.ireturn, 1) := by decide +kernel
theorem dJ5_ensureCapacityInternal_d00df_0 : decode cJ5_ensureCapacityInternal_d00df 0 = .ok (.aload_n 0, 1) := by decide +kernel
theorem dJ5_ensureCapacityInternal_d00df_1 : decode cJ5_ensureCapacityInternal_d00df 1 = .ok (.getfield 15, 3) := by decide +kernel
theorem dJ5_ensureCapacityInternal_d00df_4 : decode cJ5_ensureCapacityInternal_d00df 4 = .ok (.arraylength, 1) := by decide +kernel
theorem dJ5_ensureCapacityInternal_d00df_5 : decode cJ5_ensureCapacityInternal_d00df 5 = .ok (.aload_n 0, 1) := by decide +kernel
theorem dJ5_ensureCapacityInternal_d00df_6 : decode cJ5_ensureCapacityInternal_d00df 6 = .ok (.getfield 22, 3) := by decide +kernel
theorem dJ5_ensureCapacityInternal_d00df_9 : decode cJ5_ensureCapacityInternal_d00df 9 = .ok (.ishr, 1) := by decide +kernel
theorem dJ5_ensureCapacityInternal_d00df_10 : decode cJ5_ensureCapacityInternal_d00df 10 = .ok (.istore_n 2, 1) := by decide +kernel
theorem dJ5_ensureCapacityInternal_d00df_11 : decode cJ5_ensureCapacityInternal_d00df 11 = .ok (.iload_n 1, 1) := by decide +kernel
theorem dJ5_ensureCapacityInternal_d00df_12 : decode cJ5_ensureCapacityInternal_d00df 12 = .ok (.iload_n 2, 1) := by decide +kernel
theorem dJ5_ensureCapacityInternal_d00df_13 : decode cJ5_ensureCapacityInternal_d00df 13 = .ok (.isub, 1) := by decide +kernel
theorem dJ5_ensureCapacityInternal_d00df_14 : decode cJ5_ensureCapacityInternal_d00df 14 = .ok (.ifCond .le 24, 3) := by decide +kernel
theorem dJ5_ensureCapacityInternal_d00df_17 : decode cJ5_ensureCapacityInternal_d00df 17 = .ok (.aload_n 0, 1) := by decide +kernel
theorem dJ5_ensureCapacityInternal_d00df_18 : decode cJ5_ensureCapacityInternal_d00df 18 = .ok (.aload_n 0, 1) := by decide +kernel
theorem dJ5_ensureCapacityInternal_d00df_19 : decode cJ5_ensureCapacityInternal_d00df 19 = .ok (.getfield 15, 3) := by decide +kernel
theorem dJ5_ensureCapacityInternal_d00df_22 : decode cJ5_ensureCapacityInternal_d00df 22 = .ok (.aload_n 0, 1) := by decide +kernel
theorem dJ5_ensureCapacityInternal_d00df_23 : decode cJ5_ensureCapacityInternal_d00df 23 = .ok (.iload_n 1, 1) := by decide +kernel
theorem dJ5_ensureCapacityInternal_d00df_24 : decode cJ5_ensureCapacityInternal_d00df 24 = .ok (.invokevirtual 104, 3) := by decide +kernel
theorem dJ5_ensureCapacityInternal_d00df_27 : decode cJ5_ensureCapacityInternal_d00df 27 = .ok (.aload_n 0, 1) := by decide +kernel
theorem dJ5_ensureCapacityInternal_d00df_28 : decode cJ5_ensureCapacityInternal_d00df 28 = .ok (.getfield 22, 3) := by decide +kernel
theorem dJ5_ensureCapacityInternal_d00df_31 : decode cJ5_ensureCapacityInternal_d00df 31 = .ok (.ishl, 1) := by decide +kernel
theorem dJ5_ensureCapacityInternal_d00df_32 : decode cJ5_ensureCapacityInternal_d00df 32 = .ok (.invokestatic 108, 3) := by decide +kernel
theorem dJ5_ensureCapacityInternal_d00df_35 : decode cJ5_ensureCapacityInternal_d00df 35 = .ok (.putfield 15, 3) := by decide +kernel
theorem dJ5_ensureCapacityInternal_d00df_38 : decode cJ5_ensureCapacityInternal_d00df 38 = .ok (.return_, 1) := by decide +kernel
theorem dJ5_newCapacity_0f7a4_0 : decode cJ5_newCapacity_0f7a4 0 = .ok (.aload_n 0, 1) := by decide +kernel
theorem dJ5_newCapacity_0f7a4_1 : decode cJ5_newCapacity_0f7a4 1 = .ok (.getfield 15, 3) := by decide +kernel
theorem dJ5_newCapacity_0f7a4_4 : decode cJ5_newCapacity_0f7a4 4 = .ok (.arraylength, 1) := by decide +kernel
theorem dJ5_newCapacity_0f7a4_5 : decode cJ5_newCapacity_0f7a4 5 = .ok (.istore_n 2, 1) := by decide +kernel
theorem dJ5_newCapacity_0f7a4_6 : decode cJ5_newCapacity_0f7a4 6 = .ok (.iload_n 1, 1) := by decide +kernel
theorem dJ5_newCapacity_0f7a4_7 : decode cJ5_newCapacity_0f7a4 7 = .ok (.aload_n 0, 1) := by decide +kernel
theorem dJ5_newCapacity_0f7a4_8 : decode cJ5_newCapacity_0f7a4 8 = .ok (.getfield 22, 3) := by decide +kernel
theorem dJ5_newCapacity_0f7a4_11 : decode cJ5_newCapacity_0f7a4 11 = .ok (.ishl, 1) := by decide +kernel
theorem dJ5_newCapacity_0f7a4_12 : decode cJ5_newCapacity_0f7a4 12 = .ok (.istore_n 3, 1) := by decide +kernel
theorem dJ5_newCapacity_0f7a4_13 : decode cJ5_newCapacity_0f7a4 13 = .ok (.iload_n 3, 1) := by decide +kernel
theorem dJ5_newCapacity_0f7a4_14 : decode cJ5_newCapacity_0f7a4 14 = .ok (.iload_n 2, 1) := by decide +kernel
theorem dJ5_newCapacity_0f7a4_15 : decode cJ5_newCapacity_0f7a4 15 = .ok (.isub, 1) := by decide +kernel
theorem dJ5_newCapacity_0f7a4_16 : decode cJ5_newCapacity_0f7a4 16 = .ok (.istore 4, 2) := by decide +kernel
theorem dJ5_newCapacity_0f7a4_18 : decode cJ5_newCapacity_0f7a4 18 = .ok (.iload_n 2, 1) := by decide +kernel
theorem dJ5_newCapacity_0f7a4_19 : decode cJ5_newCapacity_0f7a4 19 = .ok (.iload 4, 2) := by decide +kernel
theorem dJ5_newCapacity_0f7a4_21 : decode cJ5_newCapacity_0f7a4 21 = .ok (.iload_n 2, 1) := by decide +kernel
theorem dJ5_newCapacity_0f7a4_22 : decode cJ5_newCapacity_0f7a4 22 = .ok (.iconst 2, 1) := by decide +kernel
theorem dJ5_newCapacity_0f7a4_23 : decode cJ5_newCapacity_0f7a4 23 = .ok (.aload_n 0, 1) := by decide +kernel
theorem dJ5_newCapacity_0f7a4_24 : decode cJ5_newCapacity_0f7a4 24 = .ok (.getfield 22, 3) := by decide +kernel
theorem dJ5_newCapacity_0f7a4_27 : decode cJ5_newCapacity_0f7a4 27 = .ok (.ishl, 1) := by decide +kernel
theorem dJ5_newCapacity_0f7a4_28 : decode cJ5_newCapacity_0f7a4 28 = .ok (.iadd, 1) := by decide +kernel
theorem dJ5_newCapacity_0f7a4_29 : decode cJ5_newCapacity_0f7a4 29 = .ok (.invokestatic 114, 3) := by decide +kernel
theorem dJ5_newCapacity_0f7a4_32 : decode cJ5_newCapacity_0f7a4 32 = .ok (.istore 5, 2) := by decide +kernel
theorem dJ5_newCapacity_0f7a4_34 : decode cJ5_newCapacity_0f7a4 34 = .ok (.iload 5, 2) := by decide +kernel
theorem dJ5_newCapacity_0f7a4_36 : decode cJ5_newCapacity_0f7a4 36 = .ok (.ldc 39, 2) := by decide +kernel
theorem dJ5_newCapacity_0f7a4_38 : decode cJ5_newCapacity_0f7a4 38 = .ok (.if_icmp .ne 13, 3) := by decide +kernel
theorem dJ5_newCapacity_0f7a4_41 : decode cJ5_newCapacity_0f7a4 41 = .ok (.new 120, 3) := by decide +kernel
theorem dJ5_newCapacity_0f7a4_44 : decode cJ5_newCapacity_0f7a4 44 = .ok (.dup, 1) := by decide +kernel
theorem dJ5_newCapacity_0f7a4_45 : decode cJ5_newCapacity_0f7a4 45 = .ok (.ldc 122, 2) := by decide +kernel
theorem dJ5_newCapacity_0f7a4_47 : decode cJ5_newCapacity_0f7a4 47 = .ok (.invokespecial 124, 3) := by decide +kernel
theorem dJ5_newCapacity_0f7a4_50 : decode cJ5_newCapacity_0f7a4 50 = .ok (.athrow, 1) := by decide +kernel
theorem dJ5_newCapacity_0f7a4_51 : decode cJ5_newCapacity_0f7a4 51 = .ok (.iload 5, 2) := by decide +kernel
theorem dJ5_newCapacity_0f7a4_53 : decode cJ5_newCapacity_0f7a4 53 = .ok (.aload_n 0, 1) := by decide +kernel
theorem dJ5_newCapacity_0f7a4_54 : decode cJ5_newCapacity_0f7a4 54 = .ok (.getfield 22, 3) := by decide +kernel
theorem dJ5_newCapacity_0f7a4_57 : decode cJ5_newCapacity_0f7a4 57 = .ok (.ishr, 1) := by decide +kernel
theorem dJ5_newCapacity_0f7a4_58 : decode cJ5_newCapacity_0f7a4 58 = .ok (.ireturn, 1) := by decide +kernel
theorem dJ5_inflate_da8c8_0 : decode cJ5_inflate_da8c8 0 = .ok (.aload_n 0, 1) := by decide +kernel
theorem dJ5_inflate_da8c8_1 : decode cJ5_inflate_da8c8 1 = .ok (.invokevirtual 83, 3) := by decide +kernel
theorem dJ5_inflate_da8c8_4 : decode cJ5_inflate_da8c8 4 = .ok (.ifCond .ne 4, 3) := by decide +kernel
theorem dJ5_inflate_da8c8_7 : decode cJ5_inflate_da8c8 7 = .ok (.return_, 1) := by decide +kernel
theorem dJ5_inflate_da8c8_8 : decode cJ5_inflate_da8c8 8 = .ok (.aload_n 0, 1) := by decide +kernel
theorem dJ5_inflate_da8c8_9 : decode cJ5_inflate_da8c8 9 = .ok (.getfield 15, 3) := by decide +kernel
theorem dJ5_inflate_da8c8_12 : decode cJ5_inflate_da8c8 12 = .ok (.arraylength, 1) := by decide +kernel
theorem dJ5_inflate_da8c8_13 : decode cJ5_inflate_da8c8 13 = .ok (.invokestatic 26, 3) := by decide +kernel
theorem dJ5_inflate_da8c8_16 : decode cJ5_inflate_da8c8 16 = .ok (.astore_n 1, 1) := by decide +kernel
theorem dJ5_inflate_da8c8_17 : decode cJ5_inflate_da8c8 17 = .ok (.aload_n 0, 1) := by decide +kernel
theorem dJ5_inflate_da8c8_18 : decode cJ5_inflate_da8c8 18 = .ok (.getfield 15, 3) := by decide +kernel
theorem dJ5_inflate_da8c8_21 : decode cJ5_inflate_da8c8 21 = .ok (.iconst 0, 1) := by decide +kernel
theorem dJ5_inflate_da8c8_22 : decode cJ5_inflate_da8c8 22 = .ok (.aload_n 1, 1) := by decide +kernel
theorem dJ5_inflate_da8c8_23 : decode cJ5_inflate_da8c8 23 = .ok (.iconst 0, 1) := by decide +kernel
theorem dJ5_inflate_da8c8_24 : decode cJ5_inflate_da8c8 24 = .ok (.aload_n 0, 1) := by decide +kernel
theorem dJ5_inflate_da8c8_25 : decode cJ5_inflate_da8c8 25 = .ok (.getfield 79, 3) := by decide +kernel
theorem dJ5_inflate_da8c8_28 : decode cJ5_inflate_da8c8 28 = .ok (.invokestatic 125, 3) := by decide +kernel
theorem dJ5_inflate_da8c8_31 : decode cJ5_inflate_da8c8 31 = .ok (.aload_n 0, 1) := by decide +kernel
theorem dJ5_inflate_da8c8_32 : decode cJ5_inflate_da8c8 32 = .ok (.aload_n 1, 1) := by decide +kernel
theorem dJ5_inflate_da8c8_33 : decode cJ5_inflate_da8c8 33 = .ok (.putfield 15, 3) := by decide +kernel
theorem dJ5_inflate_da8c8_36 : decode cJ5_inflate_da8c8 36 = .ok (.aload_n 0, 1) := by decide +kernel
theorem dJ5_inflate_da8c8_37 : decode cJ5_inflate_da8c8 37 = .ok (.iconst 1, 1) := by decide +kernel
theorem dJ5_inflate_da8c8_38 : decode cJ5_inflate_da8c8 38 = .ok (.putfield 22, 3) := by decide +kernel
theorem dJ5_inflate_da8c8_41 : decode cJ5_inflate_da8c8 41 = .ok (.return_, 1) := by decide +kernel
theorem dJ5_append_cf1ce_0 : decode cJ5_append_cf1ce 0 = .ok (.aload_n 1, 1) := by decide +kernel
theorem dJ5_append_cf1ce_1 : decode cJ5_append_cf1ce 1 = .ok (.ifnonnull 8, 3) := by decide +kernel
theorem dJ5_append_cf1ce_4 : decode cJ5_append_cf1ce 4 = .ok (.aload_n 0, 1) := by decide +kernel
theorem dJ5_append_cf1ce_5 : decode cJ5_append_cf1ce 5 = .ok (.invokevirtual 204, 3) := by decide +kernel
theorem dJ5_append_cf1ce_8 : decode cJ5_append_cf1ce 8 = .ok (.areturn, 1) := by decide +kernel
theorem dJ5_append_cf1ce_9 : decode cJ5_append_cf1ce 9 = .ok (.aload_n 1, 1) := by decide +kernel
theorem dJ5_append_cf1ce_10 : decode cJ5_append_cf1ce 10 = .ok (.invokevirtual 32, 3) := by decide +kernel
theorem dJ5_append_cf1ce_13 : decode cJ5_append_cf1ce 13 = .ok (.istore_n 2, 1) := by decide +kernel
theorem dJ5_append_cf1ce_14 : decode cJ5_append_cf1ce 14 = .ok (.aload_n 0, 1) := by decide +kernel
theorem dJ5_append_cf1ce_15 : decode cJ5_append_cf1ce 15 = .ok (.aload_n 0, 1) := by decide +kernel
theorem dJ5_append_cf1ce_16 : decode cJ5_append_cf1ce 16 = .ok (.getfield 79, 3) := by decide +kernel
theorem dJ5_append_cf1ce_19 : decode cJ5_append_cf1ce 19 = .ok (.iload_n 2, 1) := by decide +kernel
theorem dJ5_append_cf1ce_20 : decode cJ5_append_cf1ce 20 = .ok (.iadd, 1) := by decide +kernel
theorem dJ5_append_cf1ce_21 : decode cJ5_append_cf1ce 21 = .ok (.invokevirtual 100, 3) := by decide +kernel
theorem dJ5_append_cf1ce_24 : decode cJ5_append_cf1ce 24 = .ok (.aload_n 0, 1) := by decide +kernel
theorem dJ5_append_cf1ce_25 : decode cJ5_append_cf1ce 25 = .ok (.aload_n 0, 1) := by decide +kernel
theorem dJ5_append_cf1ce_26 : decode cJ5_append_cf1ce 26 = .ok (.getfield 79, 3) := by decide +kernel
theorem dJ5_append_cf1ce_29 : decode cJ5_append_cf1ce 29 = .ok (.aload_n 1, 1) := by decide +kernel
theorem dJ5_append_cf1ce_30 : decode cJ5_append_cf1ce 30 = .ok (.invokevirtual 208, 3) := by decide +kernel
theorem dJ5_append_cf1ce_33 : decode cJ5_append_cf1ce 33 = .ok (.aload_n 0, 1) := by decide +kernel
theorem dJ5_append_cf1ce_34 : decode cJ5_append_cf1ce 34 = .ok (.dup, 1) := by decide +kernel
theorem dJ5_append_cf1ce_35 : decode cJ5_append_cf1ce 35 = .ok (.getfield 79, 3) := by decide +kernel
theorem dJ5_append_cf1ce_38 : decode cJ5_append_cf1ce 38 = .ok (.iload_n 2, 1) := by decide +kernel
theorem dJ5_append_cf1ce_39 : decode cJ5_append_cf1ce 39 = .ok (.iadd, 1) := by decide +kernel
theorem dJ5_append_cf1ce_40 : decode cJ5_append_cf1ce 40 = .ok (.putfield 79, 3) := by decide +kernel
theorem dJ5_append_cf1ce_43 : decode cJ5_append_cf1ce 43 = .ok (.aload_n 0, 1) := by decide +kernel
theorem dJ5_append_cf1ce_44 : decode cJ5_append_cf1ce 44 = .ok (.areturn, 1) := by decide +kernel
theorem dJ5_appendNull_278bc_0 : decode cJ5_appendNull_278bc 0 = .ok (.aload_n 0, 1) := by decide +kernel
theorem dJ5_appendNull_278bc_1 : decode cJ5_appendNull_278bc 1 = .ok (.aload_n 0, 1) := by decide +kernel
theorem dJ5_appendNull_278bc_2 : decode cJ5_appendNull_278bc 2 = .ok (.getfield 79, 3) := by decide +kernel
theorem dJ5_appendNull_278bc_5 : decode cJ5_appendNull_278bc 5 = .ok (.iconst 4, 1) := by decide +kernel
theorem dJ5_appendNull_278bc_6 : decode cJ5_appendNull_278bc 6 = .ok (.iadd, 1) := by decide +kernel
theorem dJ5_appendNull_278bc_7 : decode cJ5_appendNull_278bc 7 = .ok (.invokevirtual 100, 3) := by decide +kernel
theorem dJ5_appendNull_278bc_10 : decode cJ5_appendNull_278bc 10 = .ok (.aload_n 0, 1) := by decide +kernel
theorem dJ5_appendNull_278bc_11 : decode cJ5_appendNull_278bc 11 = .ok (.getfield 79, 3) := by decide +kernel
theorem dJ5_appendNull_278bc_14 : decode cJ5_appendNull_278bc 14 = .ok (.istore_n 1, 1) := by decide +kernel
theorem dJ5_appendNull_278bc_15 : decode cJ5_appendNull_278bc 15 = .ok (.aload_n 0, 1) := by decide +kernel
theorem dJ5_appendNull_278bc_16 : decode cJ5_appendNull_278bc 16 = .ok (.getfield 15, 3) := by decide +kernel
theorem dJ5_appendNull_278bc_19 : decode cJ5_appendNull_278bc 19 = .ok (.astore_n 2, 1) := by decide +kernel
theorem dJ5_appendNull_278bc_20 : decode cJ5_appendNull_278bc 20 = .ok (.aload_n 0, 1) := by decide +kernel
theorem dJ5_appendNull_278bc_21 : decode cJ5_appendNull_278bc 21 = .ok (.invokevirtual 83, 3) := by decide +kernel
theorem dJ5_appendNull_278bc_24 : decode cJ5_appendNull_278bc 24 = .ok (.ifCond .eq 38, 3) := by decide +kernel
theorem dJ5_appendNull_278bc_27 : decode cJ5_appendNull_278bc 27 = .ok (.aload_n 2, 1) := by decide +kernel
theorem dJ5_appendNull_278bc_28 : decode cJ5_appendNull_278bc 28 = .ok (.iload_n 1, 1) := by decide +kernel
theorem dJ5_appendNull_278bc_29 : decode cJ5_appendNull_278bc 29 = .ok (.iinc 1 1, 3) := by decide +kernel
theorem dJ5_appendNull_278bc_32 : decode cJ5_appendNull_278bc 32 = .ok (.bipush 110, 2) := by decide +kernel
theorem dJ5_appendNull_278bc_34 : decode cJ5_appendNull_278bc 34 = .ok (.bastore, 1) := by decide +kernel
theorem dJ5_appendNull_278bc_35 : decode cJ5_appendNull_278bc 35 = .ok (.aload_n 2, 1) := by decide +kernel
theorem dJ5_appendNull_278bc_36 : decode cJ5_appendNull_278bc 36 = .ok (.iload_n 1, 1) := by decide +kernel
theorem dJ5_appendNull_278bc_37 : decode cJ5_appendNull_278bc 37 = .ok (.iinc 1 1, 3) := by decide +kernel
theorem dJ5_appendNull_278bc_40 : decode cJ5_appendNull_278bc 40 = .ok (.bipush 117, 2) := by decide +kernel
theorem dJ5_appendNull_278bc_42 : decode cJ5_appendNull_278bc 42 = .ok (.bastore, 1) := by decide +kernel
theorem dJ5_appendNull_278bc_43 : decode cJ5_appendNull_278bc 43 = .ok (.aload_n 2, 1) := by decide +kernel
theorem dJ5_appendNull_278bc_44 : decode cJ5_appendNull_278bc 44 = .ok (.iload_n 1, 1) := by decide +kernel
theorem dJ5_appendNull_278bc_45 : decode cJ5_appendNull_278bc 45 = .ok (.iinc 1 1, 3) := by decide +kernel
theorem dJ5_appendNull_278bc_48 : decode cJ5_appendNull_278bc 48 = .ok (.bipush 108, 2) := by decide +kernel
theorem dJ5_appendNull_278bc_50 : decode cJ5_appendNull_278bc 50 = .ok (.bastore, 1) := by decide +kernel
theorem dJ5_appendNull_278bc_51 : decode cJ5_appendNull_278bc 51 = .ok (.aload_n 2, 1) := by decide +kernel
theorem dJ5_appendNull_278bc_52 : decode cJ5_appendNull_278bc 52 = .ok (.iload_n 1, 1) := by decide +kernel
theorem dJ5_appendNull_278bc_53 : decode cJ5_appendNull_278bc 53 = .ok (.iinc 1 1, 3) := by decide +kernel
theorem dJ5_appendNull_278bc_56 : decode cJ5_appendNull_278bc 56 = .ok (.bipush 108, 2) := by decide +kernel
theorem dJ5_appendNull_278bc_58 : decode cJ5_appendNull_278bc 58 = .ok (.bastore, 1) := by decide +kernel
theorem dJ5_appendNull_278bc_59 : decode cJ5_appendNull_278bc 59 = .ok (.goto 17, 3) := by decide +kernel
theorem dJ5_appendNull_278bc_62 : decode cJ5_appendNull_278bc 62 = .ok (.aload_n 2, 1) := by decide +kernel
theorem dJ5_appendNull_278bc_63 : decode cJ5_appendNull_278bc 63 = .ok (.iload_n 1, 1) := by decide +kernel
theorem dJ5_appendNull_278bc_64 : decode cJ5_appendNull_278bc 64 = .ok (.bipush 110, 2) := by decide +kernel
theorem dJ5_appendNull_278bc_66 : decode cJ5_appendNull_278bc 66 = .ok (.bipush 117, 2) := by decide +kernel
theorem dJ5_appendNull_278bc_68 : decode cJ5_appendNull_278bc 68 = .ok (.bipush 108, 2) := by decide +kernel
theorem dJ5_appendNull_278bc_70 : decode cJ5_appendNull_278bc 70 = .ok (.bipush 108, 2) := by decide +kernel
theorem dJ5_appendNull_278bc_72 : decode cJ5_appendNull_278bc 72 = .ok (.invokestatic 226, 3) := by decide +kernel
theorem dJ5_appendNull_278bc_75 : decode cJ5_appendNull_278bc 75 = .ok (.istore_n 1, 1) := by decide +kernel
theorem dJ5_appendNull_278bc_76 : decode cJ5_appendNull_278bc 76 = .ok (.aload_n 0, 1) := by decide +kernel
theorem dJ5_appendNull_278bc_77 : decode cJ5_appendNull_278bc 77 = .ok (.iload_n 1, 1) := by decide +kernel
theorem dJ5_appendNull_278bc_78 : decode cJ5_appendNull_278bc 78 = .ok (.putfield 79, 3) := by decide +kernel
theorem dJ5_appendNull_278bc_81 : decode cJ5_appendNull_278bc 81 = .ok (.aload_n 0, 1) := by decide +kernel
theorem dJ5_appendNull_278bc_82 : decode cJ5_appendNull_278bc 82 = .ok (.areturn, 1) := by decide +kernel
theorem dJ5_append_3fe6f_0 : decode cJ5_append_3fe6f 0 = .ok (.aload_n 0, 1) := by decide +kernel
theorem dJ5_append_3fe6f_1 : decode cJ5_append_3fe6f 1 = .ok (.aload_n 0, 1) := by decide +kernel
theorem dJ5_append_3fe6f_2 : decode cJ5_append_3fe6f 2 = .ok (.getfield 79, 3) := by decide +kernel
theorem dJ5_append_3fe6f_5 : decode cJ5_append_3fe6f 5 = .ok (.iconst 1, 1) := by decide +kernel
theorem dJ5_append_3fe6f_6 : decode cJ5_append_3fe6f 6 = .ok (.iadd, 1) := by decide +kernel
theorem dJ5_append_3fe6f_7 : decode cJ5_append_3fe6f 7 = .ok (.invokevirtual 100, 3) := by decide +kernel
theorem dJ5_append_3fe6f_10 : decode cJ5_append_3fe6f 10 = .ok (.aload_n 0, 1) := by decide +kernel
theorem dJ5_append_3fe6f_11 : decode cJ5_append_3fe6f 11 = .ok (.invokevirtual 83, 3) := by decide +kernel
theorem dJ5_append_3fe6f_14 : decode cJ5_append_3fe6f 14 = .ok (.ifCond .eq 31, 3) := by decide +kernel
theorem dJ5_append_3fe6f_17 : decode cJ5_append_3fe6f 17 = .ok (.iload_n 1, 1) := by decide +kernel
theorem dJ5_append_3fe6f_18 : decode cJ5_append_3fe6f 18 = .ok (.invokestatic 191, 3) := by decide +kernel
theorem dJ5_append_3fe6f_21 : decode cJ5_append_3fe6f 21 = .ok (.ifCond .eq 24, 3) := by decide +kernel
theorem dJ5_append_3fe6f_24 : decode cJ5_append_3fe6f 24 = .ok (.aload_n 0, 1) := by decide +kernel
theorem dJ5_append_3fe6f_25 : decode cJ5_append_3fe6f 25 = .ok (.getfield 15, 3) := by decide +kernel
theorem dJ5_append_3fe6f_28 : decode cJ5_append_3fe6f 28 = .ok (.aload_n 0, 1) := by decide +kernel
theorem dJ5_append_3fe6f_29 : decode cJ5_append_3fe6f 29 = .ok (.dup, 1) := by decide +kernel
theorem dJ5_append_3fe6f_30 : decode cJ5_append_3fe6f 30 = .ok (.getfield 79, 3) := by decide +kernel
theorem dJ5_append_3fe6f_33 : decode cJ5_append_3fe6f 33 = .ok (.dup_x1, 1) := by decide +kernel
theorem dJ5_append_3fe6f_34 : decode cJ5_append_3fe6f 34 = .ok (.iconst 1, 1) := by decide +kernel
theorem dJ5_append_3fe6f_35 : decode cJ5_append_3fe6f 35 = .ok (.iadd, 1) := by decide +kernel
theorem dJ5_append_3fe6f_36 : decode cJ5_append_3fe6f 36 = .ok (.putfield 79, 3) := by decide +kernel
theorem dJ5_append_3fe6f_39 : decode cJ5_append_3fe6f 39 = .ok (.iload_n 1, 1) := by decide +kernel
theorem dJ5_append_3fe6f_40 : decode cJ5_append_3fe6f 40 = .ok (.i2b, 1) := by decide +kernel
theorem dJ5_append_3fe6f_41 : decode cJ5_append_3fe6f 41 = .ok (.bastore, 1) := by decide +kernel
theorem dJ5_append_3fe6f_42 : decode cJ5_append_3fe6f 42 = .ok (.goto 33, 3) := by decide +kernel
theorem dJ5_append_3fe6f_45 : decode cJ5_append_3fe6f 45 = .ok (.aload_n 0, 1) := by decide +kernel
theorem dJ5_append_3fe6f_46 : decode cJ5_append_3fe6f 46 = .ok (.invokevirtual 83, 3) := by decide +kernel
theorem dJ5_append_3fe6f_49 : decode cJ5_append_3fe6f 49 = .ok (.ifCond .eq 7, 3) := by decide +kernel
theorem dJ5_append_3fe6f_52 : decode cJ5_append_3fe6f 52 = .ok (.aload_n 0, 1) := by decide +kernel
theorem dJ5_append_3fe6f_53 : decode cJ5_append_3fe6f 53 = .ok (.invokevirtual 195, 3) := by decide +kernel
theorem dJ5_append_3fe6f_56 : decode cJ5_append_3fe6f 56 = .ok (.aload_n 0, 1) := by decide +kernel
theorem dJ5_append_3fe6f_57 : decode cJ5_append_3fe6f 57 = .ok (.getfield 15, 3) := by decide +kernel
theorem dJ5_append_3fe6f_60 : decode cJ5_append_3fe6f 60 = .ok (.aload_n 0, 1) := by decide +kernel
theorem dJ5_append_3fe6f_61 : decode cJ5_append_3fe6f 61 = .ok (.dup, 1) := by decide +kernel
theorem dJ5_append_3fe6f_62 : decode cJ5_append_3fe6f 62 = .ok (.getfield 79, 3) := by decide +kernel
theorem dJ5_append_3fe6f_65 : decode cJ5_append_3fe6f 65 = .ok (.dup_x1, 1) := by decide +kernel
theorem dJ5_append_3fe6f_66 : decode cJ5_append_3fe6f 66 = .ok (.iconst 1, 1) := by decide +kernel
theorem dJ5_append_3fe6f_67 : decode cJ5_append_3fe6f 67 = .ok (.iadd, 1) := by decide +kernel
theorem dJ5_append_3fe6f_68 : decode cJ5_append_3fe6f 68 = .ok (.putfield 79, 3) := by decide +kernel
theorem dJ5_append_3fe6f_71 : decode cJ5_append_3fe6f 71 = .ok (.iload_n 1, 1) := by decide +kernel
theorem dJ5_append_3fe6f_72 : decode cJ5_append_3fe6f 72 = .ok (.invokestatic 197, 3) := by decide +kernel
theorem dJ5_append_3fe6f_75 : decode cJ5_append_3fe6f 75 = .ok (.aload_n 0, 1) := by decide +kernel
theorem dJ5_append_3fe6f_76 : decode cJ5_append_3fe6f 76 = .ok (.areturn, 1) := by decide +kernel
theorem dJ5_append_c97b9_0 : decode cJ5_append_c97b9 0 = .ok (.aload_n 0, 1) := by decide +kernel
theorem dJ5_append_c97b9_1 : decode cJ5_append_c97b9 1 = .ok (.getfield 79, 3) := by decide +kernel
theorem dJ5_append_c97b9_4 : decode cJ5_append_c97b9 4 = .ok (.istore_n 2, 1) := by decide +kernel
theorem dJ5_append_c97b9_5 : decode cJ5_append_c97b9 5 = .ok (.iload_n 2, 1) := by decide +kernel
theorem dJ5_append_c97b9_6 : decode cJ5_append_c97b9 6 = .ok (.iload_n 1, 1) := by decide +kernel
theorem dJ5_append_c97b9_7 : decode cJ5_append_c97b9 7 = .ok (.invokestatic 245, 3) := by decide +kernel
theorem dJ5_append_c97b9_10 : decode cJ5_append_c97b9 10 = .ok (.iadd, 1) := by decide +kernel
theorem dJ5_append_c97b9_11 : decode cJ5_append_c97b9 11 = .ok (.istore_n 3, 1) := by decide +kernel
theorem dJ5_append_c97b9_12 : decode cJ5_append_c97b9 12 = .ok (.aload_n 0, 1) := by decide +kernel
theorem dJ5_append_c97b9_13 : decode cJ5_append_c97b9 13 = .ok (.iload_n 3, 1) := by decide +kernel
theorem dJ5_append_c97b9_14 : decode cJ5_append_c97b9 14 = .ok (.invokevirtual 100, 3) := by decide +kernel
theorem dJ5_append_c97b9_17 : decode cJ5_append_c97b9 17 = .ok (.aload_n 0, 1) := by decide +kernel
theorem dJ5_append_c97b9_18 : decode cJ5_append_c97b9 18 = .ok (.invokevirtual 83, 3) := by decide +kernel
theorem dJ5_append_c97b9_21 : decode cJ5_append_c97b9 21 = .ok (.ifCond .eq 16, 3) := by decide +kernel
theorem dJ5_append_c97b9_24 : decode cJ5_append_c97b9 24 = .ok (.iload_n 1, 1) := by decide +kernel
theorem dJ5_append_c97b9_25 : decode cJ5_append_c97b9 25 = .ok (.iload_n 3, 1) := by decide +kernel
theorem dJ5_append_c97b9_26 : decode cJ5_append_c97b9 26 = .ok (.aload_n 0, 1) := by decide +kernel
theorem dJ5_append_c97b9_27 : decode cJ5_append_c97b9 27 = .ok (.getfield 15, 3) := by decide +kernel
theorem dJ5_append_c97b9_30 : decode cJ5_append_c97b9 30 = .ok (.invokestatic 248, 3) := by decide +kernel
theorem dJ5_append_c97b9_33 : decode cJ5_append_c97b9 33 = .ok (.pop, 1) := by decide +kernel
theorem dJ5_append_c97b9_34 : decode cJ5_append_c97b9 34 = .ok (.goto 14, 3) := by decide +kernel
theorem dJ5_append_c97b9_37 : decode cJ5_append_c97b9 37 = .ok (.iload_n 1, 1) := by decide +kernel
theorem dJ5_append_c97b9_38 : decode cJ5_append_c97b9 38 = .ok (.iload_n 2, 1) := by decide +kernel
theorem dJ5_append_c97b9_39 : decode cJ5_append_c97b9 39 = .ok (.iload_n 3, 1) := by decide +kernel
theorem dJ5_append_c97b9_40 : decode cJ5_append_c97b9 40 = .ok (.aload_n 0, 1) := by decide +kernel
theorem dJ5_append_c97b9_41 : decode cJ5_append_c97b9 41 = .ok (.getfield 15, 3) := by decide +kernel
theorem dJ5_append_c97b9_44 : decode cJ5_append_c97b9 44 = .ok (.invokestatic 251, 3) := by decide +kernel
theorem dJ5_append_c97b9_47 : decode cJ5_append_c97b9 47 = .ok (.pop, 1) := by decide +kernel
theorem dJ5_append_c97b9_48 : decode cJ5_append_c97b9 48 = .ok (.aload_n 0, 1) := by decide +kernel
theorem dJ5_append_c97b9_49 : decode cJ5_append_c97b9 49 = .ok (.iload_n 3, 1) := by decide +kernel
theorem dJ5_append_c97b9_50 : decode cJ5_append_c97b9 50 = .ok (.putfield 79, 3) := by decide +kernel
theorem dJ5_append_c97b9_53 : decode cJ5_append_c97b9 53 = .ok (.aload_n 0, 1) := by decide +kernel
theorem dJ5_append_c97b9_54 : decode cJ5_append_c97b9 54 = .ok (.areturn, 1) := by decide +kernel
theorem dJ5_getValue_6d5f1_0 : decode cJ5_getValue_6d5f1 0 = .ok (.aload_n 0, 1) := by decide +kernel
theorem dJ5_getValue_6d5f1_1 : decode cJ5_getValue_6d5f1 1 = .ok (.getfield 15, 3) := by decide +kernel
theorem dJ5_getValue_6d5f1_4 : decode cJ5_getValue_6d5f1 4 = .ok (.areturn, 1) := by decide +kernel
theorem dJ5_isLatin1_aae02_0 : decode cJ5_isLatin1_aae02 0 = .ok (.getstatic 18, 3) := by decide +kernel
theorem dJ5_isLatin1_aae02_3 : decode cJ5_isLatin1_aae02 3 = .ok (.ifCond .eq 14, 3) := by decide +kernel
theorem dJ5_isLatin1_aae02_6 : decode cJ5_isLatin1_aae02 6 = .ok (.aload_n 0, 1) := by decide +kernel
theorem dJ5_isLatin1_aae02_7 : decode cJ5_isLatin1_aae02 7 = .ok (.getfield 22, 3) := by decide +kernel
theorem dJ5_isLatin1_aae02_10 : decode cJ5_isLatin1_aae02 10 = .ok (.ifCond .ne 7, 3) := by decide +kernel
theorem dJ5_isLatin1_aae02_13 : decode cJ5_isLatin1_aae02 13 = .ok (.iconst 1, 1) := by decide +kernel
theorem dJ5_isLatin1_aae02_14 : decode cJ5_isLatin1_aae02 14 = .ok (.goto 4, 3) := by decide +kernel
theorem dJ5_isLatin1_aae02_17 : decode cJ5_isLatin1_aae02 17 = .ok (.iconst 0, 1) := by decide +kernel
theorem dJ5_isLatin1_aae02_18 : decode cJ5_isLatin1_aae02 18 = .ok (.ireturn, 1) := by decide +kernel
theorem dJ5_inflateIfNeededFor_a7421_0 : decode cJ5_inflateIfNeededFor_a7421 0 = .ok (.getstatic 18, 3) := by decide +kernel
theorem dJ5_inflateIfNeededFor_a7421_3 : decode cJ5_inflateIfNeededFor_a7421 3 = .ok (.ifCond .eq 18, 3) := by decide +kernel
theorem dJ5_inflateIfNeededFor_a7421_6 : decode cJ5_inflateIfNeededFor_a7421 6 = .ok (.aload_n 0, 1) := by decide +kernel
theorem dJ5_inflateIfNeededFor_a7421_7 : decode cJ5_inflateIfNeededFor_a7421 7 = .ok (.getfield 22, 3) := by decide +kernel
theorem dJ5_inflateIfNeededFor_a7421_10 : decode cJ5_inflateIfNeededFor_a7421 10 = .ok (.aload_n 1, 1) := by decide +kernel
theorem dJ5_inflateIfNeededFor_a7421_11 : decode cJ5_inflateIfNeededFor_a7421 11 = .ok (.invokevirtual 40, 3) := by decide +kernel
theorem dJ5_inflateIfNeededFor_a7421_14 : decode cJ5_inflateIfNeededFor_a7421 14 = .ok (.if_icmp .eq 7, 3) := by decide +kernel
theorem dJ5_inflateIfNeededFor_a7421_17 : decode cJ5_inflateIfNeededFor_a7421 17 = .ok (.aload_n 0, 1) := by decide +kernel
theorem dJ5_inflateIfNeededFor_a7421_18 : decode cJ5_inflateIfNeededFor_a7421 18 = .ok (.invokevirtual 195, 3) := by decide +kernel
theorem dJ5_inflateIfNeededFor_a7421_21 : decode cJ5_inflateIfNeededFor_a7421 21 = .ok (.return_, 1) := by decide +kernel
theorem dJ5_putStringAt_47b60_0 : decode cJ5_putStringAt_47b60 0 = .ok (.aload_n 0, 1) := by decide +kernel
theorem dJ5_putStringAt_47b60_1 : decode cJ5_putStringAt_47b60 1 = .ok (.aload_n 2, 1) := by decide +kernel
theorem dJ5_putStringAt_47b60_2 : decode cJ5_putStringAt_47b60 2 = .ok (.invokevirtual 397, 3) := by decide +kernel
theorem dJ5_putStringAt_47b60_5 : decode cJ5_putStringAt_47b60 5 = .ok (.aload_n 2, 1) := by decide +kernel
theorem dJ5_putStringAt_47b60_6 : decode cJ5_putStringAt_47b60 6 = .ok (.aload_n 0, 1) := by decide +kernel
theorem dJ5_putStringAt_47b60_7 : decode cJ5_putStringAt_47b60 7 = .ok (.getfield 15, 3) := by decide +kernel
theorem dJ5_putStringAt_47b60_10 : decode cJ5_putStringAt_47b60 10 = .ok (.iload_n 1, 1) := by decide +kernel
theorem dJ5_putStringAt_47b60_11 : decode cJ5_putStringAt_47b60 11 = .ok (.aload_n 0, 1) := by decide +kernel
theorem dJ5_putStringAt_47b60_12 : decode cJ5_putStringAt_47b60 12 = .ok (.getfield 22, 3) := by decide +kernel
theorem dJ5_putStringAt_47b60_15 : decode cJ5_putStringAt_47b60 15 = .ok (.invokevirtual 399, 3) := by decide +kernel
theorem dJ5_putStringAt_47b60_18 : decode cJ5_putStringAt_47b60 18 = .ok (.return_, 1) := by decide +kernel
theorem dJ6_getChars_ba4f3_0 : decode cJ6_getChars_ba4f3 0 = .ok (.iload_n 1, 1) := by decide +kernel
theorem dJ6_getChars_ba4f3_1 : decode cJ6_getChars_ba4f3 1 = .ok (.istore 5, 2) := by decide +kernel
theorem dJ6_getChars_ba4f3_3 : decode cJ6_getChars_ba4f3 3 = .ok (.iload_n 0, 1) := by decide +kernel
theorem dJ6_getChars_ba4f3_4 : decode cJ6_getChars_ba4f3 4 = .ok (.ifCond .ge 7, 3) := by decide +kernel
theorem dJ6_getChars_ba4f3_7 : decode cJ6_getChars_ba4f3 7 = .ok (.iconst 1, 1) := by decide +kernel
theorem dJ6_getChars_ba4f3_8 : decode cJ6_getChars_ba4f3 8 = .ok (.goto 4, 3) := by decide +kernel
theorem dJ6_getChars_ba4f3_11 : decode cJ6_getChars_ba4f3 11 = .ok (.iconst 0, 1) := by decide +kernel
theorem dJ6_getChars_ba4f3_12 : decode cJ6_getChars_ba4f3 12 = .ok (.istore 6, 2) := by decide +kernel
theorem dJ6_getChars_ba4f3_14 : decode cJ6_getChars_ba4f3 14 = .ok (.iload 6, 2) := by decide +kernel
theorem dJ6_getChars_ba4f3_16 : decode cJ6_getChars_ba4f3 16 = .ok (.ifCond .ne 6, 3) := by decide +kernel
theorem dJ6_getChars_ba4f3_19 : decode cJ6_getChars_ba4f3 19 = .ok (.iload_n 0, 1) := by decide +kernel
theorem dJ6_getChars_ba4f3_20 : decode cJ6_getChars_ba4f3 20 = .ok (.ineg, 1) := by decide +kernel
theorem dJ6_getChars_ba4f3_21 : decode cJ6_getChars_ba4f3 21 = .ok (.istore_n 0, 1) := by decide +kernel
theorem dJ6_getChars_ba4f3_22 : decode cJ6_getChars_ba4f3 22 = .ok (.iload_n 0, 1) := by decide +kernel
theorem dJ6_getChars_ba4f3_23 : decode cJ6_getChars_ba4f3 23 = .ok (.bipush (-100), 2) := by decide +kernel
theorem dJ6_getChars_ba4f3_25 : decode cJ6_getChars_ba4f3 25 = .ok (.if_icmp .gt 47, 3) := by decide +kernel
theorem dJ6_getChars_ba4f3_28 : decode cJ6_getChars_ba4f3 28 = .ok (.iload_n 0, 1) := by decide +kernel
theorem dJ6_getChars_ba4f3_29 : decode cJ6_getChars_ba4f3 29 = .ok (.bipush 100, 2) := by decide +kernel
theorem dJ6_getChars_ba4f3_31 : decode cJ6_getChars_ba4f3 31 = .ok (.idiv, 1) := by decide +kernel
theorem dJ6_getChars_ba4f3_32 : decode cJ6_getChars_ba4f3 32 = .ok (.istore_n 3, 1) := by decide +kernel
theorem dJ6_getChars_ba4f3_33 : decode cJ6_getChars_ba4f3 33 = .ok (.iload_n 3, 1) := by decide +kernel
theorem dJ6_getChars_ba4f3_34 : decode cJ6_getChars_ba4f3 34 = .ok (.bipush 100, 2) := by decide +kernel
theorem dJ6_getChars_ba4f3_36 : decode cJ6_getChars_ba4f3 36 = .ok (.imul, 1) := by decide +kernel
theorem dJ6_getChars_ba4f3_37 : decode cJ6_getChars_ba4f3 37 = .ok (.iload_n 0, 1) := by decide +kernel
theorem dJ6_getChars_ba4f3_38 : decode cJ6_getChars_ba4f3 38 = .ok (.isub, 1) := by decide +kernel
theorem dJ6_getChars_ba4f3_39 : decode cJ6_getChars_ba4f3 39 = .ok (.istore 4, 2) := by decide +kernel
theorem dJ6_getChars_ba4f3_41 : decode cJ6_getChars_ba4f3 41 = .ok (.iload_n 3, 1) := by decide +kernel
theorem dJ6_getChars_ba4f3_42 : decode cJ6_getChars_ba4f3 42 = .ok (.istore_n 0, 1) := by decide +kernel
theorem dJ6_getChars_ba4f3_43 : decode cJ6_getChars_ba4f3 43 = .ok (.aload_n 2, 1) := by decide +kernel
theorem dJ6_getChars_ba4f3_44 : decode cJ6_getChars_ba4f3 44 = .ok (.iinc 5 (-1), 3) := by decide +kernel
theorem dJ6_getChars_ba4f3_47 : decode cJ6_getChars_ba4f3 47 = .ok (.iload 5, 2) := by decide +kernel
theorem dJ6_getChars_ba4f3_49 : decode cJ6_getChars_ba4f3 49 = .ok (.getstatic 83, 3) := by decide +kernel
theorem dJ6_getChars_ba4f3_52 : decode cJ6_getChars_ba4f3 52 = .ok (.iload 4, 2) := by decide +kernel
theorem dJ6_getChars_ba4f3_54 : decode cJ6_getChars_ba4f3 54 = .ok (.baload, 1) := by decide +kernel
theorem dJ6_getChars_ba4f3_55 : decode cJ6_getChars_ba4f3 55 = .ok (.bastore, 1) := by decide +kernel
theorem dJ6_getChars_ba4f3_56 : decode cJ6_getChars_ba4f3 56 = .ok (.aload_n 2, 1) := by decide +kernel
theorem dJ6_getChars_ba4f3_57 : decode cJ6_getChars_ba4f3 57 = .ok (.iinc 5 (-1), 3) := by decide +kernel
theorem dJ6_getChars_ba4f3_60 : decode cJ6_getChars_ba4f3 60 = .ok (.iload 5, 2) := by decide +kernel
theorem dJ6_getChars_ba4f3_62 : decode cJ6_getChars_ba4f3 62 = .ok (.getstatic 87, 3) := by decide +kernel
theorem dJ6_getChars_ba4f3_65 : decode cJ6_getChars_ba4f3 65 = .ok (.iload 4, 2) := by decide +kernel
theorem dJ6_getChars_ba4f3_67 : decode cJ6_getChars_ba4f3 67 = .ok (.baload, 1) := by decide +kernel
theorem dJ6_getChars_ba4f3_68 : decode cJ6_getChars_ba4f3 68 = .ok (.bastore, 1) := by decide +kernel
theorem dJ6_getChars_ba4f3_69 : decode cJ6_getChars_ba4f3 69 = .ok (.goto (-47), 3) := by decide +kernel
theorem dJ6_getChars_ba4f3_72 : decode cJ6_getChars_ba4f3 72 = .ok (.aload_n 2, 1) := by decide +kernel
theorem dJ6_getChars_ba4f3_73 : decode cJ6_getChars_ba4f3 73 = .ok (.iinc 5 (-1), 3) := by decide +kernel
theorem dJ6_getChars_ba4f3_76 : decode cJ6_getChars_ba4f3 76 = .ok (.iload 5, 2) := by decide +kernel
theorem dJ6_getChars_ba4f3_78 : decode cJ6_getChars_ba4f3 78 = .ok (.getstatic 83, 3) := by decide +kernel
theorem dJ6_getChars_ba4f3_81 : decode cJ6_getChars_ba4f3 81 = .ok (.iload_n 0, 1) := by decide +kernel
theorem dJ6_getChars_ba4f3_82 : decode cJ6_getChars_ba4f3 82 = .ok (.ineg, 1) := by decide +kernel
theorem dJ6_getChars_ba4f3_83 : decode cJ6_getChars_ba4f3 83 = .ok (.baload, 1) := by decide +kernel
theorem dJ6_getChars_ba4f3_84 : decode cJ6_getChars_ba4f3 84 = .ok (.bastore, 1) := by decide +kernel
theorem dJ6_getChars_ba4f3_85 : decode cJ6_getChars_ba4f3 85 = .ok (.iload_n 0, 1) := by decide +kernel
theorem dJ6_getChars_ba4f3_86 : decode cJ6_getChars_ba4f3 86 = .ok (.bipush (-9), 2) := by decide +kernel
theorem dJ6_getChars_ba4f3_88 : decode cJ6_getChars_ba4f3 88 = .ok (.if_icmp .ge 16, 3) := by decide +kernel
theorem dJ6_getChars_ba4f3_91 : decode cJ6_getChars_ba4f3 91 = .ok (.aload_n 2, 1) := by decide +kernel
theorem dJ6_getChars_ba4f3_92 : decode cJ6_getChars_ba4f3 92 = .ok (.iinc 5 (-1), 3) := by decide +kernel
theorem dJ6_getChars_ba4f3_95 : decode cJ6_getChars_ba4f3 95 = .ok (.iload 5, 2) := by decide +kernel
theorem dJ6_getChars_ba4f3_97 : decode cJ6_getChars_ba4f3 97 = .ok (.getstatic 87, 3) := by decide +kernel
theorem dJ6_getChars_ba4f3_100 : decode cJ6_getChars_ba4f3 100 = .ok (.iload_n 0, 1) := by decide +kernel
theorem dJ6_getChars_ba4f3_101 : decode cJ6_getChars_ba4f3 101 = .ok (.ineg, 1) := by decide +kernel
theorem dJ6_getChars_ba4f3_102 : decode cJ6_getChars_ba4f3 102 = .ok (.baload, 1) := by decide +kernel
theorem dJ6_getChars_ba4f3_103 : decode cJ6_getChars_ba4f3 103 = .ok (.bastore, 1) := by decide +kernel
theorem dJ6_getChars_ba4f3_104 : decode cJ6_getChars_ba4f3 104 = .ok (.iload 6, 2) := by decide +kernel
theorem dJ6_getChars_ba4f3_106 : decode cJ6_getChars_ba4f3 106 = .ok (.ifCond .eq 12, 3) := by decide +kernel
theorem dJ6_getChars_ba4f3_109 : decode cJ6_getChars_ba4f3 109 = .ok (.aload_n 2, 1) := by decide +kernel
theorem dJ6_getChars_ba4f3_110 : decode cJ6_getChars_ba4f3 110 = .ok (.iinc 5 (-1), 3) := by decide +kernel
theorem dJ6_getChars_ba4f3_113 : decode cJ6_getChars_ba4f3 113 = .ok (.iload 5, 2) := by decide +kernel
theorem dJ6_getChars_ba4f3_115 : decode cJ6_getChars_ba4f3 115 = .ok (.bipush 45, 2) := by decide +kernel
theorem dJ6_getChars_ba4f3_117 : decode cJ6_getChars_ba4f3 117 = .ok (.bastore, 1) := by decide +kernel
theorem dJ6_getChars_ba4f3_118 : decode cJ6_getChars_ba4f3 118 = .ok (.iload 5, 2) := by decide +kernel
theorem dJ6_getChars_ba4f3_120 : decode cJ6_getChars_ba4f3 120 = .ok (.ireturn, 1) := by decide +kernel
theorem dJ6_stringSize_0f7a4_0 : decode cJ6_stringSize_0f7a4 0 = .ok (.iconst 1, 1) := by decide +kernel
theorem dJ6_stringSize_0f7a4_1 : decode cJ6_stringSize_0f7a4 1 = .ok (.istore_n 1, 1) := by decide +kernel
theorem dJ6_stringSize_0f7a4_2 : decode cJ6_stringSize_0f7a4 2 = .ok (.iload_n 0, 1) := by decide +kernel
theorem dJ6_stringSize_0f7a4_3 : decode cJ6_stringSize_0f7a4 3 = .ok (.ifCond .lt 8, 3) := by decide +kernel
theorem dJ6_stringSize_0f7a4_6 : decode cJ6_stringSize_0f7a4 6 = .ok (.iconst 0, 1) := by decide +kernel
theorem dJ6_stringSize_0f7a4_7 : decode cJ6_stringSize_0f7a4 7 = .ok (.istore_n 1, 1) := by decide +kernel
theorem dJ6_stringSize_0f7a4_8 : decode cJ6_stringSize_0f7a4 8 = .ok (.iload_n 0, 1) := by decide +kernel
theorem dJ6_stringSize_0f7a4_9 : decode cJ6_stringSize_0f7a4 9 = .ok (.ineg, 1) := by decide +kernel
theorem dJ6_stringSize_0f7a4_10 : decode cJ6_stringSize_0f7a4 10 = .ok (.istore_n 0, 1) := by decide +kernel
theorem dJ6_stringSize_0f7a4_11 : decode cJ6_stringSize_0f7a4 11 = .ok (.bipush (-10), 2) := by decide +kernel
theorem dJ6_stringSize_0f7a4_13 : decode cJ6_stringSize_0f7a4 13 = .ok (.istore_n 2, 1) := by decide +kernel
theorem dJ6_stringSize_0f7a4_14 : decode cJ6_stringSize_0f7a4 14 = .ok (.iconst 1, 1) := by decide +kernel
theorem dJ6_stringSize_0f7a4_15 : decode cJ6_stringSize_0f7a4 15 = .ok (.istore_n 3, 1) := by decide +kernel
theorem dJ6_stringSize_0f7a4_16 : decode cJ6_stringSize_0f7a4 16 = .ok (.iload_n 3, 1) := by decide +kernel
theorem dJ6_stringSize_0f7a4_17 : decode cJ6_stringSize_0f7a4 17 = .ok (.bipush 10, 2) := by decide +kernel
theorem dJ6_stringSize_0f7a4_19 : decode cJ6_stringSize_0f7a4 19 = .ok (.if_icmp .ge 23, 3) := by decide +kernel
theorem dJ6_stringSize_0f7a4_22 : decode cJ6_stringSize_0f7a4 22 = .ok (.iload_n 0, 1) := by decide +kernel
theorem dJ6_stringSize_0f7a4_23 : decode cJ6_stringSize_0f7a4 23 = .ok (.iload_n 2, 1) := by decide +kernel
theorem dJ6_stringSize_0f7a4_24 : decode cJ6_stringSize_0f7a4 24 = .ok (.if_icmp .le 7, 3) := by decide +kernel
theorem dJ6_stringSize_0f7a4_27 : decode cJ6_stringSize_0f7a4 27 = .ok (.iload_n 3, 1) := by decide +kernel
theorem dJ6_stringSize_0f7a4_28 : decode cJ6_stringSize_0f7a4 28 = .ok (.iload_n 1, 1) := by decide +kernel
theorem dJ6_stringSize_0f7a4_29 : decode cJ6_stringSize_0f7a4 29 = .ok (.iadd, 1) := by decide +kernel
theorem dJ6_stringSize_0f7a4_30 : decode cJ6_stringSize_0f7a4 30 = .ok (.ireturn, 1) := by decide +kernel
theorem dJ6_stringSize_0f7a4_31 : decode cJ6_stringSize_0f7a4 31 = .ok (.bipush 10, 2) := by decide +kernel
theorem dJ6_stringSize_0f7a4_33 : decode cJ6_stringSize_0f7a4 33 = .ok (.iload_n 2, 1) := by decide +kernel
theorem dJ6_stringSize_0f7a4_34 : decode cJ6_stringSize_0f7a4 34 = .ok (.imul, 1) := by decide +kernel
theorem dJ6_stringSize_0f7a4_35 : decode cJ6_stringSize_0f7a4 35 = .ok (.istore_n 2, 1) := by decide +kernel
theorem dJ6_stringSize_0f7a4_36 : decode cJ6_stringSize_0f7a4 36 = .ok (.iinc 3 1, 3) := by decide +kernel
theorem dJ6_stringSize_0f7a4_39 : decode cJ6_stringSize_0f7a4 39 = .ok (.goto (-23), 3) := by decide +kernel
theorem dJ6_stringSize_0f7a4_42 : decode cJ6_stringSize_0f7a4 42 = .ok (.bipush 10, 2) := by decide +kernel
theorem dJ6_stringSize_0f7a4_44 : decode cJ6_stringSize_0f7a4 44 = .ok (.iload_n 1, 1) := by decide +kernel
theorem dJ6_stringSize_0f7a4_45 : decode cJ6_stringSize_0f7a4 45 = .ok (.iadd, 1) := by decide +kernel
theorem dJ6_stringSize_0f7a4_46 : decode cJ6_stringSize_0f7a4 46 = .ok (.ireturn, 1) := by decide +kernel
theorem dJ9_abs_0f7a4_0 : decode cJ9_abs_0f7a4 0 = .ok (.iload_n 0, 1) := by decide +kernel
theorem dJ9_abs_0f7a4_1 : decode cJ9_abs_0f7a4 1 = .ok (.ifCond .ge 8, 3) := by decide +kernel
theorem dJ9_abs_0f7a4_4 : decode cJ9_abs_0f7a4 4 = .ok (.iload_n 0, 1) := by decide +kernel
theorem dJ9_abs_0f7a4_5 : decode cJ9_abs_0f7a4 5 = .ok (.ineg, 1) := by decide +kernel
theorem dJ9_abs_0f7a4_6 : decode cJ9_abs_0f7a4 6 = .ok (.goto 4, 3) := by decide +kernel
theorem dJ9_abs_0f7a4_9 : decode cJ9_abs_0f7a4 9 = .ok (.iload_n 0, 1) := by decide +kernel
theorem dJ9_abs_0f7a4_10 : decode cJ9_abs_0f7a4 10 = .ok (.ireturn, 1) := by decide +kernel
theorem dJ9_max_7cf53_0 : decode cJ9_max_7cf53 0 = .ok (.iload_n 0, 1) := by decide +kernel
theorem dJ9_max_7cf53_1 : decode cJ9_max_7cf53 1 = .ok (.iload_n 1, 1) := by decide +kernel
theorem dJ9_max_7cf53_2 : decode cJ9_max_7cf53 2 = .ok (.if_icmp .lt 7, 3) := by decide +kernel
theorem dJ9_max_7cf53_5 : decode cJ9_max_7cf53 5 = .ok (.iload_n 0, 1) := by decide +kernel
theorem dJ9_max_7cf53_6 : decode cJ9_max_7cf53 6 = .ok (.goto 4, 3) := by decide +kernel
theorem dJ9_max_7cf53_9 : decode cJ9_max_7cf53 9 = .ok (.iload_n 1, 1) := by decide +kernel
theorem dJ9_max_7cf53_10 : decode cJ9_max_7cf53 10 = .ok (.ireturn, 1) := by decide +kernel
theorem dJ9_min_7cf53_0 : decode cJ9_min_7cf53 0 = .ok (.iload_n 0, 1) := by decide +kernel
theorem dJ9_min_7cf53_1 : decode cJ9_min_7cf53 1 = .ok (.iload_n 1, 1) := by decide +kernel
theorem dJ9_min_7cf53_2 : decode cJ9_min_7cf53 2 = .ok (.if_icmp .gt 7, 3) := by decide +kernel
theorem dJ9_min_7cf53_5 : decode cJ9_min_7cf53 5 = .ok (.iload_n 0, 1) := by decide +kernel
theorem dJ9_min_7cf53_6 : decode cJ9_min_7cf53 6 = .ok (.goto 4, 3) := by decide +kernel
theorem dJ9_min_7cf53_9 : decode cJ9_min_7cf53 9 = .ok (.iload_n 1, 1) := by decide +kernel
theorem dJ9_min_7cf53_10 : decode cJ9_min_7cf53 10 = .ok (.ireturn, 1) := by decide +kernel
theorem dJ0_init_81219_0 : decode cJ0_init_81219 0 = .ok (.aload_n 0, 1) := by decide +kernel
theorem dJ0_init_81219_1 : decode cJ0_init_81219 1 = .ok (.aload_n 1, 1) := by decide +kernel
theorem dJ0_init_81219_2 : decode cJ0_init_81219 2 = .ok (.aconst_null, 1) := by decide +kernel
theorem dJ0_init_81219_3 : decode cJ0_init_81219 3 = .ok (.invokespecial 489, 3) := by decide +kernel
theorem dJ0_init_81219_6 : decode cJ0_init_81219 6 = .ok (.return_, 1) := by decide +kernel
theorem dJ0_length_8abf5_0 : decode cJ0_length_8abf5 0 = .ok (.aload_n 0, 1) := by decide +kernel
theorem dJ0_length_8abf5_1 : decode cJ0_length_8abf5 1 = .ok (.getfield 9, 3) := by decide +kernel
theorem dJ0_length_8abf5_4 : decode cJ0_length_8abf5 4 = .ok (.arraylength, 1) := by decide +kernel
theorem dJ0_length_8abf5_5 : decode cJ0_length_8abf5 5 = .ok (.aload_n 0, 1) := by decide +kernel
theorem dJ0_length_8abf5_6 : decode cJ0_length_8abf5 6 = .ok (.invokevirtual 335, 3) := by decide +kernel
theorem dJ0_length_8abf5_9 : decode cJ0_length_8abf5 9 = .ok (.ishr, 1) := by decide +kernel
theorem dJ0_length_8abf5_10 : decode cJ0_length_8abf5 10 = .ok (.ireturn, 1) := by decide +kernel
theorem dJ0_charAt_5068e_0 : decode cJ0_charAt_5068e 0 = .ok (.aload_n 0, 1) := by decide +kernel
theorem dJ0_charAt_5068e_1 : decode cJ0_charAt_5068e 1 = .ok (.invokevirtual 492, 3) := by decide +kernel
theorem dJ0_charAt_5068e_4 : decode cJ0_charAt_5068e 4 = .ok (.ifCond .eq 12, 3) := by decide +kernel
theorem dJ0_charAt_5068e_7 : decode cJ0_charAt_5068e 7 = .ok (.aload_n 0, 1) := by decide +kernel
theorem dJ0_charAt_5068e_8 : decode cJ0_charAt_5068e 8 = .ok (.getfield 9, 3) := by decide +kernel
theorem dJ0_charAt_5068e_11 : decode cJ0_charAt_5068e 11 = .ok (.iload_n 1, 1) := by decide +kernel
theorem dJ0_charAt_5068e_12 : decode cJ0_charAt_5068e 12 = .ok (.invokestatic 495, 3) := by decide +kernel
theorem dJ0_charAt_5068e_15 : decode cJ0_charAt_5068e 15 = .ok (.ireturn, 1) := by decide +kernel
theorem dJ0_charAt_5068e_16 : decode cJ0_charAt_5068e 16 = .ok (.aload_n 0, 1) := by decide +kernel
theorem dJ0_charAt_5068e_17 : decode cJ0_charAt_5068e 17 = .ok (.getfield 9, 3) := by decide +kernel
theorem dJ0_charAt_5068e_20 : decode cJ0_charAt_5068e 20 = .ok (.iload_n 1, 1) := by decide +kernel
theorem dJ0_charAt_5068e_21 : decode cJ0_charAt_5068e 21 = .ok (.invokestatic 498, 3) := by decide +kernel
theorem dJ0_charAt_5068e_24 : decode cJ0_charAt_5068e 24 = .ok (.ireturn, 1) := by decide +kernel
theorem dJ0_getBytes_840e7_0 : decode cJ0_getBytes_840e7 0 = .ok (.aload_n 0, 1) := by decide +kernel
theorem dJ0_getBytes_840e7_1 : decode cJ0_getBytes_840e7 1 = .ok (.invokevirtual 335, 3) := by decide +kernel
theorem dJ0_getBytes_840e7_4 : decode cJ0_getBytes_840e7 4 = .ok (.iload_n 3, 1) := by decide +kernel
theorem dJ0_getBytes_840e7_5 : decode cJ0_getBytes_840e7 5 = .ok (.if_icmp .ne 23, 3) := by decide +kernel
theorem dJ0_getBytes_840e7_8 : decode cJ0_getBytes_840e7 8 = .ok (.aload_n 0, 1) := by decide +kernel
theorem dJ0_getBytes_840e7_9 : decode cJ0_getBytes_840e7 9 = .ok (.getfield 9, 3) := by decide +kernel
theorem dJ0_getBytes_840e7_12 : decode cJ0_getBytes_840e7 12 = .ok (.iconst 0, 1) := by decide +kernel
theorem dJ0_getBytes_840e7_13 : decode cJ0_getBytes_840e7 13 = .ok (.aload_n 1, 1) := by decide +kernel
theorem dJ0_getBytes_840e7_14 : decode cJ0_getBytes_840e7 14 = .ok (.iload_n 2, 1) := by decide +kernel
theorem dJ0_getBytes_840e7_15 : decode cJ0_getBytes_840e7 15 = .ok (.iload_n 3, 1) := by decide +kernel
theorem dJ0_getBytes_840e7_16 : decode cJ0_getBytes_840e7 16 = .ok (.ishl, 1) := by decide +kernel
theorem dJ0_getBytes_840e7_17 : decode cJ0_getBytes_840e7 17 = .ok (.aload_n 0, 1) := by decide +kernel
theorem dJ0_getBytes_840e7_18 : decode cJ0_getBytes_840e7 18 = .ok (.getfield 9, 3) := by decide +kernel
theorem dJ0_getBytes_840e7_21 : decode cJ0_getBytes_840e7 21 = .ok (.arraylength, 1) := by decide +kernel
theorem dJ0_getBytes_840e7_22 : decode cJ0_getBytes_840e7 22 = .ok (.invokestatic 212, 3) := by decide +kernel
theorem dJ0_getBytes_840e7_25 : decode cJ0_getBytes_840e7 25 = .ok (.goto 18, 3) := by decide +kernel
theorem dJ0_getBytes_840e7_28 : decode cJ0_getBytes_840e7 28 = .ok (.aload_n 0, 1) := by decide +kernel
theorem dJ0_getBytes_840e7_29 : decode cJ0_getBytes_840e7 29 = .ok (.getfield 9, 3) := by decide +kernel
theorem dJ0_getBytes_840e7_32 : decode cJ0_getBytes_840e7 32 = .ok (.iconst 0, 1) := by decide +kernel
theorem dJ0_getBytes_840e7_33 : decode cJ0_getBytes_840e7 33 = .ok (.aload_n 1, 1) := by decide +kernel
theorem dJ0_getBytes_840e7_34 : decode cJ0_getBytes_840e7 34 = .ok (.iload_n 2, 1) := by decide +kernel
theorem dJ0_getBytes_840e7_35 : decode cJ0_getBytes_840e7 35 = .ok (.aload_n 0, 1) := by decide +kernel
theorem dJ0_getBytes_840e7_36 : decode cJ0_getBytes_840e7 36 = .ok (.getfield 9, 3) := by decide +kernel
theorem dJ0_getBytes_840e7_39 : decode cJ0_getBytes_840e7 39 = .ok (.arraylength, 1) := by decide +kernel
theorem dJ0_getBytes_840e7_40 : decode cJ0_getBytes_840e7 40 = .ok (.invokestatic 106, 3) := by decide +kernel
theorem dJ0_getBytes_840e7_43 : decode cJ0_getBytes_840e7 43 = .ok (.return_, 1) := by decide +kernel
theorem dJ0_init_db425_0 : decode cJ0_init_db425 0 = .ok (.aload_n 0, 1) := by decide +kernel
theorem dJ0_init_db425_1 : decode cJ0_init_db425 1 = .ok (.invokespecial 1, 3) := by decide +kernel
theorem dJ0_init_db425_4 : decode cJ0_init_db425 4 = .ok (.aload_n 1, 1) := by decide +kernel
theorem dJ0_init_db425_5 : decode cJ0_init_db425 5 = .ok (.invokevirtual 552, 3) := by decide +kernel
theorem dJ0_init_db425_8 : decode cJ0_init_db425 8 = .ok (.astore_n 3, 1) := by decide +kernel
theorem dJ0_init_db425_9 : decode cJ0_init_db425 9 = .ok (.aload_n 1, 1) := by decide +kernel
theorem dJ0_init_db425_10 : decode cJ0_init_db425 10 = .ok (.invokevirtual 549, 3) := by decide +kernel
theorem dJ0_init_db425_13 : decode cJ0_init_db425 13 = .ok (.istore 4, 2) := by decide +kernel
theorem dJ0_init_db425_15 : decode cJ0_init_db425 15 = .ok (.aload_n 1, 1) := by decide +kernel
theorem dJ0_init_db425_16 : decode cJ0_init_db425 16 = .ok (.invokevirtual 1047, 3) := by decide +kernel
theorem dJ0_init_db425_19 : decode cJ0_init_db425 19 = .ok (.ifCond .eq 22, 3) := by decide +kernel
theorem dJ0_init_db425_22 : decode cJ0_init_db425 22 = .ok (.aload_n 0, 1) := by decide +kernel
theorem dJ0_init_db425_23 : decode cJ0_init_db425 23 = .ok (.iconst 0, 1) := by decide +kernel
theorem dJ0_init_db425_24 : decode cJ0_init_db425 24 = .ok (.putfield 15, 3) := by decide +kernel
theorem dJ0_init_db425_27 : decode cJ0_init_db425 27 = .ok (.aload_n 0, 1) := by decide +kernel
theorem dJ0_init_db425_28 : decode cJ0_init_db425 28 = .ok (.aload_n 3, 1) := by decide +kernel
theorem dJ0_init_db425_29 : decode cJ0_init_db425 29 = .ok (.iconst 0, 1) := by decide +kernel
theorem dJ0_init_db425_30 : decode cJ0_init_db425 30 = .ok (.iload 4, 2) := by decide +kernel
theorem dJ0_init_db425_32 : decode cJ0_init_db425 32 = .ok (.invokestatic 54, 3) := by decide +kernel
theorem dJ0_init_db425_35 : decode cJ0_init_db425 35 = .ok (.putfield 9, 3) := by decide +kernel
theorem dJ0_init_db425_38 : decode cJ0_init_db425 38 = .ok (.goto 59, 3) := by decide +kernel
theorem dJ0_init_db425_41 : decode cJ0_init_db425 41 = .ok (.getstatic 38, 3) := by decide +kernel
theorem dJ0_init_db425_44 : decode cJ0_init_db425 44 = .ok (.ifCond .eq 35, 3) := by decide +kernel
theorem dJ0_init_db425_47 : decode cJ0_init_db425 47 = .ok (.aload_n 1, 1) := by decide +kernel
theorem dJ0_init_db425_48 : decode cJ0_init_db425 48 = .ok (.getfield 1048, 3) := by decide +kernel
theorem dJ0_init_db425_51 : decode cJ0_init_db425 51 = .ok (.ifCond .eq 28, 3) := by decide +kernel
theorem dJ0_init_db425_54 : decode cJ0_init_db425 54 = .ok (.aload_n 0, 1) := by decide +kernel
theorem dJ0_init_db425_55 : decode cJ0_init_db425 55 = .ok (.aload_n 3, 1) := by decide +kernel
theorem dJ0_init_db425_56 : decode cJ0_init_db425 56 = .ok (.iconst 0, 1) := by decide +kernel
theorem dJ0_init_db425_57 : decode cJ0_init_db425 57 = .ok (.iload 4, 2) := by decide +kernel
theorem dJ0_init_db425_59 : decode cJ0_init_db425 59 = .ok (.invokestatic 1051, 3) := by decide +kernel
theorem dJ0_init_db425_62 : decode cJ0_init_db425 62 = .ok (.putfield 9, 3) := by decide +kernel
theorem dJ0_init_db425_65 : decode cJ0_init_db425 65 = .ok (.aload_n 0, 1) := by decide +kernel
theorem dJ0_init_db425_66 : decode cJ0_init_db425 66 = .ok (.aload_n 0, 1) := by decide +kernel
theorem dJ0_init_db425_67 : decode cJ0_init_db425 67 = .ok (.getfield 9, 3) := by decide +kernel
theorem dJ0_init_db425_70 : decode cJ0_init_db425 70 = .ok (.iload 4, 2) := by decide +kernel
theorem dJ0_init_db425_72 : decode cJ0_init_db425 72 = .ok (.invokestatic 47, 3) := by decide +kernel
theorem dJ0_init_db425_75 : decode cJ0_init_db425 75 = .ok (.putfield 15, 3) := by decide +kernel
theorem dJ0_init_db425_78 : decode cJ0_init_db425 78 = .ok (.return_, 1) := by decide +kernel
theorem dJ0_init_db425_79 : decode cJ0_init_db425 79 = .ok (.aload_n 0, 1) := by decide +kernel
theorem dJ0_init_db425_80 : decode cJ0_init_db425 80 = .ok (.iconst 1, 1) := by decide +kernel
theorem dJ0_init_db425_81 : decode cJ0_init_db425 81 = .ok (.putfield 15, 3) := by decide +kernel
theorem dJ0_init_db425_84 : decode cJ0_init_db425 84 = .ok (.aload_n 0, 1) := by decide +kernel
theorem dJ0_init_db425_85 : decode cJ0_init_db425 85 = .ok (.aload_n 3, 1) := by decide +kernel
theorem dJ0_init_db425_86 : decode cJ0_init_db425 86 = .ok (.iconst 0, 1) := by decide +kernel
theorem dJ0_init_db425_87 : decode cJ0_init_db425 87 = .ok (.iload 4, 2) := by decide +kernel
theorem dJ0_init_db425_89 : decode cJ0_init_db425 89 = .ok (.iconst 1, 1) := by decide +kernel
theorem dJ0_init_db425_90 : decode cJ0_init_db425 90 = .ok (.ishl, 1) := by decide +kernel
theorem dJ0_init_db425_91 : decode cJ0_init_db425 91 = .ok (.invokestatic 54, 3) := by decide +kernel
theorem dJ0_init_db425_94 : decode cJ0_init_db425 94 = .ok (.putfield 9, 3) := by decide +kernel
theorem dJ0_init_db425_97 : decode cJ0_init_db425 97 = .ok (.return_, 1) := by decide +kernel
theorem dJ0_coder_7d493_0 : decode cJ0_coder_7d493 0 = .ok (.getstatic 38, 3) := by decide +kernel
theorem dJ0_coder_7d493_3 : decode cJ0_coder_7d493 3 = .ok (.ifCond .eq 10, 3) := by decide +kernel
theorem dJ0_coder_7d493_6 : decode cJ0_coder_7d493 6 = .ok (.aload_n 0, 1) := by decide +kernel
theorem dJ0_coder_7d493_7 : decode cJ0_coder_7d493 7 = .ok (.getfield 15, 3) := by decide +kernel
theorem dJ0_coder_7d493_10 : decode cJ0_coder_7d493 10 = .ok (.goto 4, 3) := by decide +kernel
theorem dJ0_coder_7d493_13 : decode cJ0_coder_7d493 13 = .ok (.iconst 1, 1) := by decide +kernel
theorem dJ0_coder_7d493_14 : decode cJ0_coder_7d493 14 = .ok (.ireturn, 1) := by decide +kernel
theorem dJ0_isLatin1_aae02_0 : decode cJ0_isLatin1_aae02 0 = .ok (.getstatic 38, 3) := by decide +kernel
theorem dJ0_isLatin1_aae02_3 : decode cJ0_isLatin1_aae02 3 = .ok (.ifCond .eq 14, 3) := by decide +kernel
theorem dJ0_isLatin1_aae02_6 : decode cJ0_isLatin1_aae02 6 = .ok (.aload_n 0, 1) := by decide +kernel
theorem dJ0_isLatin1_aae02_7 : decode cJ0_isLatin1_aae02 7 = .ok (.getfield 15, 3) := by decide +kernel
theorem dJ0_isLatin1_aae02_10 : decode cJ0_isLatin1_aae02 10 = .ok (.ifCond .ne 7, 3) := by decide +kernel
theorem dJ0_isLatin1_aae02_13 : decode cJ0_isLatin1_aae02 13 = .ok (.iconst 1, 1) := by decide +kernel
theorem dJ0_isLatin1_aae02_14 : decode cJ0_isLatin1_aae02 14 = .ok (.goto 4, 3) := by decide +kernel
theorem dJ0_isLatin1_aae02_17 : decode cJ0_isLatin1_aae02 17 = .ok (.iconst 0, 1) := by decide +kernel
theorem dJ0_isLatin1_aae02_18 : decode cJ0_isLatin1_aae02 18 = .ok (.ireturn, 1) := by decide +kernel
theorem dJ0_checkIndex_df160_0 : decode cJ0_checkIndex_df160 0 = .ok (.iload_n 0, 1) := by decide +kernel
theorem dJ0_checkIndex_df160_1 : decode cJ0_checkIndex_df160 1 = .ok (.iload_n 1, 1) := by decide +kernel
theorem dJ0_checkIndex_df160_2 : decode cJ0_checkIndex_df160 2 = .ok (.getstatic 1053, 3) := by decide +kernel
theorem dJ0_checkIndex_df160_5 : decode cJ0_checkIndex_df160 5 = .ok (.invokestatic 1059, 3) := by decide +kernel
theorem dJ0_checkIndex_df160_8 : decode cJ0_checkIndex_df160 8 = .ok (.pop, 1) := by decide +kernel
theorem dJ0_checkIndex_df160_9 : decode cJ0_checkIndex_df160 9 = .ok (.return_, 1) := by decide +kernel
theorem dJ0_checkBoundsOffCount_cabcc_0 : decode cJ0_checkBoundsOffCount_cabcc 0 = .ok (.iload_n 0, 1) := by decide +kernel
theorem dJ0_checkBoundsOffCount_cabcc_1 : decode cJ0_checkBoundsOffCount_cabcc 1 = .ok (.iload_n 1, 1) := by decide +kernel
theorem dJ0_checkBoundsOffCount_cabcc_2 : decode cJ0_checkBoundsOffCount_cabcc 2 = .ok (.iload_n 2, 1) := by decide +kernel
theorem dJ0_checkBoundsOffCount_cabcc_3 : decode cJ0_checkBoundsOffCount_cabcc 3 = .ok (.getstatic 1053, 3) := by decide +kernel
theorem dJ0_checkBoundsOffCount_cabcc_6 : decode cJ0_checkBoundsOffCount_cabcc 6 = .ok (.invokestatic 1065, 3) := by decide +kernel
theorem dJ0_checkBoundsOffCount_cabcc_9 : decode cJ0_checkBoundsOffCount_cabcc 9 = .ok (.ireturn, 1) := by decide +kernel
theorem dJ0_checkBoundsBeginEnd_23922_0 : decode cJ0_checkBoundsBeginEnd_23922 0 = .ok (.iload_n 0, 1) := by decide +kernel
theorem dJ0_checkBoundsBeginEnd_23922_1 : decode cJ0_checkBoundsBeginEnd_23922 1 = .ok (.iload_n 1, 1) := by decide +kernel
theorem dJ0_checkBoundsBeginEnd_23922_2 : decode cJ0_checkBoundsBeginEnd_23922 2 = .ok (.iload_n 2, 1) := by decide +kernel
theorem dJ0_checkBoundsBeginEnd_23922_3 : decode cJ0_checkBoundsBeginEnd_23922 3 = .ok (.getstatic 1053, 3) := by decide +kernel
theorem dJ0_checkBoundsBeginEnd_23922_6 : decode cJ0_checkBoundsBeginEnd_23922 6 = .ok (.invokestatic 1062, 3) := by decide +kernel
theorem dJ0_checkBoundsBeginEnd_23922_9 : decode cJ0_checkBoundsBeginEnd_23922 9 = .ok (.pop, 1) := by decide +kernel
theorem dJ0_checkBoundsBeginEnd_23922_10 : decode cJ0_checkBoundsBeginEnd_23922 10 = .ok (.return_, 1) := by decide +kernel
theorem dJ4_init_da8c8_0 : decode cJ4_init_da8c8 0 = .ok (.aload_n 0, 1) := by decide +kernel
theorem dJ4_init_da8c8_1 : decode cJ4_init_da8c8 1 = .ok (.bipush 16, 2) := by decide +kernel
theorem dJ4_init_da8c8_3 : decode cJ4_init_da8c8 3 = .ok (.invokespecial 1, 3) := by decide +kernel
theorem dJ4_init_da8c8_6 : decode cJ4_init_da8c8 6 = .ok (.return_, 1) := by decide +kernel
theorem dJ4_init_a7421_0 : decode cJ4_init_a7421 0 = .ok (.aload_n 0, 1) := by decide +kernel
theorem dJ4_init_a7421_1 : decode cJ4_init_a7421 1 = .ok (.aload_n 1, 1) := by decide +kernel
theorem dJ4_init_a7421_2 : decode cJ4_init_a7421 2 = .ok (.invokespecial 7, 3) := by decide +kernel
theorem dJ4_init_a7421_5 : decode cJ4_init_a7421 5 = .ok (.return_, 1) := by decide +kernel
theorem dJ4_append_15ec4_0 : decode cJ4_append_15ec4 0 = .ok (.aload_n 0, 1) := by decide +kernel
theorem dJ4_append_15ec4_1 : decode cJ4_append_15ec4 1 = .ok (.aload_n 1, 1) := by decide +kernel
theorem dJ4_append_15ec4_2 : decode cJ4_append_15ec4 2 = .ok (.invokespecial 29, 3) := by decide +kernel
theorem dJ4_append_15ec4_5 : decode cJ4_append_15ec4 5 = .ok (.pop, 1) := by decide +kernel
theorem dJ4_append_15ec4_6 : decode cJ4_append_15ec4 6 = .ok (.aload_n 0, 1) := by decide +kernel
theorem dJ4_append_15ec4_7 : decode cJ4_append_15ec4 7 = .ok (.areturn, 1) := by decide +kernel
theorem dJ4_append_cf468_0 : decode cJ4_append_cf468 0 = .ok (.aload_n 0, 1) := by decide +kernel
theorem dJ4_append_cf468_1 : decode cJ4_append_cf468 1 = .ok (.iload_n 1, 1) := by decide +kernel
theorem dJ4_append_cf468_2 : decode cJ4_append_cf468 2 = .ok (.invokespecial 50, 3) := by decide +kernel
theorem dJ4_append_cf468_5 : decode cJ4_append_cf468 5 = .ok (.pop, 1) := by decide +kernel
theorem dJ4_append_cf468_6 : decode cJ4_append_cf468 6 = .ok (.aload_n 0, 1) := by decide +kernel
theorem dJ4_append_cf468_7 : decode cJ4_append_cf468 7 = .ok (.areturn, 1) := by decide +kernel
theorem dJ4_append_bf812_0 : decode cJ4_append_bf812 0 = .ok (.aload_n 0, 1) := by decide +kernel
theorem dJ4_append_bf812_1 : decode cJ4_append_bf812 1 = .ok (.iload_n 1, 1) := by decide +kernel
theorem dJ4_append_bf812_2 : decode cJ4_append_bf812 2 = .ok (.invokespecial 53, 3) := by decide +kernel
theorem dJ4_append_bf812_5 : decode cJ4_append_bf812 5 = .ok (.pop, 1) := by decide +kernel
theorem dJ4_append_bf812_6 : decode cJ4_append_bf812 6 = .ok (.aload_n 0, 1) := by decide +kernel
theorem dJ4_append_bf812_7 : decode cJ4_append_bf812 7 = .ok (.areturn, 1) := by decide +kernel
theorem dJ4_toString_0e30d_0 : decode cJ4_toString_0e30d 0 = .ok (.new 18, 3) := by decide +kernel
theorem dJ4_toString_0e30d_3 : decode cJ4_toString_0e30d 3 = .ok (.dup, 1) := by decide +kernel
theorem dJ4_toString_0e30d_4 : decode cJ4_toString_0e30d 4 = .ok (.aload_n 0, 1) := by decide +kernel
theorem dJ4_toString_0e30d_5 : decode cJ4_toString_0e30d 5 = .ok (.invokespecial 137, 3) := by decide +kernel
theorem dJ4_toString_0e30d_8 : decode cJ4_toString_0e30d 8 = .ok (.areturn, 1) := by decide +kernel
theorem dJ4_append_cf1ce_0 : decode cJ4_append_cf1ce 0 = .ok (.aload_n 0, 1) := by decide +kernel
theorem dJ4_append_cf1ce_1 : decode cJ4_append_cf1ce 1 = .ok (.aload_n 1, 1) := by decide +kernel
theorem dJ4_append_cf1ce_2 : decode cJ4_append_cf1ce 2 = .ok (.invokevirtual 23, 3) := by decide +kernel
theorem dJ4_append_cf1ce_5 : decode cJ4_append_cf1ce 5 = .ok (.areturn, 1) := by decide +kernel
theorem dJ4_length_8abf5_0 : decode cJ4_length_8abf5 0 = .ok (.aload_n 0, 1) := by decide +kernel
theorem dJ4_length_8abf5_1 : decode cJ4_length_8abf5 1 = .ok (.invokespecial 343, 3) := by decide +kernel
theorem dJ4_length_8abf5_4 : decode cJ4_length_8abf5 4 = .ok (.ireturn, 1) := by decide +kernel
theorem dJ1_charAt_3b067_0 : decode cJ1_charAt_3b067 0 = .ok (.iload_n 1, 1) := by decide +kernel
theorem dJ1_charAt_3b067_1 : decode cJ1_charAt_3b067 1 = .ok (.aload_n 0, 1) := by decide +kernel
theorem dJ1_charAt_3b067_2 : decode cJ1_charAt_3b067 2 = .ok (.arraylength, 1) := by decide +kernel
theorem dJ1_charAt_3b067_3 : decode cJ1_charAt_3b067 3 = .ok (.invokestatic 9, 3) := by decide +kernel
theorem dJ1_charAt_3b067_6 : decode cJ1_charAt_3b067 6 = .ok (.aload_n 0, 1) := by decide +kernel
theorem dJ1_charAt_3b067_7 : decode cJ1_charAt_3b067 7 = .ok (.iload_n 1, 1) := by decide +kernel
theorem dJ1_charAt_3b067_8 : decode cJ1_charAt_3b067 8 = .ok (.baload, 1) := by decide +kernel
theorem dJ1_charAt_3b067_9 : decode cJ1_charAt_3b067 9 = .ok (.sipush 255, 3) := by decide +kernel
theorem dJ1_charAt_3b067_12 : decode cJ1_charAt_3b067 12 = .ok (.iand, 1) := by decide +kernel
theorem dJ1_charAt_3b067_13 : decode cJ1_charAt_3b067 13 = .ok (.i2c, 1) := by decide +kernel
theorem dJ1_charAt_3b067_14 : decode cJ1_charAt_3b067 14 = .ok (.ireturn, 1) := by decide +kernel
theorem dJ1_canEncode_fc78d_0 : decode cJ1_canEncode_fc78d 0 = .ok (.iload_n 0, 1) := by decide +kernel
theorem dJ1_canEncode_fc78d_1 : decode cJ1_canEncode_fc78d 1 = .ok (.sipush 255, 3) := by decide +kernel
theorem dJ1_canEncode_fc78d_4 : decode cJ1_canEncode_fc78d 4 = .ok (.if_icmp .gt 7, 3) := by decide +kernel
theorem dJ1_canEncode_fc78d_7 : decode cJ1_canEncode_fc78d 7 = .ok (.iconst 1, 1) := by decide +kernel
theorem dJ1_canEncode_fc78d_8 : decode cJ1_canEncode_fc78d 8 = .ok (.goto 4, 3) := by decide +kernel
theorem dJ1_canEncode_fc78d_11 : decode cJ1_canEncode_fc78d 11 = .ok (.iconst 0, 1) := by decide +kernel
theorem dJ1_canEncode_fc78d_12 : decode cJ1_canEncode_fc78d 12 = .ok (.ireturn, 1) := by decide +kernel
theorem dJ1_inflate_0e8fd_0 : decode cJ1_inflate_0e8fd 0 = .ok (.aload_n 0, 1) := by decide +kernel
theorem dJ1_inflate_0e8fd_1 : decode cJ1_inflate_0e8fd 1 = .ok (.iload_n 1, 1) := by decide +kernel
theorem dJ1_inflate_0e8fd_2 : decode cJ1_inflate_0e8fd 2 = .ok (.aload_n 2, 1) := by decide +kernel
theorem dJ1_inflate_0e8fd_3 : decode cJ1_inflate_0e8fd 3 = .ok (.iload_n 3, 1) := by decide +kernel
theorem dJ1_inflate_0e8fd_4 : decode cJ1_inflate_0e8fd 4 = .ok (.iload 4, 2) := by decide +kernel
theorem dJ1_inflate_0e8fd_6 : decode cJ1_inflate_0e8fd 6 = .ok (.invokestatic 240, 3) := by decide +kernel
theorem dJ1_inflate_0e8fd_9 : decode cJ1_inflate_0e8fd 9 = .ok (.return_, 1) := by decide +kernel
theorem dJ2_newBytesFor_77867_0 : decode cJ2_newBytesFor_77867 0 = .ok (.iload_n 0, 1) := by decide +kernel
theorem dJ2_newBytesFor_77867_1 : decode cJ2_newBytesFor_77867 1 = .ok (.invokestatic 11, 3) := by decide +kernel
theorem dJ2_newBytesFor_77867_4 : decode cJ2_newBytesFor_77867 4 = .ok (.newarray .byte, 2) := by decide +kernel
theorem dJ2_newBytesFor_77867_6 : decode cJ2_newBytesFor_77867 6 = .ok (.areturn, 1) := by decide +kernel
theorem dJ2_newBytesLength_0f7a4_0 : decode cJ2_newBytesLength_0f7a4 0 = .ok (.iload_n 0, 1) := by decide +kernel
theorem dJ2_newBytesLength_0f7a4_1 : decode cJ2_newBytesLength_0f7a4 1 = .ok (.ifCond .ge 11, 3) := by decide +kernel
theorem dJ2_newBytesLength_0f7a4_4 : decode cJ2_newBytesLength_0f7a4 4 = .ok (.new 17, 3) := by decide +kernel
theorem dJ2_newBytesLength_0f7a4_7 : decode cJ2_newBytesLength_0f7a4 7 = .ok (.dup, 1) := by decide +kernel
theorem dJ2_newBytesLength_0f7a4_8 : decode cJ2_newBytesLength_0f7a4 8 = .ok (.invokespecial 19, 3) := by decide +kernel
theorem dJ2_newBytesLength_0f7a4_11 : decode cJ2_newBytesLength_0f7a4 11 = .ok (.athrow, 1) := by decide +kernel
theorem dJ2_newBytesLength_0f7a4_12 : decode cJ2_newBytesLength_0f7a4 12 = .ok (.iload_n 0, 1) := by decide +kernel
theorem dJ2_newBytesLength_0f7a4_13 : decode cJ2_newBytesLength_0f7a4 13 = .ok (.ldc 20, 2) := by decide +kernel
theorem dJ2_newBytesLength_0f7a4_15 : decode cJ2_newBytesLength_0f7a4 15 = .ok (.if_icmp .lt 40, 3) := by decide +kernel
theorem dJ2_newBytesLength_0f7a4_18 : decode cJ2_newBytesLength_0f7a4 18 = .ok (.new 21, 3) := by decide +kernel
theorem dJ2_newBytesLength_0f7a4_21 : decode cJ2_newBytesLength_0f7a4 21 = .ok (.dup, 1) := by decide +kernel
theorem dJ2_newBytesLength_0f7a4_22 : decode cJ2_newBytesLength_0f7a4 22 = .ok (.new 23, 3) := by decide +kernel
theorem dJ2_newBytesLength_0f7a4_25 : decode cJ2_newBytesLength_0f7a4 25 = .ok (.dup, 1) := by decide +kernel
theorem dJ2_newBytesLength_0f7a4_26 : decode cJ2_newBytesLength_0f7a4 26 = .ok (.invokespecial 25, 3) := by decide +kernel
theorem dJ2_newBytesLength_0f7a4_29 : decode cJ2_newBytesLength_0f7a4 29 = .ok (.ldc 26, 2) := by decide +kernel
theorem dJ2_newBytesLength_0f7a4_31 : decode cJ2_newBytesLength_0f7a4 31 = .ok (.invokevirtual 28, 3) := by decide +kernel
theorem dJ2_newBytesLength_0f7a4_34 : decode cJ2_newBytesLength_0f7a4 34 = .ok (.iload_n 0, 1) := by decide +kernel
theorem dJ2_newBytesLength_0f7a4_35 : decode cJ2_newBytesLength_0f7a4 35 = .ok (.invokevirtual 32, 3) := by decide +kernel
theorem dJ2_newBytesLength_0f7a4_38 : decode cJ2_newBytesLength_0f7a4 38 = .ok (.ldc 35, 2) := by decide +kernel
theorem dJ2_newBytesLength_0f7a4_40 : decode cJ2_newBytesLength_0f7a4 40 = .ok (.invokevirtual 28, 3) := by decide +kernel
theorem dJ2_newBytesLength_0f7a4_43 : decode cJ2_newBytesLength_0f7a4 43 = .ok (.ldc 20, 2) := by decide +kernel
theorem dJ2_newBytesLength_0f7a4_45 : decode cJ2_newBytesLength_0f7a4 45 = .ok (.invokevirtual 32, 3) := by decide +kernel
theorem dJ2_newBytesLength_0f7a4_48 : decode cJ2_newBytesLength_0f7a4 48 = .ok (.invokevirtual 37, 3) := by decide +kernel
theorem dJ2_newBytesLength_0f7a4_51 : decode cJ2_newBytesLength_0f7a4 51 = .ok (.invokespecial 41, 3) := by decide +kernel
theorem dJ2_newBytesLength_0f7a4_54 : decode cJ2_newBytesLength_0f7a4 54 = .ok (.athrow, 1) := by decide +kernel
theorem dJ2_newBytesLength_0f7a4_55 : decode cJ2_newBytesLength_0f7a4 55 = .ok (.iload_n 0, 1) := by decide +kernel
theorem dJ2_newBytesLength_0f7a4_56 : decode cJ2_newBytesLength_0f7a4 56 = .ok (.iconst 1, 1) := by decide +kernel
theorem dJ2_newBytesLength_0f7a4_57 : decode cJ2_newBytesLength_0f7a4 57 = .ok (.ishl, 1) := by decide +kernel
theorem dJ2_newBytesLength_0f7a4_58 : decode cJ2_newBytesLength_0f7a4 58 = .ok (.ireturn, 1) := by decide +kernel
theorem dJ2_putChar_b72d1_0 : decode cJ2_putChar_b72d1 0 = .ok (.getstatic 44, 3) := by decide +kernel
theorem dJ2_putChar_b72d1_3 : decode cJ2_putChar_b72d1 3 = .ok (.ifCond .ne 25, 3) := by decide +kernel
theorem dJ2_putChar_b72d1_6 : decode cJ2_putChar_b72d1 6 = .ok (.iload_n 1, 1) := by decide +kernel
theorem dJ2_putChar_b72d1_7 : decode cJ2_putChar_b72d1 7 = .ok (.ifCond .lt 11, 3) := by decide +kernel
theorem dJ2_putChar_b72d1_10 : decode cJ2_putChar_b72d1 10 = .ok (.iload_n 1, 1) := by decide +kernel
theorem dJ2_putChar_b72d1_11 : decode cJ2_putChar_b72d1 11 = .ok (.aload_n 0, 1) := by decide +kernel
theorem dJ2_putChar_b72d1_12 : decode cJ2_putChar_b72d1 12 = .ok (.invokestatic 48, 3) := by decide +kernel
theorem dJ2_putChar_b72d1_15 : decode cJ2_putChar_b72d1 15 = .ok (.if_icmp .lt 13, 3) := by decide +kernel
theorem dJ2_putChar_b72d1_18 : decode cJ2_putChar_b72d1 18 = .ok (.new 52, 3) := by decide +kernel
theorem dJ2_putChar_b72d1_21 : decode cJ2_putChar_b72d1 21 = .ok (.dup, 1) := by decide +kernel
theorem dJ2_putChar_b72d1_22 : decode cJ2_putChar_b72d1 22 = .ok (.ldc 54, 2) := by decide +kernel
theorem dJ2_putChar_b72d1_24 : decode cJ2_putChar_b72d1 24 = .ok (.invokespecial 56, 3) := by decide +kernel
theorem dJ2_putChar_b72d1_27 : decode cJ2_putChar_b72d1 27 = .ok (.athrow, 1) := by decide +kernel
theorem dJ2_putChar_b72d1_28 : decode cJ2_putChar_b72d1 28 = .ok (.iload_n 1, 1) := by decide +kernel
theorem dJ2_putChar_b72d1_29 : decode cJ2_putChar_b72d1 29 = .ok (.iconst 1, 1) := by decide +kernel
theorem dJ2_putChar_b72d1_30 : decode cJ2_putChar_b72d1 30 = .ok (.ishl, 1) := by decide +kernel
theorem dJ2_putChar_b72d1_31 : decode cJ2_putChar_b72d1 31 = .ok (.istore_n 1, 1) := by decide +kernel
theorem dJ2_putChar_b72d1_32 : decode cJ2_putChar_b72d1 32 = .ok (.aload_n 0, 1) := by decide +kernel
theorem dJ2_putChar_b72d1_33 : decode cJ2_putChar_b72d1 33 = .ok (.iload_n 1, 1) := by decide +kernel
theorem dJ2_putChar_b72d1_34 : decode cJ2_putChar_b72d1 34 = .ok (.iinc 1 1, 3) := by decide +kernel
theorem dJ2_putChar_b72d1_37 : decode cJ2_putChar_b72d1 37 = .ok (.iload_n 2, 1) := by decide +kernel
theorem dJ2_putChar_b72d1_38 : decode cJ2_putChar_b72d1 38 = .ok (.getstatic 59, 3) := by decide +kernel
theorem dJ2_putChar_b72d1_41 : decode cJ2_putChar_b72d1 41 = .ok (.ishr, 1) := by decide +kernel
theorem dJ2_putChar_b72d1_42 : decode cJ2_putChar_b72d1 42 = .ok (.i2b, 1) := by decide +kernel
theorem dJ2_putChar_b72d1_43 : decode cJ2_putChar_b72d1 43 = .ok (.bastore, 1) := by decide +kernel
theorem dJ2_putChar_b72d1_44 : decode cJ2_putChar_b72d1 44 = .ok (.aload_n 0, 1) := by decide +kernel
theorem dJ2_putChar_b72d1_45 : decode cJ2_putChar_b72d1 45 = .ok (.iload_n 1, 1) := by decide +kernel
theorem dJ2_putChar_b72d1_46 : decode cJ2_putChar_b72d1 46 = .ok (.iload_n 2, 1) := by decide +kernel
theorem dJ2_putChar_b72d1_47 : decode cJ2_putChar_b72d1 47 = .ok (.getstatic 63, 3) := by decide +kernel
theorem dJ2_putChar_b72d1_50 : decode cJ2_putChar_b72d1 50 = .ok (.ishr, 1) := by decide +kernel
theorem dJ2_putChar_b72d1_51 : decode cJ2_putChar_b72d1 51 = .ok (.i2b, 1) := by decide +kernel
theorem dJ2_putChar_b72d1_52 : decode cJ2_putChar_b72d1 52 = .ok (.bastore, 1) := by decide +kernel
theorem dJ2_putChar_b72d1_53 : decode cJ2_putChar_b72d1 53 = .ok (.return_, 1) := by decide +kernel
theorem dJ2_getChar_3b067_0 : decode cJ2_getChar_3b067 0 = .ok (.getstatic 44, 3) := by decide +kernel
theorem dJ2_getChar_3b067_3 : decode cJ2_getChar_3b067 3 = .ok (.ifCond .ne 25, 3) := by decide +kernel
theorem dJ2_getChar_3b067_6 : decode cJ2_getChar_3b067 6 = .ok (.iload_n 1, 1) := by decide +kernel
theorem dJ2_getChar_3b067_7 : decode cJ2_getChar_3b067 7 = .ok (.ifCond .lt 11, 3) := by decide +kernel
theorem dJ2_getChar_3b067_10 : decode cJ2_getChar_3b067 10 = .ok (.iload_n 1, 1) := by decide +kernel
theorem dJ2_getChar_3b067_11 : decode cJ2_getChar_3b067 11 = .ok (.aload_n 0, 1) := by decide +kernel
theorem dJ2_getChar_3b067_12 : decode cJ2_getChar_3b067 12 = .ok (.invokestatic 48, 3) := by decide +kernel
theorem dJ2_getChar_3b067_15 : decode cJ2_getChar_3b067 15 = .ok (.if_icmp .lt 13, 3) := by decide +kernel
theorem dJ2_getChar_3b067_18 : decode cJ2_getChar_3b067 18 = .ok (.new 52, 3) := by decide +kernel
theorem dJ2_getChar_3b067_21 : decode cJ2_getChar_3b067 21 = .ok (.dup, 1) := by decide +kernel
theorem dJ2_getChar_3b067_22 : decode cJ2_getChar_3b067 22 = .ok (.ldc 54, 2) := by decide +kernel
theorem dJ2_getChar_3b067_24 : decode cJ2_getChar_3b067 24 = .ok (.invokespecial 56, 3) := by decide +kernel
theorem dJ2_getChar_3b067_27 : decode cJ2_getChar_3b067 27 = .ok (.athrow, 1) := by decide +kernel
theorem dJ2_getChar_3b067_28 : decode cJ2_getChar_3b067 28 = .ok (.iload_n 1, 1) := by decide +kernel
theorem dJ2_getChar_3b067_29 : decode cJ2_getChar_3b067 29 = .ok (.iconst 1, 1) := by decide +kernel
theorem dJ2_getChar_3b067_30 : decode cJ2_getChar_3b067 30 = .ok (.ishl, 1) := by decide +kernel
theorem dJ2_getChar_3b067_31 : decode cJ2_getChar_3b067 31 = .ok (.istore_n 1, 1) := by decide +kernel
theorem dJ2_getChar_3b067_32 : decode cJ2_getChar_3b067 32 = .ok (.aload_n 0, 1) := by decide +kernel
theorem dJ2_getChar_3b067_33 : decode cJ2_getChar_3b067 33 = .ok (.iload_n 1, 1) := by decide +kernel
theorem dJ2_getChar_3b067_34 : decode cJ2_getChar_3b067 34 = .ok (.iinc 1 1, 3) := by decide +kernel
theorem dJ2_getChar_3b067_37 : decode cJ2_getChar_3b067 37 = .ok (.baload, 1) := by decide +kernel
theorem dJ2_getChar_3b067_38 : decode cJ2_getChar_3b067 38 = .ok (.sipush 255, 3) := by decide +kernel
theorem dJ2_getChar_3b067_41 : decode cJ2_getChar_3b067 41 = .ok (.iand, 1) := by decide +kernel
theorem dJ2_getChar_3b067_42 : decode cJ2_getChar_3b067 42 = .ok (.getstatic 59, 3) := by decide +kernel
theorem dJ2_getChar_3b067_45 : decode cJ2_getChar_3b067 45 = .ok (.ishl, 1) := by decide +kernel
theorem dJ2_getChar_3b067_46 : decode cJ2_getChar_3b067 46 = .ok (.aload_n 0, 1) := by decide +kernel
theorem dJ2_getChar_3b067_47 : decode cJ2_getChar_3b067 47 = .ok (.iload_n 1, 1) := by decide +kernel
theorem dJ2_getChar_3b067_48 : decode cJ2_getChar_3b067 48 = .ok (.baload, 1) := by decide +kernel
theorem dJ2_getChar_3b067_49 : decode cJ2_getChar_3b067 49 = .ok (.sipush 255, 3) := by decide +kernel
theorem dJ2_getChar_3b067_52 : decode cJ2_getChar_3b067 52 = .ok (.iand, 1) := by decide +kernel
theorem dJ2_getChar_3b067_53 : decode cJ2_getChar_3b067 53 = .ok (.getstatic 63, 3) := by decide +kernel
theorem dJ2_getChar_3b067_56 : decode cJ2_getChar_3b067 56 = .ok (.ishl, 1) := by decide +kernel
theorem dJ2_getChar_3b067_57 : decode cJ2_getChar_3b067 57 = .ok (.ior, 1) := by decide +kernel
theorem dJ2_getChar_3b067_58 : decode cJ2_getChar_3b067 58 = .ok (.i2c, 1) := by decide +kernel
theorem dJ2_getChar_3b067_59 : decode cJ2_getChar_3b067 59 = .ok (.ireturn, 1) := by decide +kernel
theorem dJ2_length_9d52b_0 : decode cJ2_length_9d52b 0 = .ok (.aload_n 0, 1) := by decide +kernel
theorem dJ2_length_9d52b_1 : decode cJ2_length_9d52b 1 = .ok (.arraylength, 1) := by decide +kernel
theorem dJ2_length_9d52b_2 : decode cJ2_length_9d52b 2 = .ok (.iconst 1, 1) := by decide +kernel
theorem dJ2_length_9d52b_3 : decode cJ2_length_9d52b 3 = .ok (.ishr, 1) := by decide +kernel
theorem dJ2_length_9d52b_4 : decode cJ2_length_9d52b 4 = .ok (.ireturn, 1) := by decide +kernel
theorem dJ2_coderFromArrayLen_85cad_0 : decode cJ2_coderFromArrayLen_85cad 0 = .ok (.iload_n 1, 1) := by decide +kernel
theorem dJ2_coderFromArrayLen_85cad_1 : decode cJ2_coderFromArrayLen_85cad 1 = .ok (.aload_n 0, 1) := by decide +kernel
theorem dJ2_coderFromArrayLen_85cad_2 : decode cJ2_coderFromArrayLen_85cad 2 = .ok (.arraylength, 1) := by decide +kernel
theorem dJ2_coderFromArrayLen_85cad_3 : decode cJ2_coderFromArrayLen_85cad 3 = .ok (.isub, 1) := by decide +kernel
theorem dJ2_coderFromArrayLen_85cad_4 : decode cJ2_coderFromArrayLen_85cad 4 = .ok (.bipush 31, 2) := by decide +kernel
theorem dJ2_coderFromArrayLen_85cad_6 : decode cJ2_coderFromArrayLen_85cad 6 = .ok (.iushr, 1) := by decide +kernel
theorem dJ2_coderFromArrayLen_85cad_7 : decode cJ2_coderFromArrayLen_85cad 7 = .ok (.i2b, 1) := by decide +kernel
theorem dJ2_coderFromArrayLen_85cad_8 : decode cJ2_coderFromArrayLen_85cad 8 = .ok (.ireturn, 1) := by decide +kernel
theorem dJ2_compress_39247_0 : decode cJ2_compress_39247 0 = .ok (.iload_n 2, 1) := by decide +kernel
theorem dJ2_compress_39247_1 : decode cJ2_compress_39247 1 = .ok (.newarray .byte, 2) := by decide +kernel
theorem dJ2_compress_39247_3 : decode cJ2_compress_39247 3 = .ok (.astore_n 3, 1) := by decide +kernel
theorem dJ2_compress_39247_4 : decode cJ2_compress_39247 4 = .ok (.aload_n 0, 1) := by decide +kernel
theorem dJ2_compress_39247_5 : decode cJ2_compress_39247 5 = .ok (.iload_n 1, 1) := by decide +kernel
theorem dJ2_compress_39247_6 : decode cJ2_compress_39247 6 = .ok (.aload_n 3, 1) := by decide +kernel
theorem dJ2_compress_39247_7 : decode cJ2_compress_39247 7 = .ok (.iconst 0, 1) := by decide +kernel
theorem dJ2_compress_39247_8 : decode cJ2_compress_39247 8 = .ok (.iload_n 2, 1) := by decide +kernel
theorem dJ2_compress_39247_9 : decode cJ2_compress_39247 9 = .ok (.invokestatic 123, 3) := by decide +kernel
theorem dJ2_compress_39247_12 : decode cJ2_compress_39247 12 = .ok (.istore 4, 2) := by decide +kernel
theorem dJ2_compress_39247_14 : decode cJ2_compress_39247 14 = .ok (.iload 4, 2) := by decide +kernel
theorem dJ2_compress_39247_16 : decode cJ2_compress_39247 16 = .ok (.iload_n 2, 1) := by decide +kernel
theorem dJ2_compress_39247_17 : decode cJ2_compress_39247 17 = .ok (.if_icmp .eq 47, 3) := by decide +kernel
theorem dJ2_compress_39247_20 : decode cJ2_compress_39247 20 = .ok (.aload_n 0, 1) := by decide +kernel
theorem dJ2_compress_39247_21 : decode cJ2_compress_39247 21 = .ok (.iload_n 1, 1) := by decide +kernel
theorem dJ2_compress_39247_22 : decode cJ2_compress_39247 22 = .ok (.iconst 1, 1) := by decide +kernel
theorem dJ2_compress_39247_23 : decode cJ2_compress_39247 23 = .ok (.ishl, 1) := by decide +kernel
theorem dJ2_compress_39247_24 : decode cJ2_compress_39247 24 = .ok (.iload_n 1, 1) := by decide +kernel
theorem dJ2_compress_39247_25 : decode cJ2_compress_39247 25 = .ok (.iload_n 2, 1) := by decide +kernel
theorem dJ2_compress_39247_26 : decode cJ2_compress_39247 26 = .ok (.iadd, 1) := by decide +kernel
theorem dJ2_compress_39247_27 : decode cJ2_compress_39247 27 = .ok (.invokestatic 11, 3) := by decide +kernel
theorem dJ2_compress_39247_30 : decode cJ2_compress_39247 30 = .ok (.invokestatic 126, 3) := by decide +kernel
theorem dJ2_compress_39247_33 : decode cJ2_compress_39247 33 = .ok (.astore 5, 2) := by decide +kernel
theorem dJ2_compress_39247_35 : decode cJ2_compress_39247 35 = .ok (.aload 5, 2) := by decide +kernel
theorem dJ2_compress_39247_37 : decode cJ2_compress_39247 37 = .ok (.iload 4, 2) := by decide +kernel
theorem dJ2_compress_39247_39 : decode cJ2_compress_39247 39 = .ok (.invokestatic 71, 3) := by decide +kernel
theorem dJ2_compress_39247_42 : decode cJ2_compress_39247 42 = .ok (.sipush 255, 3) := by decide +kernel
theorem dJ2_compress_39247_45 : decode cJ2_compress_39247 45 = .ok (.if_icmp .gt 16, 3) := by decide +kernel
theorem dJ2_compress_39247_48 : decode cJ2_compress_39247 48 = .ok (.aload 5, 2) := by decide +kernel
theorem dJ2_compress_39247_50 : decode cJ2_compress_39247 50 = .ok (.iconst 0, 1) := by decide +kernel
theorem dJ2_compress_39247_51 : decode cJ2_compress_39247 51 = .ok (.aload_n 3, 1) := by decide +kernel
theorem dJ2_compress_39247_52 : decode cJ2_compress_39247 52 = .ok (.iconst 0, 1) := by decide +kernel
theorem dJ2_compress_39247_53 : decode cJ2_compress_39247 53 = .ok (.iload_n 2, 1) := by decide +kernel
theorem dJ2_compress_39247_54 : decode cJ2_compress_39247 54 = .ok (.invokestatic 123, 3) := by decide +kernel
theorem dJ2_compress_39247_57 : decode cJ2_compress_39247 57 = .ok (.iload_n 2, 1) := by decide +kernel
theorem dJ2_compress_39247_58 : decode cJ2_compress_39247 58 = .ok (.if_icmp .eq 6, 3) := by decide +kernel
theorem dJ2_compress_39247_61 : decode cJ2_compress_39247 61 = .ok (.aload 5, 2) := by decide +kernel
theorem dJ2_compress_39247_63 : decode cJ2_compress_39247 63 = .ok (.areturn, 1) := by decide +kernel
theorem dJ2_compress_39247_64 : decode cJ2_compress_39247 64 = .ok (.aload_n 3, 1) := by decide +kernel
theorem dJ2_compress_39247_65 : decode cJ2_compress_39247 65 = .ok (.areturn, 1) := by decide +kernel
theorem dJ2_compress_5af95_0 : decode cJ2_compress_5af95 0 = .ok (.iload_n 1, 1) := by decide +kernel
theorem dJ2_compress_5af95_1 : decode cJ2_compress_5af95 1 = .ok (.iload 4, 2) := by decide +kernel
theorem dJ2_compress_5af95_3 : decode cJ2_compress_5af95 3 = .ok (.aload_n 0, 1) := by decide +kernel
theorem dJ2_compress_5af95_4 : decode cJ2_compress_5af95 4 = .ok (.invokestatic 173, 3) := by decide +kernel
theorem dJ2_compress_5af95_7 : decode cJ2_compress_5af95 7 = .ok (.iconst 0, 1) := by decide +kernel
theorem dJ2_compress_5af95_8 : decode cJ2_compress_5af95 8 = .ok (.istore 5, 2) := by decide +kernel
theorem dJ2_compress_5af95_10 : decode cJ2_compress_5af95 10 = .ok (.iload 5, 2) := by decide +kernel
theorem dJ2_compress_5af95_12 : decode cJ2_compress_5af95 12 = .ok (.iload 4, 2) := by decide +kernel
theorem dJ2_compress_5af95_14 : decode cJ2_compress_5af95 14 = .ok (.if_icmp .ge 39, 3) := by decide +kernel
theorem dJ2_compress_5af95_17 : decode cJ2_compress_5af95 17 = .ok (.aload_n 0, 1) := by decide +kernel
theorem dJ2_compress_5af95_18 : decode cJ2_compress_5af95 18 = .ok (.iload_n 1, 1) := by decide +kernel
theorem dJ2_compress_5af95_19 : decode cJ2_compress_5af95 19 = .ok (.invokestatic 71, 3) := by decide +kernel
theorem dJ2_compress_5af95_22 : decode cJ2_compress_5af95 22 = .ok (.istore 6, 2) := by decide +kernel
theorem dJ2_compress_5af95_24 : decode cJ2_compress_5af95 24 = .ok (.iload 6, 2) := by decide +kernel
theorem dJ2_compress_5af95_26 : decode cJ2_compress_5af95 26 = .ok (.sipush 255, 3) := by decide +kernel
theorem dJ2_compress_5af95_29 : decode cJ2_compress_5af95 29 = .ok (.if_icmp .le 6, 3) := by decide +kernel
theorem dJ2_compress_5af95_32 : decode cJ2_compress_5af95 32 = .ok (.iload 5, 2) := by decide +kernel
theorem dJ2_compress_5af95_34 : decode cJ2_compress_5af95 34 = .ok (.ireturn, 1) := by decide +kernel
theorem dJ2_compress_5af95_35 : decode cJ2_compress_5af95 35 = .ok (.aload_n 2, 1) := by decide +kernel
theorem dJ2_compress_5af95_36 : decode cJ2_compress_5af95 36 = .ok (.iload_n 3, 1) := by decide +kernel
theorem dJ2_compress_5af95_37 : decode cJ2_compress_5af95 37 = .ok (.iload 6, 2) := by decide +kernel
theorem dJ2_compress_5af95_39 : decode cJ2_compress_5af95 39 = .ok (.i2b, 1) := by decide +kernel
theorem dJ2_compress_5af95_40 : decode cJ2_compress_5af95 40 = .ok (.bastore, 1) := by decide +kernel
theorem dJ2_compress_5af95_41 : decode cJ2_compress_5af95 41 = .ok (.iinc 1 1, 3) := by decide +kernel
theorem dJ2_compress_5af95_44 : decode cJ2_compress_5af95 44 = .ok (.iinc 3 1, 3) := by decide +kernel
theorem dJ2_compress_5af95_47 : decode cJ2_compress_5af95 47 = .ok (.iinc 5 1, 3) := by decide +kernel
theorem dJ2_compress_5af95_50 : decode cJ2_compress_5af95 50 = .ok (.goto (-40), 3) := by decide +kernel
theorem dJ2_compress_5af95_53 : decode cJ2_compress_5af95 53 = .ok (.iload 4, 2) := by decide +kernel
theorem dJ2_compress_5af95_55 : decode cJ2_compress_5af95 55 = .ok (.ireturn, 1) := by decide +kernel
theorem dJ2_putCharSB_b72d1_0 : decode cJ2_putCharSB_b72d1 0 = .ok (.iload_n 1, 1) := by decide +kernel
theorem dJ2_putCharSB_b72d1_1 : decode cJ2_putCharSB_b72d1 1 = .ok (.aload_n 0, 1) := by decide +kernel
theorem dJ2_putCharSB_b72d1_2 : decode cJ2_putCharSB_b72d1 2 = .ok (.invokestatic 67, 3) := by decide +kernel
theorem dJ2_putCharSB_b72d1_5 : decode cJ2_putCharSB_b72d1 5 = .ok (.aload_n 0, 1) := by decide +kernel
theorem dJ2_putCharSB_b72d1_6 : decode cJ2_putCharSB_b72d1 6 = .ok (.iload_n 1, 1) := by decide +kernel
theorem dJ2_putCharSB_b72d1_7 : decode cJ2_putCharSB_b72d1 7 = .ok (.iload_n 2, 1) := by decide +kernel
theorem dJ2_putCharSB_b72d1_8 : decode cJ2_putCharSB_b72d1 8 = .ok (.invokestatic 111, 3) := by decide +kernel
theorem dJ2_putCharSB_b72d1_11 : decode cJ2_putCharSB_b72d1 11 = .ok (.return_, 1) := by decide +kernel
theorem dJ2_getChars_46870_0 : decode cJ2_getChars_46870 0 = .ok (.iload_n 1, 1) := by decide +kernel
theorem dJ2_getChars_46870_1 : decode cJ2_getChars_46870 1 = .ok (.iload_n 2, 1) := by decide +kernel
theorem dJ2_getChars_46870_2 : decode cJ2_getChars_46870 2 = .ok (.aload_n 3, 1) := by decide +kernel
theorem dJ2_getChars_46870_3 : decode cJ2_getChars_46870 3 = .ok (.invokestatic 96, 3) := by decide +kernel
theorem dJ2_getChars_46870_6 : decode cJ2_getChars_46870 6 = .ok (.iload_n 0, 1) := by decide +kernel
theorem dJ2_getChars_46870_7 : decode cJ2_getChars_46870 7 = .ok (.iload_n 2, 1) := by decide +kernel
theorem dJ2_getChars_46870_8 : decode cJ2_getChars_46870 8 = .ok (.aload_n 3, 1) := by decide +kernel
theorem dJ2_getChars_46870_9 : decode cJ2_getChars_46870 9 = .ok (.invokestatic 393, 3) := by decide +kernel
theorem dJ2_getChars_46870_12 : decode cJ2_getChars_46870 12 = .ok (.istore 4, 2) := by decide +kernel
theorem dJ2_getChars_46870_14 : decode cJ2_getChars_46870 14 = .ok (.getstatic 44, 3) := by decide +kernel
theorem dJ2_getChars_46870_17 : decode cJ2_getChars_46870 17 = .ok (.ifCond .ne 17, 3) := by decide +kernel
theorem dJ2_getChars_46870_20 : decode cJ2_getChars_46870 20 = .ok (.iload_n 1, 1) := by decide +kernel
theorem dJ2_getChars_46870_21 : decode cJ2_getChars_46870 21 = .ok (.iload 4, 2) := by decide +kernel
theorem dJ2_getChars_46870_23 : decode cJ2_getChars_46870 23 = .ok (.if_icmp .eq 11, 3) := by decide +kernel
theorem dJ2_getChars_46870_26 : decode cJ2_getChars_46870 26 = .ok (.new 52, 3) := by decide +kernel
theorem dJ2_getChars_46870_29 : decode cJ2_getChars_46870 29 = .ok (.dup, 1) := by decide +kernel
theorem dJ2_getChars_46870_30 : decode cJ2_getChars_46870 30 = .ok (.invokespecial 66, 3) := by decide +kernel
theorem dJ2_getChars_46870_33 : decode cJ2_getChars_46870 33 = .ok (.athrow, 1) := by decide +kernel
theorem dJ2_getChars_46870_34 : decode cJ2_getChars_46870 34 = .ok (.iload 4, 2) := by decide +kernel
theorem dJ2_getChars_46870_36 : decode cJ2_getChars_46870 36 = .ok (.ireturn, 1) := by decide +kernel
theorem dJ2_putCharsAt_cd4e5_0 : decode cJ2_putCharsAt_cd4e5 0 = .ok (.iload_n 1, 1) := by decide +kernel
theorem dJ2_putCharsAt_cd4e5_1 : decode cJ2_putCharsAt_cd4e5 1 = .ok (.iconst 4, 1) := by decide +kernel
theorem dJ2_putCharsAt_cd4e5_2 : decode cJ2_putCharsAt_cd4e5 2 = .ok (.iadd, 1) := by decide +kernel
theorem dJ2_putCharsAt_cd4e5_3 : decode cJ2_putCharsAt_cd4e5 3 = .ok (.istore 6, 2) := by decide +kernel
theorem dJ2_putCharsAt_cd4e5_5 : decode cJ2_putCharsAt_cd4e5 5 = .ok (.iload_n 1, 1) := by decide +kernel
theorem dJ2_putCharsAt_cd4e5_6 : decode cJ2_putCharsAt_cd4e5 6 = .ok (.iload 6, 2) := by decide +kernel
theorem dJ2_putCharsAt_cd4e5_8 : decode cJ2_putCharsAt_cd4e5 8 = .ok (.aload_n 0, 1) := by decide +kernel
theorem dJ2_putCharsAt_cd4e5_9 : decode cJ2_putCharsAt_cd4e5 9 = .ok (.invokestatic 96, 3) := by decide +kernel
theorem dJ2_putCharsAt_cd4e5_12 : decode cJ2_putCharsAt_cd4e5 12 = .ok (.aload_n 0, 1) := by decide +kernel
theorem dJ2_putCharsAt_cd4e5_13 : decode cJ2_putCharsAt_cd4e5 13 = .ok (.iload_n 1, 1) := by decide +kernel
theorem dJ2_putCharsAt_cd4e5_14 : decode cJ2_putCharsAt_cd4e5 14 = .ok (.iinc 1 1, 3) := by decide +kernel
theorem dJ2_putCharsAt_cd4e5_17 : decode cJ2_putCharsAt_cd4e5 17 = .ok (.iload_n 2, 1) := by decide +kernel
theorem dJ2_putCharsAt_cd4e5_18 : decode cJ2_putCharsAt_cd4e5 18 = .ok (.invokestatic 111, 3) := by decide +kernel
theorem dJ2_putCharsAt_cd4e5_21 : decode cJ2_putCharsAt_cd4e5 21 = .ok (.aload_n 0, 1) := by decide +kernel
theorem dJ2_putCharsAt_cd4e5_22 : decode cJ2_putCharsAt_cd4e5 22 = .ok (.iload_n 1, 1) := by decide +kernel
theorem dJ2_putCharsAt_cd4e5_23 : decode cJ2_putCharsAt_cd4e5 23 = .ok (.iinc 1 1, 3) := by decide +kernel
theorem dJ2_putCharsAt_cd4e5_26 : decode cJ2_putCharsAt_cd4e5 26 = .ok (.iload_n 3, 1) := by decide +kernel
theorem dJ2_putCharsAt_cd4e5_27 : decode cJ2_putCharsAt_cd4e5 27 = .ok (.invokestatic 111, 3) := by decide +kernel
theorem dJ2_putCharsAt_cd4e5_30 : decode cJ2_putCharsAt_cd4e5 30 = .ok (.aload_n 0, 1) := by decide +kernel
theorem dJ2_putCharsAt_cd4e5_31 : decode cJ2_putCharsAt_cd4e5 31 = .ok (.iload_n 1, 1) := by decide +kernel
theorem dJ2_putCharsAt_cd4e5_32 : decode cJ2_putCharsAt_cd4e5 32 = .ok (.iinc 1 1, 3) := by decide +kernel
theorem dJ2_putCharsAt_cd4e5_35 : decode cJ2_putCharsAt_cd4e5 35 = .ok (.iload 4, 2) := by decide +kernel
theorem dJ2_putCharsAt_cd4e5_37 : decode cJ2_putCharsAt_cd4e5 37 = .ok (.invokestatic 111, 3) := by decide +kernel
theorem dJ2_putCharsAt_cd4e5_40 : decode cJ2_putCharsAt_cd4e5 40 = .ok (.aload_n 0, 1) := by decide +kernel
theorem dJ2_putCharsAt_cd4e5_41 : decode cJ2_putCharsAt_cd4e5 41 = .ok (.iload_n 1, 1) := by decide +kernel
theorem dJ2_putCharsAt_cd4e5_42 : decode cJ2_putCharsAt_cd4e5 42 = .ok (.iinc 1 1, 3) := by decide +kernel
theorem dJ2_putCharsAt_cd4e5_45 : decode cJ2_putCharsAt_cd4e5 45 = .ok (.iload 5, 2) := by decide +kernel
theorem dJ2_putCharsAt_cd4e5_47 : decode cJ2_putCharsAt_cd4e5 47 = .ok (.invokestatic 111, 3) := by decide +kernel
theorem dJ2_putCharsAt_cd4e5_50 : decode cJ2_putCharsAt_cd4e5 50 = .ok (.getstatic 44, 3) := by decide +kernel
theorem dJ2_putCharsAt_cd4e5_53 : decode cJ2_putCharsAt_cd4e5 53 = .ok (.ifCond .ne 17, 3) := by decide +kernel
theorem dJ2_putCharsAt_cd4e5_56 : decode cJ2_putCharsAt_cd4e5 56 = .ok (.iload_n 1, 1) := by decide +kernel
theorem dJ2_putCharsAt_cd4e5_57 : decode cJ2_putCharsAt_cd4e5 57 = .ok (.iload 6, 2) := by decide +kernel
theorem dJ2_putCharsAt_cd4e5_59 : decode cJ2_putCharsAt_cd4e5 59 = .ok (.if_icmp .eq 11, 3) := by decide +kernel
theorem dJ2_putCharsAt_cd4e5_62 : decode cJ2_putCharsAt_cd4e5 62 = .ok (.new 52, 3) := by decide +kernel
theorem dJ2_putCharsAt_cd4e5_65 : decode cJ2_putCharsAt_cd4e5 65 = .ok (.dup, 1) := by decide +kernel
theorem dJ2_putCharsAt_cd4e5_66 : decode cJ2_putCharsAt_cd4e5 66 = .ok (.invokespecial 66, 3) := by decide +kernel
theorem dJ2_putCharsAt_cd4e5_69 : decode cJ2_putCharsAt_cd4e5 69 = .ok (.athrow, 1) := by decide +kernel
theorem dJ2_putCharsAt_cd4e5_70 : decode cJ2_putCharsAt_cd4e5 70 = .ok (.iload 6, 2) := by decide +kernel
theorem dJ2_putCharsAt_cd4e5_72 : decode cJ2_putCharsAt_cd4e5 72 = .ok (.ireturn, 1) := by decide +kernel
theorem dJ2_charAt_3b067_0 : decode cJ2_charAt_3b067 0 = .ok (.iload_n 1, 1) := by decide +kernel
theorem dJ2_charAt_3b067_1 : decode cJ2_charAt_3b067 1 = .ok (.aload_n 0, 1) := by decide +kernel
theorem dJ2_charAt_3b067_2 : decode cJ2_charAt_3b067 2 = .ok (.invokestatic 67, 3) := by decide +kernel
theorem dJ2_charAt_3b067_5 : decode cJ2_charAt_3b067 5 = .ok (.aload_n 0, 1) := by decide +kernel
theorem dJ2_charAt_3b067_6 : decode cJ2_charAt_3b067 6 = .ok (.iload_n 1, 1) := by decide +kernel
theorem dJ2_charAt_3b067_7 : decode cJ2_charAt_3b067 7 = .ok (.invokestatic 71, 3) := by decide +kernel
theorem dJ2_charAt_3b067_10 : decode cJ2_charAt_3b067 10 = .ok (.ireturn, 1) := by decide +kernel
theorem dJ2_inflate_0e8fd_0 : decode cJ2_inflate_0e8fd 0 = .ok (.iload_n 3, 1) := by decide +kernel
theorem dJ2_inflate_0e8fd_1 : decode cJ2_inflate_0e8fd 1 = .ok (.iload 4, 2) := by decide +kernel
theorem dJ2_inflate_0e8fd_3 : decode cJ2_inflate_0e8fd 3 = .ok (.aload_n 2, 1) := by decide +kernel
theorem dJ2_inflate_0e8fd_4 : decode cJ2_inflate_0e8fd 4 = .ok (.invokestatic 173, 3) := by decide +kernel
theorem dJ2_inflate_0e8fd_7 : decode cJ2_inflate_0e8fd 7 = .ok (.iconst 0, 1) := by decide +kernel
theorem dJ2_inflate_0e8fd_8 : decode cJ2_inflate_0e8fd 8 = .ok (.istore 5, 2) := by decide +kernel
theorem dJ2_inflate_0e8fd_10 : decode cJ2_inflate_0e8fd 10 = .ok (.iload 5, 2) := by decide +kernel
theorem dJ2_inflate_0e8fd_12 : decode cJ2_inflate_0e8fd 12 = .ok (.iload 4, 2) := by decide +kernel
theorem dJ2_inflate_0e8fd_14 : decode cJ2_inflate_0e8fd 14 = .ok (.if_icmp .ge 27, 3) := by decide +kernel
theorem dJ2_inflate_0e8fd_17 : decode cJ2_inflate_0e8fd 17 = .ok (.aload_n 2, 1) := by decide +kernel
theorem dJ2_inflate_0e8fd_18 : decode cJ2_inflate_0e8fd 18 = .ok (.iload_n 3, 1) := by decide +kernel
theorem dJ2_inflate_0e8fd_19 : decode cJ2_inflate_0e8fd 19 = .ok (.iinc 3 1, 3) := by decide +kernel
theorem dJ2_inflate_0e8fd_22 : decode cJ2_inflate_0e8fd 22 = .ok (.aload_n 0, 1) := by decide +kernel
theorem dJ2_inflate_0e8fd_23 : decode cJ2_inflate_0e8fd 23 = .ok (.iload_n 1, 1) := by decide +kernel
theorem dJ2_inflate_0e8fd_24 : decode cJ2_inflate_0e8fd 24 = .ok (.iinc 1 1, 3) := by decide +kernel
theorem dJ2_inflate_0e8fd_27 : decode cJ2_inflate_0e8fd 27 = .ok (.baload, 1) := by decide +kernel
theorem dJ2_inflate_0e8fd_28 : decode cJ2_inflate_0e8fd 28 = .ok (.sipush 255, 3) := by decide +kernel
theorem dJ2_inflate_0e8fd_31 : decode cJ2_inflate_0e8fd 31 = .ok (.iand, 1) := by decide +kernel
theorem dJ2_inflate_0e8fd_32 : decode cJ2_inflate_0e8fd 32 = .ok (.invokestatic 111, 3) := by decide +kernel
theorem dJ2_inflate_0e8fd_35 : decode cJ2_inflate_0e8fd 35 = .ok (.iinc 5 1, 3) := by decide +kernel
theorem dJ2_inflate_0e8fd_38 : decode cJ2_inflate_0e8fd 38 = .ok (.goto (-28), 3) := by decide +kernel
theorem dJ2_inflate_0e8fd_41 : decode cJ2_inflate_0e8fd 41 = .ok (.return_, 1) := by decide +kernel
theorem dJ2_getChars_ba4f3_0 : decode cJ2_getChars_ba4f3 0 = .ok (.iload_n 1, 1) := by decide +kernel
theorem dJ2_getChars_ba4f3_1 : decode cJ2_getChars_ba4f3 1 = .ok (.istore 5, 2) := by decide +kernel
theorem dJ2_getChars_ba4f3_3 : decode cJ2_getChars_ba4f3 3 = .ok (.iload_n 0, 1) := by decide +kernel
theorem dJ2_getChars_ba4f3_4 : decode cJ2_getChars_ba4f3 4 = .ok (.ifCond .ge 7, 3) := by decide +kernel
theorem dJ2_getChars_ba4f3_7 : decode cJ2_getChars_ba4f3 7 = .ok (.iconst 1, 1) := by decide +kernel
theorem dJ2_getChars_ba4f3_8 : decode cJ2_getChars_ba4f3 8 = .ok (.goto 4, 3) := by decide +kernel
theorem dJ2_getChars_ba4f3_11 : decode cJ2_getChars_ba4f3 11 = .ok (.iconst 0, 1) := by decide +kernel
theorem dJ2_getChars_ba4f3_12 : decode cJ2_getChars_ba4f3 12 = .ok (.istore 6, 2) := by decide +kernel
theorem dJ2_getChars_ba4f3_14 : decode cJ2_getChars_ba4f3 14 = .ok (.iload 6, 2) := by decide +kernel
theorem dJ2_getChars_ba4f3_16 : decode cJ2_getChars_ba4f3 16 = .ok (.ifCond .ne 6, 3) := by decide +kernel
theorem dJ2_getChars_ba4f3_19 : decode cJ2_getChars_ba4f3 19 = .ok (.iload_n 0, 1) := by decide +kernel
theorem dJ2_getChars_ba4f3_20 : decode cJ2_getChars_ba4f3 20 = .ok (.ineg, 1) := by decide +kernel
theorem dJ2_getChars_ba4f3_21 : decode cJ2_getChars_ba4f3 21 = .ok (.istore_n 0, 1) := by decide +kernel
theorem dJ2_getChars_ba4f3_22 : decode cJ2_getChars_ba4f3 22 = .ok (.iload_n 0, 1) := by decide +kernel
theorem dJ2_getChars_ba4f3_23 : decode cJ2_getChars_ba4f3 23 = .ok (.bipush (-100), 2) := by decide +kernel
theorem dJ2_getChars_ba4f3_25 : decode cJ2_getChars_ba4f3 25 = .ok (.if_icmp .gt 51, 3) := by decide +kernel
theorem dJ2_getChars_ba4f3_28 : decode cJ2_getChars_ba4f3 28 = .ok (.iload_n 0, 1) := by decide +kernel
theorem dJ2_getChars_ba4f3_29 : decode cJ2_getChars_ba4f3 29 = .ok (.bipush 100, 2) := by decide +kernel
theorem dJ2_getChars_ba4f3_31 : decode cJ2_getChars_ba4f3 31 = .ok (.idiv, 1) := by decide +kernel
theorem dJ2_getChars_ba4f3_32 : decode cJ2_getChars_ba4f3 32 = .ok (.istore_n 3, 1) := by decide +kernel
theorem dJ2_getChars_ba4f3_33 : decode cJ2_getChars_ba4f3 33 = .ok (.iload_n 3, 1) := by decide +kernel
theorem dJ2_getChars_ba4f3_34 : decode cJ2_getChars_ba4f3 34 = .ok (.bipush 100, 2) := by decide +kernel
theorem dJ2_getChars_ba4f3_36 : decode cJ2_getChars_ba4f3 36 = .ok (.imul, 1) := by decide +kernel
theorem dJ2_getChars_ba4f3_37 : decode cJ2_getChars_ba4f3 37 = .ok (.iload_n 0, 1) := by decide +kernel
theorem dJ2_getChars_ba4f3_38 : decode cJ2_getChars_ba4f3 38 = .ok (.isub, 1) := by decide +kernel
theorem dJ2_getChars_ba4f3_39 : decode cJ2_getChars_ba4f3 39 = .ok (.istore 4, 2) := by decide +kernel
theorem dJ2_getChars_ba4f3_41 : decode cJ2_getChars_ba4f3 41 = .ok (.iload_n 3, 1) := by decide +kernel
theorem dJ2_getChars_ba4f3_42 : decode cJ2_getChars_ba4f3 42 = .ok (.istore_n 0, 1) := by decide +kernel
theorem dJ2_getChars_ba4f3_43 : decode cJ2_getChars_ba4f3 43 = .ok (.aload_n 2, 1) := by decide +kernel
theorem dJ2_getChars_ba4f3_44 : decode cJ2_getChars_ba4f3 44 = .ok (.iinc 5 (-1), 3) := by decide +kernel
theorem dJ2_getChars_ba4f3_47 : decode cJ2_getChars_ba4f3 47 = .ok (.iload 5, 2) := by decide +kernel
theorem dJ2_getChars_ba4f3_49 : decode cJ2_getChars_ba4f3 49 = .ok (.getstatic 403, 3) := by decide +kernel
theorem dJ2_getChars_ba4f3_52 : decode cJ2_getChars_ba4f3 52 = .ok (.iload 4, 2) := by decide +kernel
theorem dJ2_getChars_ba4f3_54 : decode cJ2_getChars_ba4f3 54 = .ok (.baload, 1) := by decide +kernel
theorem dJ2_getChars_ba4f3_55 : decode cJ2_getChars_ba4f3 55 = .ok (.invokestatic 111, 3) := by decide +kernel
theorem dJ2_getChars_ba4f3_58 : decode cJ2_getChars_ba4f3 58 = .ok (.aload_n 2, 1) := by decide +kernel
theorem dJ2_getChars_ba4f3_59 : decode cJ2_getChars_ba4f3 59 = .ok (.iinc 5 (-1), 3) := by decide +kernel
theorem dJ2_getChars_ba4f3_62 : decode cJ2_getChars_ba4f3 62 = .ok (.iload 5, 2) := by decide +kernel
theorem dJ2_getChars_ba4f3_64 : decode cJ2_getChars_ba4f3 64 = .ok (.getstatic 407, 3) := by decide +kernel
theorem dJ2_getChars_ba4f3_67 : decode cJ2_getChars_ba4f3 67 = .ok (.iload 4, 2) := by decide +kernel
theorem dJ2_getChars_ba4f3_69 : decode cJ2_getChars_ba4f3 69 = .ok (.baload, 1) := by decide +kernel
theorem dJ2_getChars_ba4f3_70 : decode cJ2_getChars_ba4f3 70 = .ok (.invokestatic 111, 3) := by decide +kernel
theorem dJ2_getChars_ba4f3_73 : decode cJ2_getChars_ba4f3 73 = .ok (.goto (-51), 3) := by decide +kernel
theorem dJ2_getChars_ba4f3_76 : decode cJ2_getChars_ba4f3 76 = .ok (.aload_n 2, 1) := by decide +kernel
theorem dJ2_getChars_ba4f3_77 : decode cJ2_getChars_ba4f3 77 = .ok (.iinc 5 (-1), 3) := by decide +kernel
theorem dJ2_getChars_ba4f3_80 : decode cJ2_getChars_ba4f3 80 = .ok (.iload 5, 2) := by decide +kernel
theorem dJ2_getChars_ba4f3_82 : decode cJ2_getChars_ba4f3 82 = .ok (.getstatic 403, 3) := by decide +kernel
theorem dJ2_getChars_ba4f3_85 : decode cJ2_getChars_ba4f3 85 = .ok (.iload_n 0, 1) := by decide +kernel
theorem dJ2_getChars_ba4f3_86 : decode cJ2_getChars_ba4f3 86 = .ok (.ineg, 1) := by decide +kernel
theorem dJ2_getChars_ba4f3_87 : decode cJ2_getChars_ba4f3 87 = .ok (.baload, 1) := by decide +kernel
theorem dJ2_getChars_ba4f3_88 : decode cJ2_getChars_ba4f3 88 = .ok (.invokestatic 111, 3) := by decide +kernel
theorem dJ2_getChars_ba4f3_91 : decode cJ2_getChars_ba4f3 91 = .ok (.iload_n 0, 1) := by decide +kernel
theorem dJ2_getChars_ba4f3_92 : decode cJ2_getChars_ba4f3 92 = .ok (.bipush (-9), 2) := by decide +kernel
theorem dJ2_getChars_ba4f3_94 : decode cJ2_getChars_ba4f3 94 = .ok (.if_icmp .ge 18, 3) := by decide +kernel
theorem dJ2_getChars_ba4f3_97 : decode cJ2_getChars_ba4f3 97 = .ok (.aload_n 2, 1) := by decide +kernel
theorem dJ2_getChars_ba4f3_98 : decode cJ2_getChars_ba4f3 98 = .ok (.iinc 5 (-1), 3) := by decide +kernel
theorem dJ2_getChars_ba4f3_101 : decode cJ2_getChars_ba4f3 101 = .ok (.iload 5, 2) := by decide +kernel
theorem dJ2_getChars_ba4f3_103 : decode cJ2_getChars_ba4f3 103 = .ok (.getstatic 407, 3) := by decide +kernel
theorem dJ2_getChars_ba4f3_106 : decode cJ2_getChars_ba4f3 106 = .ok (.iload_n 0, 1) := by decide +kernel
theorem dJ2_getChars_ba4f3_107 : decode cJ2_getChars_ba4f3 107 = .ok (.ineg, 1) := by decide +kernel
theorem dJ2_getChars_ba4f3_108 : decode cJ2_getChars_ba4f3 108 = .ok (.baload, 1) := by decide +kernel
theorem dJ2_getChars_ba4f3_109 : decode cJ2_getChars_ba4f3 109 = .ok (.invokestatic 111, 3) := by decide +kernel
theorem dJ2_getChars_ba4f3_112 : decode cJ2_getChars_ba4f3 112 = .ok (.iload 6, 2) := by decide +kernel
theorem dJ2_getChars_ba4f3_114 : decode cJ2_getChars_ba4f3 114 = .ok (.ifCond .eq 14, 3) := by decide +kernel
theorem dJ2_getChars_ba4f3_117 : decode cJ2_getChars_ba4f3 117 = .ok (.aload_n 2, 1) := by decide +kernel
theorem dJ2_getChars_ba4f3_118 : decode cJ2_getChars_ba4f3 118 = .ok (.iinc 5 (-1), 3) := by decide +kernel
theorem dJ2_getChars_ba4f3_121 : decode cJ2_getChars_ba4f3 121 = .ok (.iload 5, 2) := by decide +kernel
theorem dJ2_getChars_ba4f3_123 : decode cJ2_getChars_ba4f3 123 = .ok (.bipush 45, 2) := by decide +kernel
theorem dJ2_getChars_ba4f3_125 : decode cJ2_getChars_ba4f3 125 = .ok (.invokestatic 111, 3) := by decide +kernel
theorem dJ2_getChars_ba4f3_128 : decode cJ2_getChars_ba4f3 128 = .ok (.iload 5, 2) := by decide +kernel
theorem dJ2_getChars_ba4f3_130 : decode cJ2_getChars_ba4f3 130 = .ok (.ireturn, 1) := by decide +kernel
theorem dJ2_checkIndex_2214a_0 : decode cJ2_checkIndex_2214a 0 = .ok (.iload_n 0, 1) := by decide +kernel
theorem dJ2_checkIndex_2214a_1 : decode cJ2_checkIndex_2214a 1 = .ok (.aload_n 1, 1) := by decide +kernel
theorem dJ2_checkIndex_2214a_2 : decode cJ2_checkIndex_2214a 2 = .ok (.invokestatic 48, 3) := by decide +kernel
theorem dJ2_checkIndex_2214a_5 : decode cJ2_checkIndex_2214a 5 = .ok (.invokestatic 414, 3) := by decide +kernel
theorem dJ2_checkIndex_2214a_8 : decode cJ2_checkIndex_2214a 8 = .ok (.return_, 1) := by decide +kernel
theorem dJ2_checkBoundsBeginEnd_d044e_0 : decode cJ2_checkBoundsBeginEnd_d044e 0 = .ok (.iload_n 0, 1) := by decide +kernel
theorem dJ2_checkBoundsBeginEnd_d044e_1 : decode cJ2_checkBoundsBeginEnd_d044e 1 = .ok (.iload_n 1, 1) := by decide +kernel
theorem dJ2_checkBoundsBeginEnd_d044e_2 : decode cJ2_checkBoundsBeginEnd_d044e 2 = .ok (.aload_n 2, 1) := by decide +kernel
theorem dJ2_checkBoundsBeginEnd_d044e_3 : decode cJ2_checkBoundsBeginEnd_d044e 3 = .ok (.invokestatic 48, 3) := by decide +kernel
theorem dJ2_checkBoundsBeginEnd_d044e_6 : decode cJ2_checkBoundsBeginEnd_d044e 6 = .ok (.invokestatic 241, 3) := by decide +kernel
theorem dJ2_checkBoundsBeginEnd_d044e_9 : decode cJ2_checkBoundsBeginEnd_d044e 9 = .ok (.return_, 1) := by decide +kernel
theorem dJ2_checkBoundsOffCount_d044e_0 : decode cJ2_checkBoundsOffCount_d044e 0 = .ok (.iload_n 0, 1) := by decide +kernel
theorem dJ2_checkBoundsOffCount_d044e_1 : decode cJ2_checkBoundsOffCount_d044e 1 = .ok (.iload_n 1, 1) := by decide +kernel
theorem dJ2_checkBoundsOffCount_d044e_2 : decode cJ2_checkBoundsOffCount_d044e 2 = .ok (.aload_n 2, 1) := by decide +kernel
theorem dJ2_checkBoundsOffCount_d044e_3 : decode cJ2_checkBoundsOffCount_d044e 3 = .ok (.invokestatic 48, 3) := by decide +kernel
theorem dJ2_checkBoundsOffCount_d044e_6 : decode cJ2_checkBoundsOffCount_d044e 6 = .ok (.invokestatic 419, 3) := by decide +kernel
theorem dJ2_checkBoundsOffCount_d044e_9 : decode cJ2_checkBoundsOffCount_d044e 9 = .ok (.pop, 1) := by decide +kernel
theorem dJ2_checkBoundsOffCount_d044e_10 : decode cJ2_checkBoundsOffCount_d044e 10 = .ok (.return_, 1) := by decide +kernel
theorem dJ7_fill_53178_0 : decode cJ7_fill_53178 0 = .ok (.iconst 0, 1) := by decide +kernel
theorem dJ7_fill_53178_1 : decode cJ7_fill_53178 1 = .ok (.istore_n 2, 1) := by decide +kernel
theorem dJ7_fill_53178_2 : decode cJ7_fill_53178 2 = .ok (.aload_n 0, 1) := by decide +kernel
theorem dJ7_fill_53178_3 : decode cJ7_fill_53178 3 = .ok (.arraylength, 1) := by decide +kernel
theorem dJ7_fill_53178_4 : decode cJ7_fill_53178 4 = .ok (.istore_n 3, 1) := by decide +kernel
theorem dJ7_fill_53178_5 : decode cJ7_fill_53178 5 = .ok (.iload_n 2, 1) := by decide +kernel
theorem dJ7_fill_53178_6 : decode cJ7_fill_53178 6 = .ok (.iload_n 3, 1) := by decide +kernel
theorem dJ7_fill_53178_7 : decode cJ7_fill_53178 7 = .ok (.if_icmp .ge 13, 3) := by decide +kernel
theorem dJ7_fill_53178_10 : decode cJ7_fill_53178 10 = .ok (.aload_n 0, 1) := by decide +kernel
theorem dJ7_fill_53178_11 : decode cJ7_fill_53178 11 = .ok (.iload_n 2, 1) := by decide +kernel
theorem dJ7_fill_53178_12 : decode cJ7_fill_53178 12 = .ok (.iload_n 1, 1) := by decide +kernel
theorem dJ7_fill_53178_13 : decode cJ7_fill_53178 13 = .ok (.iastore, 1) := by decide +kernel
theorem dJ7_fill_53178_14 : decode cJ7_fill_53178 14 = .ok (.iinc 2 1, 3) := by decide +kernel
theorem dJ7_fill_53178_17 : decode cJ7_fill_53178 17 = .ok (.goto (-12), 3) := by decide +kernel
theorem dJ7_fill_53178_20 : decode cJ7_fill_53178 20 = .ok (.return_, 1) := by decide +kernel
theorem dJ7_copyOf_9075b_0 : decode cJ7_copyOf_9075b 0 = .ok (.iload_n 1, 1) := by decide +kernel
theorem dJ7_copyOf_9075b_1 : decode cJ7_copyOf_9075b 1 = .ok (.aload_n 0, 1) := by decide +kernel
theorem dJ7_copyOf_9075b_2 : decode cJ7_copyOf_9075b 2 = .ok (.arraylength, 1) := by decide +kernel
theorem dJ7_copyOf_9075b_3 : decode cJ7_copyOf_9075b 3 = .ok (.if_icmp .ne 11, 3) := by decide +kernel
theorem dJ7_copyOf_9075b_6 : decode cJ7_copyOf_9075b 6 = .ok (.aload_n 0, 1) := by decide +kernel
theorem dJ7_copyOf_9075b_7 : decode cJ7_copyOf_9075b 7 = .ok (.invokevirtual 310, 3) := by decide +kernel
theorem dJ7_copyOf_9075b_10 : decode cJ7_copyOf_9075b 10 = .ok (.checkcast 311, 3) := by decide +kernel
theorem dJ7_copyOf_9075b_13 : decode cJ7_copyOf_9075b 13 = .ok (.areturn, 1) := by decide +kernel
theorem dJ7_copyOf_9075b_14 : decode cJ7_copyOf_9075b 14 = .ok (.iload_n 1, 1) := by decide +kernel
theorem dJ7_copyOf_9075b_15 : decode cJ7_copyOf_9075b 15 = .ok (.newarray .byte, 2) := by decide +kernel
theorem dJ7_copyOf_9075b_17 : decode cJ7_copyOf_9075b 17 = .ok (.astore_n 2, 1) := by decide +kernel
theorem dJ7_copyOf_9075b_18 : decode cJ7_copyOf_9075b 18 = .ok (.aload_n 0, 1) := by decide +kernel
theorem dJ7_copyOf_9075b_19 : decode cJ7_copyOf_9075b 19 = .ok (.iconst 0, 1) := by decide +kernel
theorem dJ7_copyOf_9075b_20 : decode cJ7_copyOf_9075b 20 = .ok (.aload_n 2, 1) := by decide +kernel
theorem dJ7_copyOf_9075b_21 : decode cJ7_copyOf_9075b 21 = .ok (.iconst 0, 1) := by decide +kernel
theorem dJ7_copyOf_9075b_22 : decode cJ7_copyOf_9075b 22 = .ok (.aload_n 0, 1) := by decide +kernel
theorem dJ7_copyOf_9075b_23 : decode cJ7_copyOf_9075b 23 = .ok (.arraylength, 1) := by decide +kernel
theorem dJ7_copyOf_9075b_24 : decode cJ7_copyOf_9075b 24 = .ok (.iload_n 1, 1) := by decide +kernel
theorem dJ7_copyOf_9075b_25 : decode cJ7_copyOf_9075b 25 = .ok (.invokestatic 304, 3) := by decide +kernel
theorem dJ7_copyOf_9075b_28 : decode cJ7_copyOf_9075b 28 = .ok (.invokestatic 150, 3) := by decide +kernel
theorem dJ7_copyOf_9075b_31 : decode cJ7_copyOf_9075b 31 = .ok (.aload_n 2, 1) := by decide +kernel
theorem dJ7_copyOf_9075b_32 : decode cJ7_copyOf_9075b 32 = .ok (.areturn, 1) := by decide +kernel
theorem dJ7_checkLength_df160_0 : decode cJ7_checkLength_df160 0 = .ok (.iload_n 1, 1) := by decide +kernel
theorem dJ7_checkLength_df160_1 : decode cJ7_checkLength_df160 1 = .ok (.iload_n 0, 1) := by decide +kernel
theorem dJ7_checkLength_df160_2 : decode cJ7_checkLength_df160 2 = .ok (.if_icmp .ge 35, 3) := by decide +kernel
theorem dJ7_checkLength_df160_5 : decode cJ7_checkLength_df160 5 = .ok (.new 43, 3) := by decide +kernel
theorem dJ7_checkLength_df160_8 : decode cJ7_checkLength_df160 8 = .ok (.dup, 1) := by decide +kernel
theorem dJ7_checkLength_df160_9 : decode cJ7_checkLength_df160 9 = .ok (.new 45, 3) := by decide +kernel
theorem dJ7_checkLength_df160_12 : decode cJ7_checkLength_df160 12 = .ok (.dup, 1) := by decide +kernel
theorem dJ7_checkLength_df160_13 : decode cJ7_checkLength_df160 13 = .ok (.invokespecial 47, 3) := by decide +kernel
theorem dJ7_checkLength_df160_16 : decode cJ7_checkLength_df160 16 = .ok (.iload_n 0, 1) := by decide +kernel
theorem dJ7_checkLength_df160_17 : decode cJ7_checkLength_df160 17 = .ok (.invokevirtual 54, 3) := by decide +kernel
theorem dJ7_checkLength_df160_20 : decode cJ7_checkLength_df160 20 = .ok (.ldc_w 337, 3) := by decide +kernel
theorem dJ7_checkLength_df160_23 : decode cJ7_checkLength_df160 23 = .ok (.invokevirtual 50, 3) := by decide +kernel
theorem dJ7_checkLength_df160_26 : decode cJ7_checkLength_df160 26 = .ok (.iload_n 1, 1) := by decide +kernel
theorem dJ7_checkLength_df160_27 : decode cJ7_checkLength_df160 27 = .ok (.invokevirtual 54, 3) := by decide +kernel
theorem dJ7_checkLength_df160_30 : decode cJ7_checkLength_df160 30 = .ok (.invokevirtual 61, 3) := by decide +kernel
theorem dJ7_checkLength_df160_33 : decode cJ7_checkLength_df160 33 = .ok (.invokespecial 65, 3) := by decide +kernel
theorem dJ7_checkLength_df160_36 : decode cJ7_checkLength_df160 36 = .ok (.athrow, 1) := by decide +kernel
theorem dJ7_checkLength_df160_37 : decode cJ7_checkLength_df160 37 = .ok (.return_, 1) := by decide +kernel
theorem dJ7_copyOfRange_39247_0 : decode cJ7_copyOfRange_39247 0 = .ok (.iload_n 1, 1) := by decide +kernel
theorem dJ7_copyOfRange_39247_1 : decode cJ7_copyOfRange_39247 1 = .ok (.ifCond .ne 9, 3) := by decide +kernel
theorem dJ7_copyOfRange_39247_4 : decode cJ7_copyOfRange_39247 4 = .ok (.iload_n 2, 1) := by decide +kernel
theorem dJ7_copyOfRange_39247_5 : decode cJ7_copyOfRange_39247 5 = .ok (.aload_n 0, 1) := by decide +kernel
theorem dJ7_copyOfRange_39247_6 : decode cJ7_copyOfRange_39247 6 = .ok (.arraylength, 1) := by decide +kernel
theorem dJ7_copyOfRange_39247_7 : decode cJ7_copyOfRange_39247 7 = .ok (.if_icmp .eq 10, 3) := by decide +kernel
theorem dJ7_copyOfRange_39247_10 : decode cJ7_copyOfRange_39247 10 = .ok (.aload_n 0, 1) := by decide +kernel
theorem dJ7_copyOfRange_39247_11 : decode cJ7_copyOfRange_39247 11 = .ok (.iload_n 1, 1) := by decide +kernel
theorem dJ7_copyOfRange_39247_12 : decode cJ7_copyOfRange_39247 12 = .ok (.iload_n 2, 1) := by decide +kernel
theorem dJ7_copyOfRange_39247_13 : decode cJ7_copyOfRange_39247 13 = .ok (.invokestatic 339, 3) := by decide +kernel
theorem dJ7_copyOfRange_39247_16 : decode cJ7_copyOfRange_39247 16 = .ok (.areturn, 1) := by decide +kernel
theorem dJ7_copyOfRange_39247_17 : decode cJ7_copyOfRange_39247 17 = .ok (.aload_n 0, 1) := by decide +kernel
theorem dJ7_copyOfRange_39247_18 : decode cJ7_copyOfRange_39247 18 = .ok (.invokevirtual 310, 3) := by decide +kernel
theorem dJ7_copyOfRange_39247_21 : decode cJ7_copyOfRange_39247 21 = .ok (.checkcast 311, 3) := by decide +kernel
theorem dJ7_copyOfRange_39247_24 : decode cJ7_copyOfRange_39247 24 = .ok (.areturn, 1) := by decide +kernel
theorem dJ7_copyOfRangeByte_39247_0 : decode cJ7_copyOfRangeByte_39247 0 = .ok (.iload_n 1, 1) := by decide +kernel
theorem dJ7_copyOfRangeByte_39247_1 : decode cJ7_copyOfRangeByte_39247 1 = .ok (.iload_n 2, 1) := by decide +kernel
theorem dJ7_copyOfRangeByte_39247_2 : decode cJ7_copyOfRangeByte_39247 2 = .ok (.invokestatic 343, 3) := by decide +kernel
theorem dJ7_copyOfRangeByte_39247_5 : decode cJ7_copyOfRangeByte_39247 5 = .ok (.iload_n 2, 1) := by decide +kernel
theorem dJ7_copyOfRangeByte_39247_6 : decode cJ7_copyOfRangeByte_39247 6 = .ok (.iload_n 1, 1) := by decide +kernel
theorem dJ7_copyOfRangeByte_39247_7 : decode cJ7_copyOfRangeByte_39247 7 = .ok (.isub, 1) := by decide +kernel
theorem dJ7_copyOfRangeByte_39247_8 : decode cJ7_copyOfRangeByte_39247 8 = .ok (.istore_n 3, 1) := by decide +kernel
theorem dJ7_copyOfRangeByte_39247_9 : decode cJ7_copyOfRangeByte_39247 9 = .ok (.iload_n 3, 1) := by decide +kernel
theorem dJ7_copyOfRangeByte_39247_10 : decode cJ7_copyOfRangeByte_39247 10 = .ok (.newarray .byte, 2) := by decide +kernel
theorem dJ7_copyOfRangeByte_39247_12 : decode cJ7_copyOfRangeByte_39247 12 = .ok (.astore 4, 2) := by decide +kernel
theorem dJ7_copyOfRangeByte_39247_14 : decode cJ7_copyOfRangeByte_39247 14 = .ok (.aload_n 0, 1) := by decide +kernel
theorem dJ7_copyOfRangeByte_39247_15 : decode cJ7_copyOfRangeByte_39247 15 = .ok (.iload_n 1, 1) := by decide +kernel
theorem dJ7_copyOfRangeByte_39247_16 : decode cJ7_copyOfRangeByte_39247 16 = .ok (.aload 4, 2) := by decide +kernel
theorem dJ7_copyOfRangeByte_39247_18 : decode cJ7_copyOfRangeByte_39247 18 = .ok (.iconst 0, 1) := by decide +kernel
theorem dJ7_copyOfRangeByte_39247_19 : decode cJ7_copyOfRangeByte_39247 19 = .ok (.aload_n 0, 1) := by decide +kernel
theorem dJ7_copyOfRangeByte_39247_20 : decode cJ7_copyOfRangeByte_39247 20 = .ok (.arraylength, 1) := by decide +kernel
theorem dJ7_copyOfRangeByte_39247_21 : decode cJ7_copyOfRangeByte_39247 21 = .ok (.iload_n 1, 1) := by decide +kernel
theorem dJ7_copyOfRangeByte_39247_22 : decode cJ7_copyOfRangeByte_39247 22 = .ok (.isub, 1) := by decide +kernel
theorem dJ7_copyOfRangeByte_39247_23 : decode cJ7_copyOfRangeByte_39247 23 = .ok (.iload_n 3, 1) := by decide +kernel
theorem dJ7_copyOfRangeByte_39247_24 : decode cJ7_copyOfRangeByte_39247 24 = .ok (.invokestatic 304, 3) := by decide +kernel
theorem dJ7_copyOfRangeByte_39247_27 : decode cJ7_copyOfRangeByte_39247 27 = .ok (.invokestatic 150, 3) := by decide +kernel
theorem dJ7_copyOfRangeByte_39247_30 : decode cJ7_copyOfRangeByte_39247 30 = .ok (.aload 4, 2) := by decide +kernel
theorem dJ7_copyOfRangeByte_39247_32 : decode cJ7_copyOfRangeByte_39247 32 = .ok (.areturn, 1) := by decide +kernel
theorem dJ8_newLength_cabcc_0 : decode cJ8_newLength_cabcc 0 = .ok (.iload_n 0, 1) := by decide +kernel
theorem dJ8_newLength_cabcc_1 : decode cJ8_newLength_cabcc 1 = .ok (.iload_n 1, 1) := by decide +kernel
theorem dJ8_newLength_cabcc_2 : decode cJ8_newLength_cabcc 2 = .ok (.iload_n 2, 1) := by decide +kernel
theorem dJ8_newLength_cabcc_3 : decode cJ8_newLength_cabcc 3 = .ok (.invokestatic 194, 3) := by decide +kernel
theorem dJ8_newLength_cabcc_6 : decode cJ8_newLength_cabcc 6 = .ok (.iadd, 1) := by decide +kernel
theorem dJ8_newLength_cabcc_7 : decode cJ8_newLength_cabcc 7 = .ok (.istore_n 3, 1) := by decide +kernel
theorem dJ8_newLength_cabcc_8 : decode cJ8_newLength_cabcc 8 = .ok (.iconst 0, 1) := by decide +kernel
theorem dJ8_newLength_cabcc_9 : decode cJ8_newLength_cabcc 9 = .ok (.iload_n 3, 1) := by decide +kernel
theorem dJ8_newLength_cabcc_10 : decode cJ8_newLength_cabcc 10 = .ok (.if_icmp .ge 11, 3) := by decide +kernel
theorem dJ8_newLength_cabcc_13 : decode cJ8_newLength_cabcc 13 = .ok (.iload_n 3, 1) := by decide +kernel
theorem dJ8_newLength_cabcc_14 : decode cJ8_newLength_cabcc 14 = .ok (.ldc 200, 2) := by decide +kernel
theorem dJ8_newLength_cabcc_16 : decode cJ8_newLength_cabcc 16 = .ok (.if_icmp .gt 5, 3) := by decide +kernel
theorem dJ8_newLength_cabcc_19 : decode cJ8_newLength_cabcc 19 = .ok (.iload_n 3, 1) := by decide +kernel
theorem dJ8_newLength_cabcc_20 : decode cJ8_newLength_cabcc 20 = .ok (.ireturn, 1) := by decide +kernel
theorem dJ8_newLength_cabcc_21 : decode cJ8_newLength_cabcc 21 = .ok (.iload_n 0, 1) := by decide +kernel
theorem dJ8_newLength_cabcc_22 : decode cJ8_newLength_cabcc 22 = .ok (.iload_n 1, 1) := by decide +kernel
theorem dJ8_newLength_cabcc_23 : decode cJ8_newLength_cabcc 23 = .ok (.invokestatic 201, 3) := by decide +kernel
theorem dJ8_newLength_cabcc_26 : decode cJ8_newLength_cabcc 26 = .ok (.ireturn, 1) := by decide +kernel
theorem dJ8_hugeLength_7cf53_0 : decode cJ8_hugeLength_7cf53 0 = .ok (.iload_n 0, 1) := by decide +kernel
theorem dJ8_hugeLength_7cf53_1 : decode cJ8_hugeLength_7cf53 1 = .ok (.iload_n 1, 1) := by decide +kernel
theorem dJ8_hugeLength_7cf53_2 : decode cJ8_hugeLength_7cf53 2 = .ok (.iadd, 1) := by decide +kernel
theorem dJ8_hugeLength_7cf53_3 : decode cJ8_hugeLength_7cf53 3 = .ok (.istore_n 2, 1) := by decide +kernel
theorem dJ8_hugeLength_7cf53_4 : decode cJ8_hugeLength_7cf53 4 = .ok (.iload_n 2, 1) := by decide +kernel
theorem dJ8_hugeLength_7cf53_5 : decode cJ8_hugeLength_7cf53 5 = .ok (.ifCond .ge 44, 3) := by decide +kernel
theorem dJ8_hugeLength_7cf53_8 : decode cJ8_hugeLength_7cf53 8 = .ok (.new 204, 3) := by decide +kernel
theorem dJ8_hugeLength_7cf53_11 : decode cJ8_hugeLength_7cf53 11 = .ok (.dup, 1) := by decide +kernel
theorem dJ8_hugeLength_7cf53_12 : decode cJ8_hugeLength_7cf53 12 = .ok (.new 89, 3) := by decide +kernel
theorem dJ8_hugeLength_7cf53_15 : decode cJ8_hugeLength_7cf53 15 = .ok (.dup, 1) := by decide +kernel
theorem dJ8_hugeLength_7cf53_16 : decode cJ8_hugeLength_7cf53 16 = .ok (.invokespecial 91, 3) := by decide +kernel
theorem dJ8_hugeLength_7cf53_19 : decode cJ8_hugeLength_7cf53 19 = .ok (.ldc 206, 2) := by decide +kernel
theorem dJ8_hugeLength_7cf53_21 : decode cJ8_hugeLength_7cf53 21 = .ok (.invokevirtual 94, 3) := by decide +kernel
theorem dJ8_hugeLength_7cf53_24 : decode cJ8_hugeLength_7cf53 24 = .ok (.iload_n 0, 1) := by decide +kernel
theorem dJ8_hugeLength_7cf53_25 : decode cJ8_hugeLength_7cf53 25 = .ok (.invokevirtual 98, 3) := by decide +kernel
theorem dJ8_hugeLength_7cf53_28 : decode cJ8_hugeLength_7cf53 28 = .ok (.ldc 208, 2) := by decide +kernel
theorem dJ8_hugeLength_7cf53_30 : decode cJ8_hugeLength_7cf53 30 = .ok (.invokevirtual 94, 3) := by decide +kernel
theorem dJ8_hugeLength_7cf53_33 : decode cJ8_hugeLength_7cf53 33 = .ok (.iload_n 1, 1) := by decide +kernel
theorem dJ8_hugeLength_7cf53_34 : decode cJ8_hugeLength_7cf53 34 = .ok (.invokevirtual 98, 3) := by decide +kernel
theorem dJ8_hugeLength_7cf53_37 : decode cJ8_hugeLength_7cf53 37 = .ok (.ldc 210, 2) := by decide +kernel
theorem dJ8_hugeLength_7cf53_39 : decode cJ8_hugeLength_7cf53 39 = .ok (.invokevirtual 94, 3) := by decide +kernel
theorem dJ8_hugeLength_7cf53_42 : decode cJ8_hugeLength_7cf53 42 = .ok (.invokevirtual 101, 3) := by decide +kernel
theorem dJ8_hugeLength_7cf53_45 : decode cJ8_hugeLength_7cf53 45 = .ok (.invokespecial 212, 3) := by decide +kernel
theorem dJ8_hugeLength_7cf53_48 : decode cJ8_hugeLength_7cf53 48 = .ok (.athrow, 1) := by decide +kernel
theorem dJ8_hugeLength_7cf53_49 : decode cJ8_hugeLength_7cf53 49 = .ok (.iload_n 2, 1) := by decide +kernel
theorem dJ8_hugeLength_7cf53_50 : decode cJ8_hugeLength_7cf53 50 = .ok (.ldc 200, 2) := by decide +kernel
theorem dJ8_hugeLength_7cf53_52 : decode cJ8_hugeLength_7cf53 52 = .ok (.if_icmp .gt 6, 3) := by decide +kernel
theorem dJ8_hugeLength_7cf53_55 : decode cJ8_hugeLength_7cf53 55 = .ok (.ldc 200, 2) := by decide +kernel
theorem dJ8_hugeLength_7cf53_57 : decode cJ8_hugeLength_7cf53 57 = .ok (.ireturn, 1) := by decide +kernel
theorem dJ8_hugeLength_7cf53_58 : decode cJ8_hugeLength_7cf53 58 = .ok (.iload_n 2, 1) := by decide +kernel
theorem dJ8_hugeLength_7cf53_59 : decode cJ8_hugeLength_7cf53 59 = .ok (.ireturn, 1) := by decide +kernel
theorem dJ3_checkIndex_8e157_0 : decode cJ3_checkIndex_8e157 0 = .ok (.iload_n 0, 1) := by decide +kernel
theorem dJ3_checkIndex_8e157_1 : decode cJ3_checkIndex_8e157 1 = .ok (.ifCond .lt 8, 3) := by decide +kernel
theorem dJ3_checkIndex_8e157_4 : decode cJ3_checkIndex_8e157 4 = .ok (.iload_n 0, 1) := by decide +kernel
theorem dJ3_checkIndex_8e157_5 : decode cJ3_checkIndex_8e157 5 = .ok (.iload_n 1, 1) := by decide +kernel
theorem dJ3_checkIndex_8e157_6 : decode cJ3_checkIndex_8e157 6 = .ok (.if_icmp .lt 10, 3) := by decide +kernel
theorem dJ3_checkIndex_8e157_9 : decode cJ3_checkIndex_8e157 9 = .ok (.aload_n 2, 1) := by decide +kernel
theorem dJ3_checkIndex_8e157_10 : decode cJ3_checkIndex_8e157 10 = .ok (.iload_n 0, 1) := by decide +kernel
theorem dJ3_checkIndex_8e157_11 : decode cJ3_checkIndex_8e157 11 = .ok (.iload_n 1, 1) := by decide +kernel
theorem dJ3_checkIndex_8e157_12 : decode cJ3_checkIndex_8e157 12 = .ok (.invokestatic 95, 3) := by decide +kernel
theorem dJ3_checkIndex_8e157_15 : decode cJ3_checkIndex_8e157 15 = .ok (.athrow, 1) := by decide +kernel
theorem dJ3_checkIndex_8e157_16 : decode cJ3_checkIndex_8e157 16 = .ok (.iload_n 0, 1) := by decide +kernel
theorem dJ3_checkIndex_8e157_17 : decode cJ3_checkIndex_8e157 17 = .ok (.ireturn, 1) := by decide +kernel
theorem dJ3_checkFromToIndex_8c36e_0 : decode cJ3_checkFromToIndex_8c36e 0 = .ok (.iload_n 0, 1) := by decide +kernel
theorem dJ3_checkFromToIndex_8c36e_1 : decode cJ3_checkFromToIndex_8c36e 1 = .ok (.ifCond .lt 13, 3) := by decide +kernel
theorem dJ3_checkFromToIndex_8c36e_4 : decode cJ3_checkFromToIndex_8c36e 4 = .ok (.iload_n 0, 1) := by decide +kernel
theorem dJ3_checkFromToIndex_8c36e_5 : decode cJ3_checkFromToIndex_8c36e 5 = .ok (.iload_n 1, 1) := by decide +kernel
theorem dJ3_checkFromToIndex_8c36e_6 : decode cJ3_checkFromToIndex_8c36e 6 = .ok (.if_icmp .gt 8, 3) := by decide +kernel
theorem dJ3_checkFromToIndex_8c36e_9 : decode cJ3_checkFromToIndex_8c36e 9 = .ok (.iload_n 1, 1) := by decide +kernel
theorem dJ3_checkFromToIndex_8c36e_10 : decode cJ3_checkFromToIndex_8c36e 10 = .ok (.iload_n 2, 1) := by decide +kernel
theorem dJ3_checkFromToIndex_8c36e_11 : decode cJ3_checkFromToIndex_8c36e 11 = .ok (.if_icmp .le 11, 3) := by decide +kernel
theorem dJ3_checkFromToIndex_8c36e_14 : decode cJ3_checkFromToIndex_8c36e 14 = .ok (.aload_n 3, 1) := by decide +kernel
theorem dJ3_checkFromToIndex_8c36e_15 : decode cJ3_checkFromToIndex_8c36e 15 = .ok (.iload_n 0, 1) := by decide +kernel
theorem dJ3_checkFromToIndex_8c36e_16 : decode cJ3_checkFromToIndex_8c36e 16 = .ok (.iload_n 1, 1) := by decide +kernel
theorem dJ3_checkFromToIndex_8c36e_17 : decode cJ3_checkFromToIndex_8c36e 17 = .ok (.iload_n 2, 1) := by decide +kernel
theorem dJ3_checkFromToIndex_8c36e_18 : decode cJ3_checkFromToIndex_8c36e 18 = .ok (.invokestatic 99, 3) := by decide +kernel
theorem dJ3_checkFromToIndex_8c36e_21 : decode cJ3_checkFromToIndex_8c36e 21 = .ok (.athrow, 1) := by decide +kernel
theorem dJ3_checkFromToIndex_8c36e_22 : decode cJ3_checkFromToIndex_8c36e 22 = .ok (.iload_n 0, 1) := by decide +kernel
theorem dJ3_checkFromToIndex_8c36e_23 : decode cJ3_checkFromToIndex_8c36e 23 = .ok (.ireturn, 1) := by decide +kernel
theorem dJ3_checkFromIndexSize_8c36e_0 : decode cJ3_checkFromIndexSize_8c36e 0 = .ok (.iload_n 2, 1) := by decide +kernel
theorem dJ3_checkFromIndexSize_8c36e_1 : decode cJ3_checkFromIndexSize_8c36e 1 = .ok (.iload_n 0, 1) := by decide +kernel
theorem dJ3_checkFromIndexSize_8c36e_2 : decode cJ3_checkFromIndexSize_8c36e 2 = .ok (.ior, 1) := by decide +kernel
theorem dJ3_checkFromIndexSize_8c36e_3 : decode cJ3_checkFromIndexSize_8c36e 3 = .ok (.iload_n 1, 1) := by decide +kernel
theorem dJ3_checkFromIndexSize_8c36e_4 : decode cJ3_checkFromIndexSize_8c36e 4 = .ok (.ior, 1) := by decide +kernel
theorem dJ3_checkFromIndexSize_8c36e_5 : decode cJ3_checkFromIndexSize_8c36e 5 = .ok (.ifCond .lt 10, 3) := by decide +kernel
theorem dJ3_checkFromIndexSize_8c36e_8 : decode cJ3_checkFromIndexSize_8c36e 8 = .ok (.iload_n 1, 1) := by decide +kernel
theorem dJ3_checkFromIndexSize_8c36e_9 : decode cJ3_checkFromIndexSize_8c36e 9 = .ok (.iload_n 2, 1) := by decide +kernel
theorem dJ3_checkFromIndexSize_8c36e_10 : decode cJ3_checkFromIndexSize_8c36e 10 = .ok (.iload_n 0, 1) := by decide +kernel
theorem dJ3_checkFromIndexSize_8c36e_11 : decode cJ3_checkFromIndexSize_8c36e 11 = .ok (.isub, 1) := by decide +kernel
theorem dJ3_checkFromIndexSize_8c36e_12 : decode cJ3_checkFromIndexSize_8c36e 12 = .ok (.if_icmp .le 11, 3) := by decide +kernel
theorem dJ3_checkFromIndexSize_8c36e_15 : decode cJ3_checkFromIndexSize_8c36e 15 = .ok (.aload_n 3, 1) := by decide +kernel
theorem dJ3_checkFromIndexSize_8c36e_16 : decode cJ3_checkFromIndexSize_8c36e 16 = .ok (.iload_n 0, 1) := by decide +kernel
theorem dJ3_checkFromIndexSize_8c36e_17 : decode cJ3_checkFromIndexSize_8c36e 17 = .ok (.iload_n 1, 1) := by decide +kernel
theorem dJ3_checkFromIndexSize_8c36e_18 : decode cJ3_checkFromIndexSize_8c36e 18 = .ok (.iload_n 2, 1) := by decide +kernel
theorem dJ3_checkFromIndexSize_8c36e_19 : decode cJ3_checkFromIndexSize_8c36e 19 = .ok (.invokestatic 103, 3) := by decide +kernel
theorem dJ3_checkFromIndexSize_8c36e_22 : decode cJ3_checkFromIndexSize_8c36e 22 = .ok (.athrow, 1) := by decide +kernel
theorem dJ3_checkFromIndexSize_8c36e_23 : decode cJ3_checkFromIndexSize_8c36e 23 = .ok (.iload_n 0, 1) := by decide +kernel
theorem dJ3_checkFromIndexSize_8c36e_24 : decode cJ3_checkFromIndexSize_8c36e 24 = .ok (.ireturn, 1) := by decide +kernel
theorem dL_cell_0 : decode cL_cell 0 = .ok (.aload_n 0, 1) := by decide +kernel
theorem dL_cell_1 : decode cL_cell 1 = .ok (.arraylength, 1) := by decide +kernel
theorem dL_cell_2 : decode cL_cell 2 = .ok (.ifCond .ne 7, 3) := by decide +kernel
theorem dL_cell_5 : decode cL_cell 5 = .ok (.iconst 0, 1) := by decide +kernel
theorem dL_cell_6 : decode cL_cell 6 = .ok (.goto 16, 3) := by decide +kernel
theorem dL_cell_9 : decode cL_cell 9 = .ok (.aload_n 0, 1) := by decide +kernel
theorem dL_cell_10 : decode cL_cell 10 = .ok (.iload_n 1, 1) := by decide +kernel
theorem dL_cell_11 : decode cL_cell 11 = .ok (.aload_n 0, 1) := by decide +kernel
theorem dL_cell_12 : decode cL_cell 12 = .ok (.arraylength, 1) := by decide +kernel
theorem dL_cell_13 : decode cL_cell 13 = .ok (.irem, 1) := by decide +kernel
theorem dL_cell_14 : decode cL_cell 14 = .ok (.iaload, 1) := by decide +kernel
theorem dL_cell_15 : decode cL_cell 15 = .ok (.sipush 1000, 3) := by decide +kernel
theorem dL_cell_18 : decode cL_cell 18 = .ok (.irem, 1) := by decide +kernel
theorem dL_cell_19 : decode cL_cell 19 = .ok (.invokestatic 7, 3) := by decide +kernel
theorem dL_cell_22 : decode cL_cell 22 = .ok (.ireturn, 1) := by decide +kernel
theorem dL_load_0 : decode cL_load 0 = .ok (.lconst 0, 1) := by decide +kernel
theorem dL_load_1 : decode cL_load 1 = .ok (.lstore_n 2, 1) := by decide +kernel
theorem dL_load_2 : decode cL_load 2 = .ok (.iconst 0, 1) := by decide +kernel
theorem dL_load_3 : decode cL_load 3 = .ok (.istore 4, 2) := by decide +kernel
theorem dL_load_5 : decode cL_load 5 = .ok (.iload 4, 2) := by decide +kernel
theorem dL_load_7 : decode cL_load 7 = .ok (.aload_n 1, 1) := by decide +kernel
theorem dL_load_8 : decode cL_load 8 = .ok (.invokevirtual 13, 3) := by decide +kernel
theorem dL_load_11 : decode cL_load 11 = .ok (.if_icmp .ge 54, 3) := by decide +kernel
theorem dL_load_14 : decode cL_load 14 = .ok (.lload_n 2, 1) := by decide +kernel
theorem dL_load_15 : decode cL_load 15 = .ok (.bipush 8, 2) := by decide +kernel
theorem dL_load_17 : decode cL_load 17 = .ok (.lshl, 1) := by decide +kernel
theorem dL_load_18 : decode cL_load 18 = .ok (.aload_n 1, 1) := by decide +kernel
theorem dL_load_19 : decode cL_load 19 = .ok (.iload 4, 2) := by decide +kernel
theorem dL_load_21 : decode cL_load 21 = .ok (.invokevirtual 19, 3) := by decide +kernel
theorem dL_load_24 : decode cL_load 24 = .ok (.i2l, 1) := by decide +kernel
theorem dL_load_25 : decode cL_load 25 = .ok (.lor, 1) := by decide +kernel
theorem dL_load_26 : decode cL_load 26 = .ok (.lstore_n 2, 1) := by decide +kernel
theorem dL_load_27 : decode cL_load 27 = .ok (.iload 4, 2) := by decide +kernel
theorem dL_load_29 : decode cL_load 29 = .ok (.bipush 8, 2) := by decide +kernel
theorem dL_load_31 : decode cL_load 31 = .ok (.irem, 1) := by decide +kernel
theorem dL_load_32 : decode cL_load 32 = .ok (.bipush 7, 2) := by decide +kernel
theorem dL_load_34 : decode cL_load 34 = .ok (.if_icmp .eq 17, 3) := by decide +kernel
theorem dL_load_37 : decode cL_load 37 = .ok (.iload 4, 2) := by decide +kernel
theorem dL_load_39 : decode cL_load 39 = .ok (.aload_n 1, 1) := by decide +kernel
theorem dL_load_40 : decode cL_load 40 = .ok (.invokevirtual 13, 3) := by decide +kernel
theorem dL_load_43 : decode cL_load 43 = .ok (.iconst 1, 1) := by decide +kernel
theorem dL_load_44 : decode cL_load 44 = .ok (.isub, 1) := by decide +kernel
theorem dL_load_45 : decode cL_load 45 = .ok (.if_icmp .eq 6, 3) := by decide +kernel
theorem dL_load_48 : decode cL_load 48 = .ok (.goto 11, 3) := by decide +kernel
theorem dL_load_51 : decode cL_load 51 = .ok (.aload_n 0, 1) := by decide +kernel
theorem dL_load_52 : decode cL_load 52 = .ok (.lload_n 2, 1) := by decide +kernel
theorem dL_load_53 : decode cL_load 53 = .ok (.invokevirtual 23, 3) := by decide +kernel
theorem dL_load_56 : decode cL_load 56 = .ok (.pop, 1) := by decide +kernel
theorem dL_load_57 : decode cL_load 57 = .ok (.lconst 0, 1) := by decide +kernel
theorem dL_load_58 : decode cL_load 58 = .ok (.lstore_n 2, 1) := by decide +kernel
theorem dL_load_59 : decode cL_load 59 = .ok (.iinc 4 1, 3) := by decide +kernel
theorem dL_load_62 : decode cL_load 62 = .ok (.goto (-57), 3) := by decide +kernel
theorem dL_load_65 : decode cL_load 65 = .ok (.aload_n 0, 1) := by decide +kernel
theorem dL_load_66 : decode cL_load 66 = .ok (.invokevirtual 29, 3) := by decide +kernel
theorem dL_load_69 : decode cL_load 69 = .ok (.ireturn, 1) := by decide +kernel
theorem dL_text_0 : decode cL_text 0 = .ok (.new 32, 3) := by decide +kernel
theorem dL_text_3 : decode cL_text 3 = .ok (.dup, 1) := by decide +kernel
theorem dL_text_4 : decode cL_text 4 = .ok (.new 32, 3) := by decide +kernel
theorem dL_text_7 : decode cL_text 7 = .ok (.dup, 1) := by decide +kernel
theorem dL_text_8 : decode cL_text 8 = .ok (.invokespecial 34, 3) := by decide +kernel
theorem dL_text_11 : decode cL_text 11 = .ok (.ldc 35, 2) := by decide +kernel
theorem dL_text_13 : decode cL_text 13 = .ok (.invokevirtual 37, 3) := by decide +kernel
theorem dL_text_16 : decode cL_text 16 = .ok (.iconst 1, 1) := by decide +kernel
theorem dL_text_17 : decode cL_text 17 = .ok (.aload_n 0, 1) := by decide +kernel
theorem dL_text_18 : decode cL_text 18 = .ok (.iconst 0, 1) := by decide +kernel
theorem dL_text_19 : decode cL_text 19 = .ok (.invokestatic 40, 3) := by decide +kernel
theorem dL_text_22 : decode cL_text 22 = .ok (.bipush 40, 2) := by decide +kernel
theorem dL_text_24 : decode cL_text 24 = .ok (.irem, 1) := by decide +kernel
theorem dL_text_25 : decode cL_text 25 = .ok (.iadd, 1) := by decide +kernel
theorem dL_text_26 : decode cL_text 26 = .ok (.invokevirtual 46, 3) := by decide +kernel
theorem dL_text_29 : decode cL_text 29 = .ok (.ldc 49, 2) := by decide +kernel
theorem dL_text_31 : decode cL_text 31 = .ok (.invokevirtual 37, 3) := by decide +kernel
theorem dL_text_34 : decode cL_text 34 = .ok (.iconst 1, 1) := by decide +kernel
theorem dL_text_35 : decode cL_text 35 = .ok (.aload_n 0, 1) := by decide +kernel
theorem dL_text_36 : decode cL_text 36 = .ok (.iconst 1, 1) := by decide +kernel
theorem dL_text_37 : decode cL_text 37 = .ok (.invokestatic 40, 3) := by decide +kernel
theorem dL_text_40 : decode cL_text 40 = .ok (.bipush 9, 2) := by decide +kernel
theorem dL_text_42 : decode cL_text 42 = .ok (.irem, 1) := by decide +kernel
theorem dL_text_43 : decode cL_text 43 = .ok (.iadd, 1) := by decide +kernel
theorem dL_text_44 : decode cL_text 44 = .ok (.invokevirtual 46, 3) := by decide +kernel
theorem dL_text_47 : decode cL_text 47 = .ok (.ldc 51, 2) := by decide +kernel
theorem dL_text_49 : decode cL_text 49 = .ok (.invokevirtual 37, 3) := by decide +kernel
theorem dL_text_52 : decode cL_text 52 = .ok (.iconst 1, 1) := by decide +kernel
theorem dL_text_53 : decode cL_text 53 = .ok (.aload_n 0, 1) := by decide +kernel
theorem dL_text_54 : decode cL_text 54 = .ok (.iconst 2, 1) := by decide +kernel
theorem dL_text_55 : decode cL_text 55 = .ok (.invokestatic 40, 3) := by decide +kernel
theorem dL_text_58 : decode cL_text 58 = .ok (.iconst 4, 1) := by decide +kernel
theorem dL_text_59 : decode cL_text 59 = .ok (.irem, 1) := by decide +kernel
theorem dL_text_60 : decode cL_text 60 = .ok (.iadd, 1) := by decide +kernel
theorem dL_text_61 : decode cL_text 61 = .ok (.invokevirtual 46, 3) := by decide +kernel
theorem dL_text_64 : decode cL_text 64 = .ok (.ldc 53, 2) := by decide +kernel
theorem dL_text_66 : decode cL_text 66 = .ok (.invokevirtual 37, 3) := by decide +kernel
theorem dL_text_69 : decode cL_text 69 = .ok (.aload_n 0, 1) := by decide +kernel
theorem dL_text_70 : decode cL_text 70 = .ok (.iconst 3, 1) := by decide +kernel
theorem dL_text_71 : decode cL_text 71 = .ok (.invokestatic 40, 3) := by decide +kernel
theorem dL_text_74 : decode cL_text 74 = .ok (.bipush 101, 2) := by decide +kernel
theorem dL_text_76 : decode cL_text 76 = .ok (.irem, 1) := by decide +kernel
theorem dL_text_77 : decode cL_text 77 = .ok (.invokevirtual 46, 3) := by decide +kernel
theorem dL_text_80 : decode cL_text 80 = .ok (.invokevirtual 55, 3) := by decide +kernel
theorem dL_text_83 : decode cL_text 83 = .ok (.invokespecial 59, 3) := by decide +kernel
theorem dL_text_86 : decode cL_text 86 = .ok (.astore_n 1, 1) := by decide +kernel
theorem dL_text_87 : decode cL_text 87 = .ok (.iconst 0, 1) := by decide +kernel
theorem dL_text_88 : decode cL_text 88 = .ok (.istore_n 2, 1) := by decide +kernel
theorem dL_text_89 : decode cL_text 89 = .ok (.iload_n 2, 1) := by decide +kernel
theorem dL_text_90 : decode cL_text 90 = .ok (.iconst 5, 1) := by decide +kernel
theorem dL_text_91 : decode cL_text 91 = .ok (.if_icmp .ge 24, 3) := by decide +kernel
theorem dL_text_94 : decode cL_text 94 = .ok (.aload_n 1, 1) := by decide +kernel
theorem dL_text_95 : decode cL_text 95 = .ok (.ldc 62, 2) := by decide +kernel
theorem dL_text_97 : decode cL_text 97 = .ok (.invokevirtual 37, 3) := by decide +kernel
theorem dL_text_100 : decode cL_text 100 = .ok (.bipush 97, 2) := by decide +kernel
theorem dL_text_102 : decode cL_text 102 = .ok (.iload_n 2, 1) := by decide +kernel
theorem dL_text_103 : decode cL_text 103 = .ok (.iadd, 1) := by decide +kernel
theorem dL_text_104 : decode cL_text 104 = .ok (.i2c, 1) := by decide +kernel
theorem dL_text_105 : decode cL_text 105 = .ok (.invokevirtual 64, 3) := by decide +kernel
theorem dL_text_108 : decode cL_text 108 = .ok (.pop, 1) := by decide +kernel
theorem dL_text_109 : decode cL_text 109 = .ok (.iinc 2 1, 3) := by decide +kernel
theorem dL_text_112 : decode cL_text 112 = .ok (.goto (-23), 3) := by decide +kernel
theorem dL_text_115 : decode cL_text 115 = .ok (.iconst 0, 1) := by decide +kernel
theorem dL_text_116 : decode cL_text 116 = .ok (.istore_n 2, 1) := by decide +kernel
theorem dL_text_117 : decode cL_text 117 = .ok (.iload_n 2, 1) := by decide +kernel
theorem dL_text_118 : decode cL_text 118 = .ok (.bipush 9, 2) := by decide +kernel
theorem dL_text_120 : decode cL_text 120 = .ok (.if_icmp .ge 154, 3) := by decide +kernel
theorem dL_text_123 : decode cL_text 123 = .ok (.iload_n 2, 1) := by decide +kernel
theorem dL_text_124 : decode cL_text 124 = .ok (.iconst 4, 1) := by decide +kernel
theorem dL_text_125 : decode cL_text 125 = .ok (.if_icmp .ge 7, 3) := by decide +kernel
theorem dL_text_128 : decode cL_text 128 = .ok (.iload_n 2, 1) := by decide +kernel
theorem dL_text_129 : decode cL_text 129 = .ok (.goto 14, 3) := by decide +kernel
theorem dL_text_132 : decode cL_text 132 = .ok (.aload_n 0, 1) := by decide +kernel
theorem dL_text_133 : decode cL_text 133 = .ok (.iconst 5, 1) := by decide +kernel
theorem dL_text_134 : decode cL_text 134 = .ok (.iconst 4, 1) := by decide +kernel
theorem dL_text_135 : decode cL_text 135 = .ok (.iload_n 2, 1) := by decide +kernel
theorem dL_text_136 : decode cL_text 136 = .ok (.imul, 1) := by decide +kernel
theorem dL_text_137 : decode cL_text 137 = .ok (.iadd, 1) := by decide +kernel
theorem dL_text_138 : decode cL_text 138 = .ok (.invokestatic 40, 3) := by decide +kernel
theorem dL_text_141 : decode cL_text 141 = .ok (.iconst 5, 1) := by decide +kernel
theorem dL_text_142 : decode cL_text 142 = .ok (.irem, 1) := by decide +kernel
theorem dL_text_143 : decode cL_text 143 = .ok (.istore_n 3, 1) := by decide +kernel
theorem dL_text_144 : decode cL_text 144 = .ok (.iload_n 2, 1) := by decide +kernel
theorem dL_text_145 : decode cL_text 145 = .ok (.iconst 4, 1) := by decide +kernel
theorem dL_text_146 : decode cL_text 146 = .ok (.if_icmp .ge 9, 3) := by decide +kernel
theorem dL_text_149 : decode cL_text 149 = .ok (.iload_n 2, 1) := by decide +kernel
theorem dL_text_150 : decode cL_text 150 = .ok (.iconst 1, 1) := by decide +kernel
theorem dL_text_151 : decode cL_text 151 = .ok (.iadd, 1) := by decide +kernel
theorem dL_text_152 : decode cL_text 152 = .ok (.goto 21, 3) := by decide +kernel
theorem dL_text_155 : decode cL_text 155 = .ok (.iload_n 3, 1) := by decide +kernel
theorem dL_text_156 : decode cL_text 156 = .ok (.iconst 1, 1) := by decide +kernel
theorem dL_text_157 : decode cL_text 157 = .ok (.iadd, 1) := by decide +kernel
theorem dL_text_158 : decode cL_text 158 = .ok (.aload_n 0, 1) := by decide +kernel
theorem dL_text_159 : decode cL_text 159 = .ok (.bipush 6, 2) := by decide +kernel
theorem dL_text_161 : decode cL_text 161 = .ok (.iconst 4, 1) := by decide +kernel
theorem dL_text_162 : decode cL_text 162 = .ok (.iload_n 2, 1) := by decide +kernel
theorem dL_text_163 : decode cL_text 163 = .ok (.imul, 1) := by decide +kernel
theorem dL_text_164 : decode cL_text 164 = .ok (.iadd, 1) := by decide +kernel
theorem dL_text_165 : decode cL_text 165 = .ok (.invokestatic 40, 3) := by decide +kernel
theorem dL_text_168 : decode cL_text 168 = .ok (.iconst 4, 1) := by decide +kernel
theorem dL_text_169 : decode cL_text 169 = .ok (.irem, 1) := by decide +kernel
theorem dL_text_170 : decode cL_text 170 = .ok (.iadd, 1) := by decide +kernel
theorem dL_text_171 : decode cL_text 171 = .ok (.iconst 5, 1) := by decide +kernel
theorem dL_text_172 : decode cL_text 172 = .ok (.irem, 1) := by decide +kernel
theorem dL_text_173 : decode cL_text 173 = .ok (.istore 4, 2) := by decide +kernel
theorem dL_text_175 : decode cL_text 175 = .ok (.aload_n 1, 1) := by decide +kernel
theorem dL_text_176 : decode cL_text 176 = .ok (.ldc 67, 2) := by decide +kernel
theorem dL_text_178 : decode cL_text 178 = .ok (.invokevirtual 37, 3) := by decide +kernel
theorem dL_text_181 : decode cL_text 181 = .ok (.bipush 97, 2) := by decide +kernel
theorem dL_text_183 : decode cL_text 183 = .ok (.iload_n 3, 1) := by decide +kernel
theorem dL_text_184 : decode cL_text 184 = .ok (.iadd, 1) := by decide +kernel
theorem dL_text_185 : decode cL_text 185 = .ok (.i2c, 1) := by decide +kernel
theorem dL_text_186 : decode cL_text 186 = .ok (.invokevirtual 64, 3) := by decide +kernel
theorem dL_text_189 : decode cL_text 189 = .ok (.bipush 32, 2) := by decide +kernel
theorem dL_text_191 : decode cL_text 191 = .ok (.invokevirtual 64, 3) := by decide +kernel
theorem dL_text_194 : decode cL_text 194 = .ok (.bipush 97, 2) := by decide +kernel
theorem dL_text_196 : decode cL_text 196 = .ok (.iload 4, 2) := by decide +kernel
theorem dL_text_198 : decode cL_text 198 = .ok (.iadd, 1) := by decide +kernel
theorem dL_text_199 : decode cL_text 199 = .ok (.i2c, 1) := by decide +kernel
theorem dL_text_200 : decode cL_text 200 = .ok (.invokevirtual 64, 3) := by decide +kernel
theorem dL_text_203 : decode cL_text 203 = .ok (.bipush 32, 2) := by decide +kernel
theorem dL_text_205 : decode cL_text 205 = .ok (.invokevirtual 64, 3) := by decide +kernel
theorem dL_text_208 : decode cL_text 208 = .ok (.aload_n 0, 1) := by decide +kernel
theorem dL_text_209 : decode cL_text 209 = .ok (.bipush 7, 2) := by decide +kernel
theorem dL_text_211 : decode cL_text 211 = .ok (.iconst 4, 1) := by decide +kernel
theorem dL_text_212 : decode cL_text 212 = .ok (.iload_n 2, 1) := by decide +kernel
theorem dL_text_213 : decode cL_text 213 = .ok (.imul, 1) := by decide +kernel
theorem dL_text_214 : decode cL_text 214 = .ok (.iadd, 1) := by decide +kernel
theorem dL_text_215 : decode cL_text 215 = .ok (.invokestatic 40, 3) := by decide +kernel
theorem dL_text_218 : decode cL_text 218 = .ok (.bipush 60, 2) := by decide +kernel
theorem dL_text_220 : decode cL_text 220 = .ok (.irem, 1) := by decide +kernel
theorem dL_text_221 : decode cL_text 221 = .ok (.invokevirtual 46, 3) := by decide +kernel
theorem dL_text_224 : decode cL_text 224 = .ok (.bipush 32, 2) := by decide +kernel
theorem dL_text_226 : decode cL_text 226 = .ok (.invokevirtual 64, 3) := by decide +kernel
theorem dL_text_229 : decode cL_text 229 = .ok (.aload_n 0, 1) := by decide +kernel
theorem dL_text_230 : decode cL_text 230 = .ok (.bipush 8, 2) := by decide +kernel
theorem dL_text_232 : decode cL_text 232 = .ok (.iconst 4, 1) := by decide +kernel
theorem dL_text_233 : decode cL_text 233 = .ok (.iload_n 2, 1) := by decide +kernel
theorem dL_text_234 : decode cL_text 234 = .ok (.imul, 1) := by decide +kernel
theorem dL_text_235 : decode cL_text 235 = .ok (.iadd, 1) := by decide +kernel
theorem dL_text_236 : decode cL_text 236 = .ok (.invokestatic 40, 3) := by decide +kernel
theorem dL_text_239 : decode cL_text 239 = .ok (.bipush 20, 2) := by decide +kernel
theorem dL_text_241 : decode cL_text 241 = .ok (.irem, 1) := by decide +kernel
theorem dL_text_242 : decode cL_text 242 = .ok (.invokevirtual 46, 3) := by decide +kernel
theorem dL_text_245 : decode cL_text 245 = .ok (.bipush 32, 2) := by decide +kernel
theorem dL_text_247 : decode cL_text 247 = .ok (.invokevirtual 64, 3) := by decide +kernel
theorem dL_text_250 : decode cL_text 250 = .ok (.iconst 1, 1) := by decide +kernel
theorem dL_text_251 : decode cL_text 251 = .ok (.aload_n 0, 1) := by decide +kernel
theorem dL_text_252 : decode cL_text 252 = .ok (.bipush 8, 2) := by decide +kernel
theorem dL_text_254 : decode cL_text 254 = .ok (.iconst 4, 1) := by decide +kernel
theorem dL_text_255 : decode cL_text 255 = .ok (.iload_n 2, 1) := by decide +kernel
theorem dL_text_256 : decode cL_text 256 = .ok (.imul, 1) := by decide +kernel
theorem dL_text_257 : decode cL_text 257 = .ok (.iadd, 1) := by decide +kernel
theorem dL_text_258 : decode cL_text 258 = .ok (.invokestatic 40, 3) := by decide +kernel
theorem dL_text_261 : decode cL_text 261 = .ok (.iconst 4, 1) := by decide +kernel
theorem dL_text_262 : decode cL_text 262 = .ok (.irem, 1) := by decide +kernel
theorem dL_text_263 : decode cL_text 263 = .ok (.iadd, 1) := by decide +kernel
theorem dL_text_264 : decode cL_text 264 = .ok (.invokevirtual 46, 3) := by decide +kernel
theorem dL_text_267 : decode cL_text 267 = .ok (.pop, 1) := by decide +kernel
theorem dL_text_268 : decode cL_text 268 = .ok (.iinc 2 1, 3) := by decide +kernel
theorem dL_text_271 : decode cL_text 271 = .ok (.goto (-154), 3) := by decide +kernel
theorem dL_text_274 : decode cL_text 274 = .ok (.aload_n 1, 1) := by decide +kernel
theorem dL_text_275 : decode cL_text 275 = .ok (.invokevirtual 55, 3) := by decide +kernel
theorem dL_text_278 : decode cL_text 278 = .ok (.areturn, 1) := by decide +kernel
theorem dL_step_0 : decode cL_step 0 = .ok (.aload_n 1, 1) := by decide +kernel
theorem dL_step_1 : decode cL_step 1 = .ok (.iload_n 2, 1) := by decide +kernel
theorem dL_step_2 : decode cL_step 2 = .ok (.iconst 1, 1) := by decide +kernel
theorem dL_step_3 : decode cL_step 3 = .ok (.iadd, 1) := by decide +kernel
theorem dL_step_4 : decode cL_step 4 = .ok (.invokestatic 40, 3) := by decide +kernel
theorem dL_step_7 : decode cL_step 7 = .ok (.istore_n 3, 1) := by decide +kernel
theorem dL_step_8 : decode cL_step 8 = .ok (.aload_n 0, 1) := by decide +kernel
theorem dL_step_9 : decode cL_step 9 = .ok (.invokevirtual 69, 3) := by decide +kernel
theorem dL_step_12 : decode cL_step 12 = .ok (.ifCond .ne 7, 3) := by decide +kernel
theorem dL_step_15 : decode cL_step 15 = .ok (.iconst 0, 1) := by decide +kernel
theorem dL_step_16 : decode cL_step 16 = .ok (.goto 15, 3) := by decide +kernel
theorem dL_step_19 : decode cL_step 19 = .ok (.aload_n 1, 1) := by decide +kernel
theorem dL_step_20 : decode cL_step 20 = .ok (.iload_n 2, 1) := by decide +kernel
theorem dL_step_21 : decode cL_step 21 = .ok (.iconst 2, 1) := by decide +kernel
theorem dL_step_22 : decode cL_step 22 = .ok (.iadd, 1) := by decide +kernel
theorem dL_step_23 : decode cL_step 23 = .ok (.invokestatic 40, 3) := by decide +kernel
theorem dL_step_26 : decode cL_step 26 = .ok (.aload_n 0, 1) := by decide +kernel
theorem dL_step_27 : decode cL_step 27 = .ok (.invokevirtual 69, 3) := by decide +kernel
theorem dL_step_30 : decode cL_step 30 = .ok (.irem, 1) := by decide +kernel
theorem dL_step_31 : decode cL_step 31 = .ok (.istore 4, 2) := by decide +kernel
theorem dL_step_33 : decode cL_step 33 = .ok (.aload_n 0, 1) := by decide +kernel
theorem dL_step_34 : decode cL_step 34 = .ok (.invokevirtual 69, 3) := by decide +kernel
theorem dL_step_37 : decode cL_step 37 = .ok (.ifCond .ne 8, 3) := by decide +kernel
theorem dL_step_40 : decode cL_step 40 = .ok (.bipush 9, 2) := by decide +kernel
theorem dL_step_42 : decode cL_step 42 = .ok (.goto 11, 3) := by decide +kernel
theorem dL_step_45 : decode cL_step 45 = .ok (.aload_n 1, 1) := by decide +kernel
theorem dL_step_46 : decode cL_step 46 = .ok (.iload_n 2, 1) := by decide +kernel
theorem dL_step_47 : decode cL_step 47 = .ok (.invokestatic 40, 3) := by decide +kernel
theorem dL_step_50 : decode cL_step 50 = .ok (.bipush 10, 2) := by decide +kernel
theorem dL_step_52 : decode cL_step 52 = .ok (.irem, 1) := by decide +kernel
theorem dL_step_53 : decode cL_step 53 = .ok (.istore 5, 2) := by decide +kernel
theorem dL_step_55 : decode cL_step 55 = .ok (.iload 5, 2) := by decide +kernel
theorem dL_step_57 : decode cL_step 57 = .ok (.tableswitch 117 0 6 #[43, 53, 63, 75, 87, 103, 103], 43) := by decide +kernel
theorem dL_step_100 : decode cL_step 100 = .ok (.aload_n 0, 1) := by decide +kernel
theorem dL_step_101 : decode cL_step 101 = .ok (.iload 4, 2) := by decide +kernel
theorem dL_step_103 : decode cL_step 103 = .ok (.invokevirtual 72, 3) := by decide +kernel
theorem dL_step_106 : decode cL_step 106 = .ok (.pop, 1) := by decide +kernel
theorem dL_step_107 : decode cL_step 107 = .ok (.goto 105, 3) := by decide +kernel
theorem dL_step_110 : decode cL_step 110 = .ok (.aload_n 0, 1) := by decide +kernel
theorem dL_step_111 : decode cL_step 111 = .ok (.iload 4, 2) := by decide +kernel
theorem dL_step_113 : decode cL_step 113 = .ok (.invokevirtual 75, 3) := by decide +kernel
theorem dL_step_116 : decode cL_step 116 = .ok (.pop, 1) := by decide +kernel
theorem dL_step_117 : decode cL_step 117 = .ok (.goto 95, 3) := by decide +kernel
theorem dL_step_120 : decode cL_step 120 = .ok (.aload_n 0, 1) := by decide +kernel
theorem dL_step_121 : decode cL_step 121 = .ok (.iload_n 3, 1) := by decide +kernel
theorem dL_step_122 : decode cL_step 122 = .ok (.bipush 9, 2) := by decide +kernel
theorem dL_step_124 : decode cL_step 124 = .ok (.irem, 1) := by decide +kernel
theorem dL_step_125 : decode cL_step 125 = .ok (.invokevirtual 78, 3) := by decide +kernel
theorem dL_step_128 : decode cL_step 128 = .ok (.pop, 1) := by decide +kernel
theorem dL_step_129 : decode cL_step 129 = .ok (.goto 83, 3) := by decide +kernel
theorem dL_step_132 : decode cL_step 132 = .ok (.aload_n 0, 1) := by decide +kernel
theorem dL_step_133 : decode cL_step 133 = .ok (.iload_n 3, 1) := by decide +kernel
theorem dL_step_134 : decode cL_step 134 = .ok (.bipush 9, 2) := by decide +kernel
theorem dL_step_136 : decode cL_step 136 = .ok (.irem, 1) := by decide +kernel
theorem dL_step_137 : decode cL_step 137 = .ok (.invokevirtual 81, 3) := by decide +kernel
theorem dL_step_140 : decode cL_step 140 = .ok (.pop, 1) := by decide +kernel
theorem dL_step_141 : decode cL_step 141 = .ok (.goto 71, 3) := by decide +kernel
theorem dL_step_144 : decode cL_step 144 = .ok (.aload_n 0, 1) := by decide +kernel
theorem dL_step_145 : decode cL_step 145 = .ok (.iload_n 3, 1) := by decide +kernel
theorem dL_step_146 : decode cL_step 146 = .ok (.bipush 9, 2) := by decide +kernel
theorem dL_step_148 : decode cL_step 148 = .ok (.irem, 1) := by decide +kernel
theorem dL_step_149 : decode cL_step 149 = .ok (.iload_n 3, 1) := by decide +kernel
theorem dL_step_150 : decode cL_step 150 = .ok (.bipush 80, 2) := by decide +kernel
theorem dL_step_152 : decode cL_step 152 = .ok (.irem, 1) := by decide +kernel
theorem dL_step_153 : decode cL_step 153 = .ok (.invokevirtual 84, 3) := by decide +kernel
theorem dL_step_156 : decode cL_step 156 = .ok (.pop, 1) := by decide +kernel
theorem dL_step_157 : decode cL_step 157 = .ok (.goto 55, 3) := by decide +kernel
theorem dL_step_160 : decode cL_step 160 = .ok (.aload_n 0, 1) := by decide +kernel
theorem dL_step_161 : decode cL_step 161 = .ok (.iconst 1, 1) := by decide +kernel
theorem dL_step_162 : decode cL_step 162 = .ok (.iload_n 3, 1) := by decide +kernel
theorem dL_step_163 : decode cL_step 163 = .ok (.bipush 9, 2) := by decide +kernel
theorem dL_step_165 : decode cL_step 165 = .ok (.irem, 1) := by decide +kernel
theorem dL_step_166 : decode cL_step 166 = .ok (.iadd, 1) := by decide +kernel
theorem dL_step_167 : decode cL_step 167 = .ok (.invokevirtual 88, 3) := by decide +kernel
theorem dL_step_170 : decode cL_step 170 = .ok (.pop, 1) := by decide +kernel
theorem dL_step_171 : decode cL_step 171 = .ok (.goto 41, 3) := by decide +kernel
theorem dL_step_174 : decode cL_step 174 = .ok (.aload_n 0, 1) := by decide +kernel
theorem dL_step_175 : decode cL_step 175 = .ok (.iload_n 3, 1) := by decide +kernel
theorem dL_step_176 : decode cL_step 176 = .ok (.iconst 5, 1) := by decide +kernel
theorem dL_step_177 : decode cL_step 177 = .ok (.irem, 1) := by decide +kernel
theorem dL_step_178 : decode cL_step 178 = .ok (.iload_n 3, 1) := by decide +kernel
theorem dL_step_179 : decode cL_step 179 = .ok (.iconst 1, 1) := by decide +kernel
theorem dL_step_180 : decode cL_step 180 = .ok (.iadd, 1) := by decide +kernel
theorem dL_step_181 : decode cL_step 181 = .ok (.iload_n 3, 1) := by decide +kernel
theorem dL_step_182 : decode cL_step 182 = .ok (.bipush 7, 2) := by decide +kernel
theorem dL_step_184 : decode cL_step 184 = .ok (.idiv, 1) := by decide +kernel
theorem dL_step_185 : decode cL_step 185 = .ok (.iconst 4, 1) := by decide +kernel
theorem dL_step_186 : decode cL_step 186 = .ok (.irem, 1) := by decide +kernel
theorem dL_step_187 : decode cL_step 187 = .ok (.iadd, 1) := by decide +kernel
theorem dL_step_188 : decode cL_step 188 = .ok (.iconst 5, 1) := by decide +kernel
theorem dL_step_189 : decode cL_step 189 = .ok (.irem, 1) := by decide +kernel
theorem dL_step_190 : decode cL_step 190 = .ok (.iconst 1, 1) := by decide +kernel
theorem dL_step_191 : decode cL_step 191 = .ok (.iload_n 3, 1) := by decide +kernel
theorem dL_step_192 : decode cL_step 192 = .ok (.bipush 25, 2) := by decide +kernel
theorem dL_step_194 : decode cL_step 194 = .ok (.irem, 1) := by decide +kernel
theorem dL_step_195 : decode cL_step 195 = .ok (.iadd, 1) := by decide +kernel
theorem dL_step_196 : decode cL_step 196 = .ok (.iconst 1, 1) := by decide +kernel
theorem dL_step_197 : decode cL_step 197 = .ok (.aload_n 1, 1) := by decide +kernel
theorem dL_step_198 : decode cL_step 198 = .ok (.iload_n 2, 1) := by decide +kernel
theorem dL_step_199 : decode cL_step 199 = .ok (.iconst 2, 1) := by decide +kernel
theorem dL_step_200 : decode cL_step 200 = .ok (.iadd, 1) := by decide +kernel
theorem dL_step_201 : decode cL_step 201 = .ok (.invokestatic 40, 3) := by decide +kernel
theorem dL_step_204 : decode cL_step 204 = .ok (.bipush 60, 2) := by decide +kernel
theorem dL_step_206 : decode cL_step 206 = .ok (.irem, 1) := by decide +kernel
theorem dL_step_207 : decode cL_step 207 = .ok (.iadd, 1) := by decide +kernel
theorem dL_step_208 : decode cL_step 208 = .ok (.invokevirtual 91, 3) := by decide +kernel
theorem dL_step_211 : decode cL_step 211 = .ok (.pop, 1) := by decide +kernel
theorem dL_step_212 : decode cL_step 212 = .ok (.return_, 1) := by decide +kernel
theorem dL_isRequest_0 : decode cL_isRequest 0 = .ok (.lconst 0, 1) := by decide +kernel
theorem dL_isRequest_1 : decode cL_isRequest 1 = .ok (.lstore_n 2, 1) := by decide +kernel
theorem dL_isRequest_2 : decode cL_isRequest 2 = .ok (.lconst 0, 1) := by decide +kernel
theorem dL_isRequest_3 : decode cL_isRequest 3 = .ok (.lstore 4, 2) := by decide +kernel
theorem dL_isRequest_5 : decode cL_isRequest 5 = .ok (.aload_n 0, 1) := by decide +kernel
theorem dL_isRequest_6 : decode cL_isRequest 6 = .ok (.iload_n 1, 1) := by decide +kernel
theorem dL_isRequest_7 : decode cL_isRequest 7 = .ok (.iconst 4, 1) := by decide +kernel
theorem dL_isRequest_8 : decode cL_isRequest 8 = .ok (.invokevirtual 95, 3) := by decide +kernel
theorem dL_isRequest_11 : decode cL_isRequest 11 = .ok (.istore 6, 2) := by decide +kernel
theorem dL_isRequest_13 : decode cL_isRequest 13 = .ok (.iconst 0, 1) := by decide +kernel
theorem dL_isRequest_14 : decode cL_isRequest 14 = .ok (.istore 7, 2) := by decide +kernel
theorem dL_isRequest_16 : decode cL_isRequest 16 = .ok (.iload 7, 2) := by decide +kernel
theorem dL_isRequest_18 : decode cL_isRequest 18 = .ok (.aload_n 0, 1) := by decide +kernel
theorem dL_isRequest_19 : decode cL_isRequest 19 = .ok (.invokevirtual 98, 3) := by decide +kernel
theorem dL_isRequest_22 : decode cL_isRequest 22 = .ok (.if_icmp .ge 116, 3) := by decide +kernel
theorem dL_isRequest_25 : decode cL_isRequest 25 = .ok (.aload_n 0, 1) := by decide +kernel
theorem dL_isRequest_26 : decode cL_isRequest 26 = .ok (.iload 7, 2) := by decide +kernel
theorem dL_isRequest_28 : decode cL_isRequest 28 = .ok (.iconst 0, 1) := by decide +kernel
theorem dL_isRequest_29 : decode cL_isRequest 29 = .ok (.invokevirtual 101, 3) := by decide +kernel
theorem dL_isRequest_32 : decode cL_isRequest 32 = .ok (.iload_n 1, 1) := by decide +kernel
theorem dL_isRequest_33 : decode cL_isRequest 33 = .ok (.if_icmp .eq 6, 3) := by decide +kernel
theorem dL_isRequest_36 : decode cL_isRequest 36 = .ok (.goto 96, 3) := by decide +kernel
theorem dL_isRequest_39 : decode cL_isRequest 39 = .ok (.lload_n 2, 1) := by decide +kernel
theorem dL_isRequest_40 : decode cL_isRequest 40 = .ok (.aload_n 0, 1) := by decide +kernel
theorem dL_isRequest_41 : decode cL_isRequest 41 = .ok (.iload 7, 2) := by decide +kernel
theorem dL_isRequest_43 : decode cL_isRequest 43 = .ok (.bipush 6, 2) := by decide +kernel
theorem dL_isRequest_45 : decode cL_isRequest 45 = .ok (.invokevirtual 101, 3) := by decide +kernel
theorem dL_isRequest_48 : decode cL_isRequest 48 = .ok (.i2l, 1) := by decide +kernel
theorem dL_isRequest_49 : decode cL_isRequest 49 = .ok (.ladd, 1) := by decide +kernel
theorem dL_isRequest_50 : decode cL_isRequest 50 = .ok (.lstore_n 2, 1) := by decide +kernel
theorem dL_isRequest_51 : decode cL_isRequest 51 = .ok (.lload 4, 2) := by decide +kernel
theorem dL_isRequest_53 : decode cL_isRequest 53 = .ok (.aload_n 0, 1) := by decide +kernel
theorem dL_isRequest_54 : decode cL_isRequest 54 = .ok (.iload 7, 2) := by decide +kernel
theorem dL_isRequest_56 : decode cL_isRequest 56 = .ok (.bipush 7, 2) := by decide +kernel
theorem dL_isRequest_58 : decode cL_isRequest 58 = .ok (.invokevirtual 101, 3) := by decide +kernel
theorem dL_isRequest_61 : decode cL_isRequest 61 = .ok (.i2l, 1) := by decide +kernel
theorem dL_isRequest_62 : decode cL_isRequest 62 = .ok (.ladd, 1) := by decide +kernel
theorem dL_isRequest_63 : decode cL_isRequest 63 = .ok (.lstore 4, 2) := by decide +kernel
theorem dL_isRequest_65 : decode cL_isRequest 65 = .ok (.aload_n 0, 1) := by decide +kernel
theorem dL_isRequest_66 : decode cL_isRequest 66 = .ok (.iload 7, 2) := by decide +kernel
theorem dL_isRequest_68 : decode cL_isRequest 68 = .ok (.bipush 7, 2) := by decide +kernel
theorem dL_isRequest_70 : decode cL_isRequest 70 = .ok (.invokevirtual 101, 3) := by decide +kernel
theorem dL_isRequest_73 : decode cL_isRequest 73 = .ok (.aload_n 0, 1) := by decide +kernel
theorem dL_isRequest_74 : decode cL_isRequest 74 = .ok (.iload 7, 2) := by decide +kernel
theorem dL_isRequest_76 : decode cL_isRequest 76 = .ok (.bipush 6, 2) := by decide +kernel
theorem dL_isRequest_78 : decode cL_isRequest 78 = .ok (.invokevirtual 101, 3) := by decide +kernel
theorem dL_isRequest_81 : decode cL_isRequest 81 = .ok (.if_icmp .gt 19, 3) := by decide +kernel
theorem dL_isRequest_84 : decode cL_isRequest 84 = .ok (.aload_n 0, 1) := by decide +kernel
theorem dL_isRequest_85 : decode cL_isRequest 85 = .ok (.iload 7, 2) := by decide +kernel
theorem dL_isRequest_87 : decode cL_isRequest 87 = .ok (.iconst 2, 1) := by decide +kernel
theorem dL_isRequest_88 : decode cL_isRequest 88 = .ok (.invokevirtual 101, 3) := by decide +kernel
theorem dL_isRequest_91 : decode cL_isRequest 91 = .ok (.aload_n 0, 1) := by decide +kernel
theorem dL_isRequest_92 : decode cL_isRequest 92 = .ok (.iload_n 1, 1) := by decide +kernel
theorem dL_isRequest_93 : decode cL_isRequest 93 = .ok (.iconst 2, 1) := by decide +kernel
theorem dL_isRequest_94 : decode cL_isRequest 94 = .ok (.invokevirtual 95, 3) := by decide +kernel
theorem dL_isRequest_97 : decode cL_isRequest 97 = .ok (.if_icmp .eq 5, 3) := by decide +kernel
theorem dL_isRequest_100 : decode cL_isRequest 100 = .ok (.iconst 0, 1) := by decide +kernel
theorem dL_isRequest_101 : decode cL_isRequest 101 = .ok (.ireturn, 1) := by decide +kernel
theorem dL_isRequest_102 : decode cL_isRequest 102 = .ok (.aload_n 0, 1) := by decide +kernel
theorem dL_isRequest_103 : decode cL_isRequest 103 = .ok (.iload 7, 2) := by decide +kernel
theorem dL_isRequest_105 : decode cL_isRequest 105 = .ok (.iconst 5, 1) := by decide +kernel
theorem dL_isRequest_106 : decode cL_isRequest 106 = .ok (.invokevirtual 101, 3) := by decide +kernel
theorem dL_isRequest_109 : decode cL_isRequest 109 = .ok (.iconst 2, 1) := by decide +kernel
theorem dL_isRequest_110 : decode cL_isRequest 110 = .ok (.if_icmp .ge 22, 3) := by decide +kernel
theorem dL_isRequest_113 : decode cL_isRequest 113 = .ok (.iload 6, 2) := by decide +kernel
theorem dL_isRequest_115 : decode cL_isRequest 115 = .ok (.ifCond .eq 17, 3) := by decide +kernel
theorem dL_isRequest_118 : decode cL_isRequest 118 = .ok (.iload 6, 2) := by decide +kernel
theorem dL_isRequest_120 : decode cL_isRequest 120 = .ok (.iconst 1, 1) := by decide +kernel
theorem dL_isRequest_121 : decode cL_isRequest 121 = .ok (.if_icmp .eq 11, 3) := by decide +kernel
theorem dL_isRequest_124 : decode cL_isRequest 124 = .ok (.iload 6, 2) := by decide +kernel
theorem dL_isRequest_126 : decode cL_isRequest 126 = .ok (.iconst 2, 1) := by decide +kernel
theorem dL_isRequest_127 : decode cL_isRequest 127 = .ok (.if_icmp .eq 5, 3) := by decide +kernel
theorem dL_isRequest_130 : decode cL_isRequest 130 = .ok (.iconst 0, 1) := by decide +kernel
theorem dL_isRequest_131 : decode cL_isRequest 131 = .ok (.ireturn, 1) := by decide +kernel
theorem dL_isRequest_132 : decode cL_isRequest 132 = .ok (.iinc 7 1, 3) := by decide +kernel
theorem dL_isRequest_135 : decode cL_isRequest 135 = .ok (.goto (-119), 3) := by decide +kernel
theorem dL_isRequest_138 : decode cL_isRequest 138 = .ok (.lload_n 2, 1) := by decide +kernel
theorem dL_isRequest_139 : decode cL_isRequest 139 = .ok (.aload_n 0, 1) := by decide +kernel
theorem dL_isRequest_140 : decode cL_isRequest 140 = .ok (.iload_n 1, 1) := by decide +kernel
theorem dL_isRequest_141 : decode cL_isRequest 141 = .ok (.bipush 7, 2) := by decide +kernel
theorem dL_isRequest_143 : decode cL_isRequest 143 = .ok (.invokevirtual 95, 3) := by decide +kernel
theorem dL_isRequest_146 : decode cL_isRequest 146 = .ok (.i2l, 1) := by decide +kernel
theorem dL_isRequest_147 : decode cL_isRequest 147 = .ok (.lcmp, 1) := by decide +kernel
theorem dL_isRequest_148 : decode cL_isRequest 148 = .ok (.ifCond .ne 17, 3) := by decide +kernel
theorem dL_isRequest_151 : decode cL_isRequest 151 = .ok (.lload 4, 2) := by decide +kernel
theorem dL_isRequest_153 : decode cL_isRequest 153 = .ok (.aload_n 0, 1) := by decide +kernel
theorem dL_isRequest_154 : decode cL_isRequest 154 = .ok (.iload_n 1, 1) := by decide +kernel
theorem dL_isRequest_155 : decode cL_isRequest 155 = .ok (.bipush 8, 2) := by decide +kernel
theorem dL_isRequest_157 : decode cL_isRequest 157 = .ok (.invokevirtual 95, 3) := by decide +kernel
theorem dL_isRequest_160 : decode cL_isRequest 160 = .ok (.i2l, 1) := by decide +kernel
theorem dL_isRequest_161 : decode cL_isRequest 161 = .ok (.lcmp, 1) := by decide +kernel
theorem dL_isRequest_162 : decode cL_isRequest 162 = .ok (.ifCond .eq 5, 3) := by decide +kernel
theorem dL_isRequest_165 : decode cL_isRequest 165 = .ok (.iconst 0, 1) := by decide +kernel
theorem dL_isRequest_166 : decode cL_isRequest 166 = .ok (.ireturn, 1) := by decide +kernel
theorem dL_isRequest_167 : decode cL_isRequest 167 = .ok (.aload_n 0, 1) := by decide +kernel
theorem dL_isRequest_168 : decode cL_isRequest 168 = .ok (.iload_n 1, 1) := by decide +kernel
theorem dL_isRequest_169 : decode cL_isRequest 169 = .ok (.iconst 0, 1) := by decide +kernel
theorem dL_isRequest_170 : decode cL_isRequest 170 = .ok (.invokevirtual 95, 3) := by decide +kernel
theorem dL_isRequest_173 : decode cL_isRequest 173 = .ok (.istore 7, 2) := by decide +kernel
theorem dL_isRequest_175 : decode cL_isRequest 175 = .ok (.iconst 0, 1) := by decide +kernel
theorem dL_isRequest_176 : decode cL_isRequest 176 = .ok (.istore 8, 2) := by decide +kernel
theorem dL_isRequest_178 : decode cL_isRequest 178 = .ok (.iload 8, 2) := by decide +kernel
theorem dL_isRequest_180 : decode cL_isRequest 180 = .ok (.aload_n 0, 1) := by decide +kernel
theorem dL_isRequest_181 : decode cL_isRequest 181 = .ok (.iload_n 1, 1) := by decide +kernel
theorem dL_isRequest_182 : decode cL_isRequest 182 = .ok (.invokevirtual 104, 3) := by decide +kernel
theorem dL_isRequest_185 : decode cL_isRequest 185 = .ok (.if_icmp .ge 63, 3) := by decide +kernel
theorem dL_isRequest_188 : decode cL_isRequest 188 = .ok (.aload_n 0, 1) := by decide +kernel
theorem dL_isRequest_189 : decode cL_isRequest 189 = .ok (.iload_n 1, 1) := by decide +kernel
theorem dL_isRequest_190 : decode cL_isRequest 190 = .ok (.iload 8, 2) := by decide +kernel
theorem dL_isRequest_192 : decode cL_isRequest 192 = .ok (.invokevirtual 107, 3) := by decide +kernel
theorem dL_isRequest_195 : decode cL_isRequest 195 = .ok (.istore 9, 2) := by decide +kernel
theorem dL_isRequest_197 : decode cL_isRequest 197 = .ok (.aload_n 0, 1) := by decide +kernel
theorem dL_isRequest_198 : decode cL_isRequest 198 = .ok (.iload 9, 2) := by decide +kernel
theorem dL_isRequest_200 : decode cL_isRequest 200 = .ok (.iconst 0, 1) := by decide +kernel
theorem dL_isRequest_201 : decode cL_isRequest 201 = .ok (.invokevirtual 110, 3) := by decide +kernel
theorem dL_isRequest_204 : decode cL_isRequest 204 = .ok (.iload 7, 2) := by decide +kernel
theorem dL_isRequest_206 : decode cL_isRequest 206 = .ok (.if_icmp .ne 25, 3) := by decide +kernel
theorem dL_isRequest_209 : decode cL_isRequest 209 = .ok (.iload 6, 2) := by decide +kernel
theorem dL_isRequest_211 : decode cL_isRequest 211 = .ok (.iconst 3, 1) := by decide +kernel
theorem dL_isRequest_212 : decode cL_isRequest 212 = .ok (.if_icmp .ge 21, 3) := by decide +kernel
theorem dL_isRequest_215 : decode cL_isRequest 215 = .ok (.aload_n 0, 1) := by decide +kernel
theorem dL_isRequest_216 : decode cL_isRequest 216 = .ok (.iload_n 1, 1) := by decide +kernel
theorem dL_isRequest_217 : decode cL_isRequest 217 = .ok (.bipush 9, 2) := by decide +kernel
theorem dL_isRequest_219 : decode cL_isRequest 219 = .ok (.invokevirtual 95, 3) := by decide +kernel
theorem dL_isRequest_222 : decode cL_isRequest 222 = .ok (.iload 9, 2) := by decide +kernel
theorem dL_isRequest_224 : decode cL_isRequest 224 = .ok (.ishr, 1) := by decide +kernel
theorem dL_isRequest_225 : decode cL_isRequest 225 = .ok (.iconst 1, 1) := by decide +kernel
theorem dL_isRequest_226 : decode cL_isRequest 226 = .ok (.iand, 1) := by decide +kernel
theorem dL_isRequest_227 : decode cL_isRequest 227 = .ok (.iconst 1, 1) := by decide +kernel
theorem dL_isRequest_228 : decode cL_isRequest 228 = .ok (.if_icmp .ne 5, 3) := by decide +kernel
theorem dL_isRequest_231 : decode cL_isRequest 231 = .ok (.iconst 0, 1) := by decide +kernel
theorem dL_isRequest_232 : decode cL_isRequest 232 = .ok (.ireturn, 1) := by decide +kernel
theorem dL_isRequest_233 : decode cL_isRequest 233 = .ok (.aload_n 0, 1) := by decide +kernel
theorem dL_isRequest_234 : decode cL_isRequest 234 = .ok (.iload 9, 2) := by decide +kernel
theorem dL_isRequest_236 : decode cL_isRequest 236 = .ok (.iconst 1, 1) := by decide +kernel
theorem dL_isRequest_237 : decode cL_isRequest 237 = .ok (.invokevirtual 110, 3) := by decide +kernel
theorem dL_isRequest_240 : decode cL_isRequest 240 = .ok (.istore 7, 2) := by decide +kernel
theorem dL_isRequest_242 : decode cL_isRequest 242 = .ok (.iinc 8 1, 3) := by decide +kernel
theorem dL_isRequest_245 : decode cL_isRequest 245 = .ok (.goto (-67), 3) := by decide +kernel
theorem dL_isRequest_248 : decode cL_isRequest 248 = .ok (.iload 6, 2) := by decide +kernel
theorem dL_isRequest_250 : decode cL_isRequest 250 = .ok (.ifCond .eq 16, 3) := by decide +kernel
theorem dL_isRequest_253 : decode cL_isRequest 253 = .ok (.iload 6, 2) := by decide +kernel
theorem dL_isRequest_255 : decode cL_isRequest 255 = .ok (.iconst 1, 1) := by decide +kernel
theorem dL_isRequest_256 : decode cL_isRequest 256 = .ok (.if_icmp .eq 10, 3) := by decide +kernel
theorem dL_isRequest_259 : decode cL_isRequest 259 = .ok (.iload 6, 2) := by decide +kernel
theorem dL_isRequest_261 : decode cL_isRequest 261 = .ok (.bipush 7, 2) := by decide +kernel
theorem dL_isRequest_263 : decode cL_isRequest 263 = .ok (.if_icmp .ne 7, 3) := by decide +kernel
theorem dL_isRequest_266 : decode cL_isRequest 266 = .ok (.iconst 1, 1) := by decide +kernel
theorem dL_isRequest_267 : decode cL_isRequest 267 = .ok (.goto 4, 3) := by decide +kernel
theorem dL_isRequest_270 : decode cL_isRequest 270 = .ok (.iconst 0, 1) := by decide +kernel
theorem dL_isRequest_271 : decode cL_isRequest 271 = .ok (.istore 8, 2) := by decide +kernel
theorem dL_isRequest_273 : decode cL_isRequest 273 = .ok (.aload_n 0, 1) := by decide +kernel
theorem dL_isRequest_274 : decode cL_isRequest 274 = .ok (.iload_n 1, 1) := by decide +kernel
theorem dL_isRequest_275 : decode cL_isRequest 275 = .ok (.invokevirtual 104, 3) := by decide +kernel
theorem dL_isRequest_278 : decode cL_isRequest 278 = .ok (.ifCond .eq 14, 3) := by decide +kernel
theorem dL_isRequest_281 : decode cL_isRequest 281 = .ok (.iload 7, 2) := by decide +kernel
theorem dL_isRequest_283 : decode cL_isRequest 283 = .ok (.aload_n 0, 1) := by decide +kernel
theorem dL_isRequest_284 : decode cL_isRequest 284 = .ok (.iload_n 1, 1) := by decide +kernel
theorem dL_isRequest_285 : decode cL_isRequest 285 = .ok (.iconst 1, 1) := by decide +kernel
theorem dL_isRequest_286 : decode cL_isRequest 286 = .ok (.invokevirtual 95, 3) := by decide +kernel
theorem dL_isRequest_289 : decode cL_isRequest 289 = .ok (.if_icmp .ne 59, 3) := by decide +kernel
theorem dL_isRequest_292 : decode cL_isRequest 292 = .ok (.iload 8, 2) := by decide +kernel
theorem dL_isRequest_294 : decode cL_isRequest 294 = .ok (.aload_n 0, 1) := by decide +kernel
theorem dL_isRequest_295 : decode cL_isRequest 295 = .ok (.iload_n 1, 1) := by decide +kernel
theorem dL_isRequest_296 : decode cL_isRequest 296 = .ok (.bipush 6, 2) := by decide +kernel
theorem dL_isRequest_298 : decode cL_isRequest 298 = .ok (.invokevirtual 95, 3) := by decide +kernel
theorem dL_isRequest_301 : decode cL_isRequest 301 = .ok (.aload_n 0, 1) := by decide +kernel
theorem dL_isRequest_302 : decode cL_isRequest 302 = .ok (.invokevirtual 113, 3) := by decide +kernel
theorem dL_isRequest_305 : decode cL_isRequest 305 = .ok (.if_icmp .le 7, 3) := by decide +kernel
theorem dL_isRequest_308 : decode cL_isRequest 308 = .ok (.iconst 1, 1) := by decide +kernel
theorem dL_isRequest_309 : decode cL_isRequest 309 = .ok (.goto 4, 3) := by decide +kernel
theorem dL_isRequest_312 : decode cL_isRequest 312 = .ok (.iconst 0, 1) := by decide +kernel
theorem dL_isRequest_313 : decode cL_isRequest 313 = .ok (.if_icmp .ne 35, 3) := by decide +kernel
theorem dL_isRequest_316 : decode cL_isRequest 316 = .ok (.iload 6, 2) := by decide +kernel
theorem dL_isRequest_318 : decode cL_isRequest 318 = .ok (.iconst 1, 1) := by decide +kernel
theorem dL_isRequest_319 : decode cL_isRequest 319 = .ok (.if_icmp .le 7, 3) := by decide +kernel
theorem dL_isRequest_322 : decode cL_isRequest 322 = .ok (.iconst 1, 1) := by decide +kernel
theorem dL_isRequest_323 : decode cL_isRequest 323 = .ok (.goto 4, 3) := by decide +kernel
theorem dL_isRequest_326 : decode cL_isRequest 326 = .ok (.iconst 0, 1) := by decide +kernel
theorem dL_isRequest_327 : decode cL_isRequest 327 = .ok (.aload_n 0, 1) := by decide +kernel
theorem dL_isRequest_328 : decode cL_isRequest 328 = .ok (.iload_n 1, 1) := by decide +kernel
theorem dL_isRequest_329 : decode cL_isRequest 329 = .ok (.invokevirtual 116, 3) := by decide +kernel
theorem dL_isRequest_332 : decode cL_isRequest 332 = .ok (.iconst (-1), 1) := by decide +kernel
theorem dL_isRequest_333 : decode cL_isRequest 333 = .ok (.if_icmp .ne 7, 3) := by decide +kernel
theorem dL_isRequest_336 : decode cL_isRequest 336 = .ok (.iconst 1, 1) := by decide +kernel
theorem dL_isRequest_337 : decode cL_isRequest 337 = .ok (.goto 4, 3) := by decide +kernel
theorem dL_isRequest_340 : decode cL_isRequest 340 = .ok (.iconst 0, 1) := by decide +kernel
theorem dL_isRequest_341 : decode cL_isRequest 341 = .ok (.if_icmp .ne 7, 3) := by decide +kernel
theorem dL_isRequest_344 : decode cL_isRequest 344 = .ok (.iconst 1, 1) := by decide +kernel
theorem dL_isRequest_345 : decode cL_isRequest 345 = .ok (.goto 4, 3) := by decide +kernel
theorem dL_isRequest_348 : decode cL_isRequest 348 = .ok (.iconst 0, 1) := by decide +kernel
theorem dL_isRequest_349 : decode cL_isRequest 349 = .ok (.ireturn, 1) := by decide +kernel
theorem dL_isLink_0 : decode cL_isLink 0 = .ok (.iconst 0, 1) := by decide +kernel
theorem dL_isLink_1 : decode cL_isLink 1 = .ok (.istore_n 2, 1) := by decide +kernel
theorem dL_isLink_2 : decode cL_isLink 2 = .ok (.iconst 0, 1) := by decide +kernel
theorem dL_isLink_3 : decode cL_isLink 3 = .ok (.istore_n 3, 1) := by decide +kernel
theorem dL_isLink_4 : decode cL_isLink 4 = .ok (.aload_n 0, 1) := by decide +kernel
theorem dL_isLink_5 : decode cL_isLink 5 = .ok (.iload_n 1, 1) := by decide +kernel
theorem dL_isLink_6 : decode cL_isLink 6 = .ok (.iload_n 3, 1) := by decide +kernel
theorem dL_isLink_7 : decode cL_isLink 7 = .ok (.invokevirtual 119, 3) := by decide +kernel
theorem dL_isLink_10 : decode cL_isLink 10 = .ok (.ifCond .lt 23, 3) := by decide +kernel
theorem dL_isLink_13 : decode cL_isLink 13 = .ok (.iload_n 2, 1) := by decide +kernel
theorem dL_isLink_14 : decode cL_isLink 14 = .ok (.aload_n 0, 1) := by decide +kernel
theorem dL_isLink_15 : decode cL_isLink 15 = .ok (.aload_n 0, 1) := by decide +kernel
theorem dL_isLink_16 : decode cL_isLink 16 = .ok (.iload_n 1, 1) := by decide +kernel
theorem dL_isLink_17 : decode cL_isLink 17 = .ok (.iload_n 3, 1) := by decide +kernel
theorem dL_isLink_18 : decode cL_isLink 18 = .ok (.invokevirtual 119, 3) := by decide +kernel
theorem dL_isLink_21 : decode cL_isLink 21 = .ok (.iconst 2, 1) := by decide +kernel
theorem dL_isLink_22 : decode cL_isLink 22 = .ok (.invokevirtual 101, 3) := by decide +kernel
theorem dL_isLink_25 : decode cL_isLink 25 = .ok (.iadd, 1) := by decide +kernel
theorem dL_isLink_26 : decode cL_isLink 26 = .ok (.istore_n 2, 1) := by decide +kernel
theorem dL_isLink_27 : decode cL_isLink 27 = .ok (.iinc 3 1, 3) := by decide +kernel
theorem dL_isLink_30 : decode cL_isLink 30 = .ok (.goto (-26), 3) := by decide +kernel
theorem dL_isLink_33 : decode cL_isLink 33 = .ok (.iload_n 2, 1) := by decide +kernel
theorem dL_isLink_34 : decode cL_isLink 34 = .ok (.aload_n 0, 1) := by decide +kernel
theorem dL_isLink_35 : decode cL_isLink 35 = .ok (.iload_n 1, 1) := by decide +kernel
theorem dL_isLink_36 : decode cL_isLink 36 = .ok (.iconst 5, 1) := by decide +kernel
theorem dL_isLink_37 : decode cL_isLink 37 = .ok (.invokevirtual 110, 3) := by decide +kernel
theorem dL_isLink_40 : decode cL_isLink 40 = .ok (.if_icmp .ne 35, 3) := by decide +kernel
theorem dL_isLink_43 : decode cL_isLink 43 = .ok (.aload_n 0, 1) := by decide +kernel
theorem dL_isLink_44 : decode cL_isLink 44 = .ok (.iload_n 1, 1) := by decide +kernel
theorem dL_isLink_45 : decode cL_isLink 45 = .ok (.bipush 6, 2) := by decide +kernel
theorem dL_isLink_47 : decode cL_isLink 47 = .ok (.invokevirtual 110, 3) := by decide +kernel
theorem dL_isLink_50 : decode cL_isLink 50 = .ok (.aload_n 0, 1) := by decide +kernel
theorem dL_isLink_51 : decode cL_isLink 51 = .ok (.iload_n 1, 1) := by decide +kernel
theorem dL_isLink_52 : decode cL_isLink 52 = .ok (.iconst 2, 1) := by decide +kernel
theorem dL_isLink_53 : decode cL_isLink 53 = .ok (.invokevirtual 110, 3) := by decide +kernel
theorem dL_isLink_56 : decode cL_isLink 56 = .ok (.iload_n 2, 1) := by decide +kernel
theorem dL_isLink_57 : decode cL_isLink 57 = .ok (.isub, 1) := by decide +kernel
theorem dL_isLink_58 : decode cL_isLink 58 = .ok (.if_icmp .ne 17, 3) := by decide +kernel
theorem dL_isLink_61 : decode cL_isLink 61 = .ok (.aload_n 0, 1) := by decide +kernel
theorem dL_isLink_62 : decode cL_isLink 62 = .ok (.iload_n 1, 1) := by decide +kernel
theorem dL_isLink_63 : decode cL_isLink 63 = .ok (.bipush 6, 2) := by decide +kernel
theorem dL_isLink_65 : decode cL_isLink 65 = .ok (.invokevirtual 110, 3) := by decide +kernel
theorem dL_isLink_68 : decode cL_isLink 68 = .ok (.ifCond .lt 7, 3) := by decide +kernel
theorem dL_isLink_71 : decode cL_isLink 71 = .ok (.iconst 1, 1) := by decide +kernel
theorem dL_isLink_72 : decode cL_isLink 72 = .ok (.goto 4, 3) := by decide +kernel
theorem dL_isLink_75 : decode cL_isLink 75 = .ok (.iconst 0, 1) := by decide +kernel
theorem dL_isLink_76 : decode cL_isLink 76 = .ok (.ireturn, 1) := by decide +kernel
theorem dL_isFlow_0 : decode cL_isFlow 0 = .ok (.aload_n 0, 1) := by decide +kernel
theorem dL_isFlow_1 : decode cL_isFlow 1 = .ok (.iload_n 1, 1) := by decide +kernel
theorem dL_isFlow_2 : decode cL_isFlow 2 = .ok (.iload_n 2, 1) := by decide +kernel
theorem dL_isFlow_3 : decode cL_isFlow 3 = .ok (.invokevirtual 122, 3) := by decide +kernel
theorem dL_isFlow_6 : decode cL_isFlow 6 = .ok (.istore_n 3, 1) := by decide +kernel
theorem dL_isFlow_7 : decode cL_isFlow 7 = .ok (.aload_n 0, 1) := by decide +kernel
theorem dL_isFlow_8 : decode cL_isFlow 8 = .ok (.iload_n 1, 1) := by decide +kernel
theorem dL_isFlow_9 : decode cL_isFlow 9 = .ok (.iload_n 2, 1) := by decide +kernel
theorem dL_isFlow_10 : decode cL_isFlow 10 = .ok (.invokevirtual 125, 3) := by decide +kernel
theorem dL_isFlow_13 : decode cL_isFlow 13 = .ok (.istore 4, 2) := by decide +kernel
theorem dL_isFlow_15 : decode cL_isFlow 15 = .ok (.iconst 0, 1) := by decide +kernel
theorem dL_isFlow_16 : decode cL_isFlow 16 = .ok (.istore 5, 2) := by decide +kernel
theorem dL_isFlow_18 : decode cL_isFlow 18 = .ok (.iconst 0, 1) := by decide +kernel
theorem dL_isFlow_19 : decode cL_isFlow 19 = .ok (.istore 6, 2) := by decide +kernel
theorem dL_isFlow_21 : decode cL_isFlow 21 = .ok (.iload 6, 2) := by decide +kernel
theorem dL_isFlow_23 : decode cL_isFlow 23 = .ok (.bipush 9, 2) := by decide +kernel
theorem dL_isFlow_25 : decode cL_isFlow 25 = .ok (.if_icmp .ge 37, 3) := by decide +kernel
theorem dL_isFlow_28 : decode cL_isFlow 28 = .ok (.iload 5, 2) := by decide +kernel
theorem dL_isFlow_30 : decode cL_isFlow 30 = .ok (.iload 4, 2) := by decide +kernel
theorem dL_isFlow_32 : decode cL_isFlow 32 = .ok (.iload 6, 2) := by decide +kernel
theorem dL_isFlow_34 : decode cL_isFlow 34 = .ok (.ishr, 1) := by decide +kernel
theorem dL_isFlow_35 : decode cL_isFlow 35 = .ok (.iconst 1, 1) := by decide +kernel
theorem dL_isFlow_36 : decode cL_isFlow 36 = .ok (.iand, 1) := by decide +kernel
theorem dL_isFlow_37 : decode cL_isFlow 37 = .ok (.iconst 1, 1) := by decide +kernel
theorem dL_isFlow_38 : decode cL_isFlow 38 = .ok (.if_icmp .ne 14, 3) := by decide +kernel
theorem dL_isFlow_41 : decode cL_isFlow 41 = .ok (.aload_n 0, 1) := by decide +kernel
theorem dL_isFlow_42 : decode cL_isFlow 42 = .ok (.iload 6, 2) := by decide +kernel
theorem dL_isFlow_44 : decode cL_isFlow 44 = .ok (.bipush 6, 2) := by decide +kernel
theorem dL_isFlow_46 : decode cL_isFlow 46 = .ok (.invokevirtual 110, 3) := by decide +kernel
theorem dL_isFlow_49 : decode cL_isFlow 49 = .ok (.goto 4, 3) := by decide +kernel
theorem dL_isFlow_52 : decode cL_isFlow 52 = .ok (.iconst 0, 1) := by decide +kernel
theorem dL_isFlow_53 : decode cL_isFlow 53 = .ok (.iadd, 1) := by decide +kernel
theorem dL_isFlow_54 : decode cL_isFlow 54 = .ok (.istore 5, 2) := by decide +kernel
theorem dL_isFlow_56 : decode cL_isFlow 56 = .ok (.iinc 6 1, 3) := by decide +kernel
theorem dL_isFlow_59 : decode cL_isFlow 59 = .ok (.goto (-38), 3) := by decide +kernel
theorem dL_isFlow_62 : decode cL_isFlow 62 = .ok (.aload_n 0, 1) := by decide +kernel
theorem dL_isFlow_63 : decode cL_isFlow 63 = .ok (.iload_n 1, 1) := by decide +kernel
theorem dL_isFlow_64 : decode cL_isFlow 64 = .ok (.iload_n 2, 1) := by decide +kernel
theorem dL_isFlow_65 : decode cL_isFlow 65 = .ok (.invokevirtual 128, 3) := by decide +kernel
theorem dL_isFlow_68 : decode cL_isFlow 68 = .ok (.istore 6, 2) := by decide +kernel
theorem dL_isFlow_70 : decode cL_isFlow 70 = .ok (.iload_n 3, 1) := by decide +kernel
theorem dL_isFlow_71 : decode cL_isFlow 71 = .ok (.iload 5, 2) := by decide +kernel
theorem dL_isFlow_73 : decode cL_isFlow 73 = .ok (.if_icmp .ne 46, 3) := by decide +kernel
theorem dL_isFlow_76 : decode cL_isFlow 76 = .ok (.iload 6, 2) := by decide +kernel
theorem dL_isFlow_78 : decode cL_isFlow 78 = .ok (.iload_n 3, 1) := by decide +kernel
theorem dL_isFlow_79 : decode cL_isFlow 79 = .ok (.if_icmp .gt 40, 3) := by decide +kernel
theorem dL_isFlow_82 : decode cL_isFlow 82 = .ok (.iload 6, 2) := by decide +kernel
theorem dL_isFlow_84 : decode cL_isFlow 84 = .ok (.ifCond .le 7, 3) := by decide +kernel
theorem dL_isFlow_87 : decode cL_isFlow 87 = .ok (.iconst 1, 1) := by decide +kernel
theorem dL_isFlow_88 : decode cL_isFlow 88 = .ok (.goto 4, 3) := by decide +kernel
theorem dL_isFlow_91 : decode cL_isFlow 91 = .ok (.iconst 0, 1) := by decide +kernel
theorem dL_isFlow_92 : decode cL_isFlow 92 = .ok (.iload_n 3, 1) := by decide +kernel
theorem dL_isFlow_93 : decode cL_isFlow 93 = .ok (.ifCond .le 7, 3) := by decide +kernel
theorem dL_isFlow_96 : decode cL_isFlow 96 = .ok (.iconst 1, 1) := by decide +kernel
theorem dL_isFlow_97 : decode cL_isFlow 97 = .ok (.goto 4, 3) := by decide +kernel
theorem dL_isFlow_100 : decode cL_isFlow 100 = .ok (.iconst 0, 1) := by decide +kernel
theorem dL_isFlow_101 : decode cL_isFlow 101 = .ok (.if_icmp .ne 18, 3) := by decide +kernel
theorem dL_isFlow_104 : decode cL_isFlow 104 = .ok (.aload_n 0, 1) := by decide +kernel
theorem dL_isFlow_105 : decode cL_isFlow 105 = .ok (.iload_n 1, 1) := by decide +kernel
theorem dL_isFlow_106 : decode cL_isFlow 106 = .ok (.iload_n 2, 1) := by decide +kernel
theorem dL_isFlow_107 : decode cL_isFlow 107 = .ok (.iconst 1, 1) := by decide +kernel
theorem dL_isFlow_108 : decode cL_isFlow 108 = .ok (.invokevirtual 131, 3) := by decide +kernel
theorem dL_isFlow_111 : decode cL_isFlow 111 = .ok (.iload_n 3, 1) := by decide +kernel
theorem dL_isFlow_112 : decode cL_isFlow 112 = .ok (.if_icmp .gt 7, 3) := by decide +kernel
theorem dL_isFlow_115 : decode cL_isFlow 115 = .ok (.iconst 1, 1) := by decide +kernel
theorem dL_isFlow_116 : decode cL_isFlow 116 = .ok (.goto 4, 3) := by decide +kernel
theorem dL_isFlow_119 : decode cL_isFlow 119 = .ok (.iconst 0, 1) := by decide +kernel
theorem dL_isFlow_120 : decode cL_isFlow 120 = .ok (.istore 7, 2) := by decide +kernel
theorem dL_isFlow_122 : decode cL_isFlow 122 = .ok (.iload 6, 2) := by decide +kernel
theorem dL_isFlow_124 : decode cL_isFlow 124 = .ok (.ifCond .le 66, 3) := by decide +kernel
theorem dL_isFlow_127 : decode cL_isFlow 127 = .ok (.iload 7, 2) := by decide +kernel
theorem dL_isFlow_129 : decode cL_isFlow 129 = .ok (.ifCond .eq 58, 3) := by decide +kernel
theorem dL_isFlow_132 : decode cL_isFlow 132 = .ok (.aload_n 0, 1) := by decide +kernel
theorem dL_isFlow_133 : decode cL_isFlow 133 = .ok (.iload_n 1, 1) := by decide +kernel
theorem dL_isFlow_134 : decode cL_isFlow 134 = .ok (.iload_n 2, 1) := by decide +kernel
theorem dL_isFlow_135 : decode cL_isFlow 135 = .ok (.iload 6, 2) := by decide +kernel
theorem dL_isFlow_137 : decode cL_isFlow 137 = .ok (.invokevirtual 135, 3) := by decide +kernel
theorem dL_isFlow_140 : decode cL_isFlow 140 = .ok (.aload_n 0, 1) := by decide +kernel
theorem dL_isFlow_141 : decode cL_isFlow 141 = .ok (.iload_n 1, 1) := by decide +kernel
theorem dL_isFlow_142 : decode cL_isFlow 142 = .ok (.iload_n 2, 1) := by decide +kernel
theorem dL_isFlow_143 : decode cL_isFlow 143 = .ok (.iconst 0, 1) := by decide +kernel
theorem dL_isFlow_144 : decode cL_isFlow 144 = .ok (.invokevirtual 135, 3) := by decide +kernel
theorem dL_isFlow_147 : decode cL_isFlow 147 = .ok (.if_icmp .lt 40, 3) := by decide +kernel
theorem dL_isFlow_150 : decode cL_isFlow 150 = .ok (.aload_n 0, 1) := by decide +kernel
theorem dL_isFlow_151 : decode cL_isFlow 151 = .ok (.iload_n 1, 1) := by decide +kernel
theorem dL_isFlow_152 : decode cL_isFlow 152 = .ok (.iload_n 2, 1) := by decide +kernel
theorem dL_isFlow_153 : decode cL_isFlow 153 = .ok (.iload 6, 2) := by decide +kernel
theorem dL_isFlow_155 : decode cL_isFlow 155 = .ok (.iconst 1, 1) := by decide +kernel
theorem dL_isFlow_156 : decode cL_isFlow 156 = .ok (.iadd, 1) := by decide +kernel
theorem dL_isFlow_157 : decode cL_isFlow 157 = .ok (.invokevirtual 135, 3) := by decide +kernel
theorem dL_isFlow_160 : decode cL_isFlow 160 = .ok (.iconst (-1), 1) := by decide +kernel
theorem dL_isFlow_161 : decode cL_isFlow 161 = .ok (.if_icmp .ne 26, 3) := by decide +kernel
theorem dL_isFlow_164 : decode cL_isFlow 164 = .ok (.aload_n 0, 1) := by decide +kernel
theorem dL_isFlow_165 : decode cL_isFlow 165 = .ok (.iload_n 1, 1) := by decide +kernel
theorem dL_isFlow_166 : decode cL_isFlow 166 = .ok (.iload_n 2, 1) := by decide +kernel
theorem dL_isFlow_167 : decode cL_isFlow 167 = .ok (.iload 6, 2) := by decide +kernel
theorem dL_isFlow_169 : decode cL_isFlow 169 = .ok (.invokevirtual 138, 3) := by decide +kernel
theorem dL_isFlow_172 : decode cL_isFlow 172 = .ok (.aload_n 0, 1) := by decide +kernel
theorem dL_isFlow_173 : decode cL_isFlow 173 = .ok (.iload_n 1, 1) := by decide +kernel
theorem dL_isFlow_174 : decode cL_isFlow 174 = .ok (.iload_n 2, 1) := by decide +kernel
theorem dL_isFlow_175 : decode cL_isFlow 175 = .ok (.iload 6, 2) := by decide +kernel
theorem dL_isFlow_177 : decode cL_isFlow 177 = .ok (.invokevirtual 141, 3) := by decide +kernel
theorem dL_isFlow_180 : decode cL_isFlow 180 = .ok (.if_icmp .gt 7, 3) := by decide +kernel
theorem dL_isFlow_183 : decode cL_isFlow 183 = .ok (.iconst 1, 1) := by decide +kernel
theorem dL_isFlow_184 : decode cL_isFlow 184 = .ok (.goto 4, 3) := by decide +kernel
theorem dL_isFlow_187 : decode cL_isFlow 187 = .ok (.iconst 0, 1) := by decide +kernel
theorem dL_isFlow_188 : decode cL_isFlow 188 = .ok (.istore 7, 2) := by decide +kernel
theorem dL_isFlow_190 : decode cL_isFlow 190 = .ok (.iload 7, 2) := by decide +kernel
theorem dL_isFlow_192 : decode cL_isFlow 192 = .ok (.ifCond .eq 44, 3) := by decide +kernel
theorem dL_isFlow_195 : decode cL_isFlow 195 = .ok (.aload_n 0, 1) := by decide +kernel
theorem dL_isFlow_196 : decode cL_isFlow 196 = .ok (.iload_n 1, 1) := by decide +kernel
theorem dL_isFlow_197 : decode cL_isFlow 197 = .ok (.iload_n 2, 1) := by decide +kernel
theorem dL_isFlow_198 : decode cL_isFlow 198 = .ok (.iconst 1, 1) := by decide +kernel
theorem dL_isFlow_199 : decode cL_isFlow 199 = .ok (.invokevirtual 135, 3) := by decide +kernel
theorem dL_isFlow_202 : decode cL_isFlow 202 = .ok (.ifCond .lt 7, 3) := by decide +kernel
theorem dL_isFlow_205 : decode cL_isFlow 205 = .ok (.iconst 1, 1) := by decide +kernel
theorem dL_isFlow_206 : decode cL_isFlow 206 = .ok (.goto 4, 3) := by decide +kernel
theorem dL_isFlow_209 : decode cL_isFlow 209 = .ok (.iconst 0, 1) := by decide +kernel
theorem dL_isFlow_210 : decode cL_isFlow 210 = .ok (.aload_n 0, 1) := by decide +kernel
theorem dL_isFlow_211 : decode cL_isFlow 211 = .ok (.iload_n 1, 1) := by decide +kernel
theorem dL_isFlow_212 : decode cL_isFlow 212 = .ok (.iconst 1, 1) := by decide +kernel
theorem dL_isFlow_213 : decode cL_isFlow 213 = .ok (.invokevirtual 144, 3) := by decide +kernel
theorem dL_isFlow_216 : decode cL_isFlow 216 = .ok (.iload_n 2, 1) := by decide +kernel
theorem dL_isFlow_217 : decode cL_isFlow 217 = .ok (.ishr, 1) := by decide +kernel
theorem dL_isFlow_218 : decode cL_isFlow 218 = .ok (.iconst 1, 1) := by decide +kernel
theorem dL_isFlow_219 : decode cL_isFlow 219 = .ok (.iand, 1) := by decide +kernel
theorem dL_isFlow_220 : decode cL_isFlow 220 = .ok (.iconst 1, 1) := by decide +kernel
theorem dL_isFlow_221 : decode cL_isFlow 221 = .ok (.if_icmp .ne 7, 3) := by decide +kernel
theorem dL_isFlow_224 : decode cL_isFlow 224 = .ok (.iconst 1, 1) := by decide +kernel
theorem dL_isFlow_225 : decode cL_isFlow 225 = .ok (.goto 4, 3) := by decide +kernel
theorem dL_isFlow_228 : decode cL_isFlow 228 = .ok (.iconst 0, 1) := by decide +kernel
theorem dL_isFlow_229 : decode cL_isFlow 229 = .ok (.if_icmp .ne 7, 3) := by decide +kernel
theorem dL_isFlow_232 : decode cL_isFlow 232 = .ok (.iconst 1, 1) := by decide +kernel
theorem dL_isFlow_233 : decode cL_isFlow 233 = .ok (.goto 4, 3) := by decide +kernel
theorem dL_isFlow_236 : decode cL_isFlow 236 = .ok (.iconst 0, 1) := by decide +kernel
theorem dL_isFlow_237 : decode cL_isFlow 237 = .ok (.ireturn, 1) := by decide +kernel
theorem dL_whole_0 : decode cL_whole 0 = .ok (.aload_n 0, 1) := by decide +kernel
theorem dL_whole_1 : decode cL_whole 1 = .ok (.invokevirtual 113, 3) := by decide +kernel
theorem dL_whole_4 : decode cL_whole 4 = .ok (.i2l, 1) := by decide +kernel
theorem dL_whole_5 : decode cL_whole 5 = .ok (.ldc2_w 147, 3) := by decide +kernel
theorem dL_whole_8 : decode cL_whole 8 = .ok (.aload_n 0, 1) := by decide +kernel
theorem dL_whole_9 : decode cL_whole 9 = .ok (.invokevirtual 98, 3) := by decide +kernel
theorem dL_whole_12 : decode cL_whole 12 = .ok (.i2l, 1) := by decide +kernel
theorem dL_whole_13 : decode cL_whole 13 = .ok (.lmul, 1) := by decide +kernel
theorem dL_whole_14 : decode cL_whole 14 = .ok (.ladd, 1) := by decide +kernel
theorem dL_whole_15 : decode cL_whole 15 = .ok (.ldc2_w 149, 3) := by decide +kernel
theorem dL_whole_18 : decode cL_whole 18 = .ok (.aload_n 0, 1) := by decide +kernel
theorem dL_whole_19 : decode cL_whole 19 = .ok (.invokevirtual 151, 3) := by decide +kernel
theorem dL_whole_22 : decode cL_whole 22 = .ok (.lmul, 1) := by decide +kernel
theorem dL_whole_23 : decode cL_whole 23 = .ok (.ladd, 1) := by decide +kernel
theorem dL_whole_24 : decode cL_whole 24 = .ok (.lstore_n 1, 1) := by decide +kernel
theorem dL_whole_25 : decode cL_whole 25 = .ok (.iconst 0, 1) := by decide +kernel
theorem dL_whole_26 : decode cL_whole 26 = .ok (.istore_n 3, 1) := by decide +kernel
theorem dL_whole_27 : decode cL_whole 27 = .ok (.iload_n 3, 1) := by decide +kernel
theorem dL_whole_28 : decode cL_whole 28 = .ok (.aload_n 0, 1) := by decide +kernel
theorem dL_whole_29 : decode cL_whole 29 = .ok (.invokevirtual 69, 3) := by decide +kernel
theorem dL_whole_32 : decode cL_whole 32 = .ok (.if_icmp .ge 36, 3) := by decide +kernel
theorem dL_whole_35 : decode cL_whole 35 = .ok (.ldc2_w 155, 3) := by decide +kernel
theorem dL_whole_38 : decode cL_whole 38 = .ok (.lload_n 1, 1) := by decide +kernel
theorem dL_whole_39 : decode cL_whole 39 = .ok (.lmul, 1) := by decide +kernel
theorem dL_whole_40 : decode cL_whole 40 = .ok (.aload_n 0, 1) := by decide +kernel
theorem dL_whole_41 : decode cL_whole 41 = .ok (.iload_n 3, 1) := by decide +kernel
theorem dL_whole_42 : decode cL_whole 42 = .ok (.iconst 4, 1) := by decide +kernel
theorem dL_whole_43 : decode cL_whole 43 = .ok (.invokevirtual 95, 3) := by decide +kernel
theorem dL_whole_46 : decode cL_whole 46 = .ok (.i2l, 1) := by decide +kernel
theorem dL_whole_47 : decode cL_whole 47 = .ok (.ladd, 1) := by decide +kernel
theorem dL_whole_48 : decode cL_whole 48 = .ok (.ldc2_w 157, 3) := by decide +kernel
theorem dL_whole_51 : decode cL_whole 51 = .ok (.aload_n 0, 1) := by decide +kernel
theorem dL_whole_52 : decode cL_whole 52 = .ok (.iload_n 3, 1) := by decide +kernel
theorem dL_whole_53 : decode cL_whole 53 = .ok (.bipush 6, 2) := by decide +kernel
theorem dL_whole_55 : decode cL_whole 55 = .ok (.invokevirtual 95, 3) := by decide +kernel
theorem dL_whole_58 : decode cL_whole 58 = .ok (.i2l, 1) := by decide +kernel
theorem dL_whole_59 : decode cL_whole 59 = .ok (.lmul, 1) := by decide +kernel
theorem dL_whole_60 : decode cL_whole 60 = .ok (.ladd, 1) := by decide +kernel
theorem dL_whole_61 : decode cL_whole 61 = .ok (.lstore_n 1, 1) := by decide +kernel
theorem dL_whole_62 : decode cL_whole 62 = .ok (.iinc 3 1, 3) := by decide +kernel
theorem dL_whole_65 : decode cL_whole 65 = .ok (.goto (-38), 3) := by decide +kernel
theorem dL_whole_68 : decode cL_whole 68 = .ok (.lload_n 1, 1) := by decide +kernel
theorem dL_whole_69 : decode cL_whole 69 = .ok (.lreturn, 1) := by decide +kernel
theorem dL_foresees_0 : decode cL_foresees 0 = .ok (.aload_n 0, 1) := by decide +kernel
theorem dL_foresees_1 : decode cL_foresees 1 = .ok (.invokestatic 159, 3) := by decide +kernel
theorem dL_foresees_4 : decode cL_foresees 4 = .ok (.lstore_n 1, 1) := by decide +kernel
theorem dL_foresees_5 : decode cL_foresees 5 = .ok (.aload_n 0, 1) := by decide +kernel
theorem dL_foresees_6 : decode cL_foresees 6 = .ok (.invokevirtual 163, 3) := by decide +kernel
theorem dL_foresees_9 : decode cL_foresees 9 = .ok (.istore_n 3, 1) := by decide +kernel
theorem dL_foresees_10 : decode cL_foresees 10 = .ok (.aload_n 0, 1) := by decide +kernel
theorem dL_foresees_11 : decode cL_foresees 11 = .ok (.bipush 30, 2) := by decide +kernel
theorem dL_foresees_13 : decode cL_foresees 13 = .ok (.invokevirtual 166, 3) := by decide +kernel
theorem dL_foresees_16 : decode cL_foresees 16 = .ok (.lstore 4, 2) := by decide +kernel
theorem dL_foresees_18 : decode cL_foresees 18 = .ok (.aload_n 0, 1) := by decide +kernel
theorem dL_foresees_19 : decode cL_foresees 19 = .ok (.iconst 0, 1) := by decide +kernel
theorem dL_foresees_20 : decode cL_foresees 20 = .ok (.bipush 9, 2) := by decide +kernel
theorem dL_foresees_22 : decode cL_foresees 22 = .ok (.invokevirtual 170, 3) := by decide +kernel
theorem dL_foresees_25 : decode cL_foresees 25 = .ok (.aload_n 0, 1) := by decide +kernel
theorem dL_foresees_26 : decode cL_foresees 26 = .ok (.iconst 0, 1) := by decide +kernel
theorem dL_foresees_27 : decode cL_foresees 27 = .ok (.iconst 1, 1) := by decide +kernel
theorem dL_foresees_28 : decode cL_foresees 28 = .ok (.invokevirtual 173, 3) := by decide +kernel
theorem dL_foresees_31 : decode cL_foresees 31 = .ok (.iadd, 1) := by decide +kernel
theorem dL_foresees_32 : decode cL_foresees 32 = .ok (.istore 6, 2) := by decide +kernel
theorem dL_foresees_34 : decode cL_foresees 34 = .ok (.aload_n 0, 1) := by decide +kernel
theorem dL_foresees_35 : decode cL_foresees 35 = .ok (.invokevirtual 69, 3) := by decide +kernel
theorem dL_foresees_38 : decode cL_foresees 38 = .ok (.ifCond .ne 7, 3) := by decide +kernel
theorem dL_foresees_41 : decode cL_foresees 41 = .ok (.iconst (-1), 1) := by decide +kernel
theorem dL_foresees_42 : decode cL_foresees 42 = .ok (.goto 8, 3) := by decide +kernel
theorem dL_foresees_45 : decode cL_foresees 45 = .ok (.aload_n 0, 1) := by decide +kernel
theorem dL_foresees_46 : decode cL_foresees 46 = .ok (.iconst 0, 1) := by decide +kernel
theorem dL_foresees_47 : decode cL_foresees 47 = .ok (.invokevirtual 176, 3) := by decide +kernel
theorem dL_foresees_50 : decode cL_foresees 50 = .ok (.istore 7, 2) := by decide +kernel
theorem dL_foresees_52 : decode cL_foresees 52 = .ok (.aload_n 0, 1) := by decide +kernel
theorem dL_foresees_53 : decode cL_foresees 53 = .ok (.invokestatic 159, 3) := by decide +kernel
theorem dL_foresees_56 : decode cL_foresees 56 = .ok (.lload_n 1, 1) := by decide +kernel
theorem dL_foresees_57 : decode cL_foresees 57 = .ok (.lcmp, 1) := by decide +kernel
theorem dL_foresees_58 : decode cL_foresees 58 = .ok (.ifCond .ne 14, 3) := by decide +kernel
theorem dL_foresees_61 : decode cL_foresees 61 = .ok (.iload 6, 2) := by decide +kernel
theorem dL_foresees_63 : decode cL_foresees 63 = .ok (.bipush (-9), 2) := by decide +kernel
theorem dL_foresees_65 : decode cL_foresees 65 = .ok (.if_icmp .lt 7, 3) := by decide +kernel
theorem dL_foresees_68 : decode cL_foresees 68 = .ok (.iload_n 3, 1) := by decide +kernel
theorem dL_foresees_69 : decode cL_foresees 69 = .ok (.ifCond .ge 5, 3) := by decide +kernel
theorem dL_foresees_72 : decode cL_foresees 72 = .ok (.iconst 0, 1) := by decide +kernel
theorem dL_foresees_73 : decode cL_foresees 73 = .ok (.ireturn, 1) := by decide +kernel
theorem dL_foresees_74 : decode cL_foresees 74 = .ok (.aload_n 0, 1) := by decide +kernel
theorem dL_foresees_75 : decode cL_foresees 75 = .ok (.iconst 1, 1) := by decide +kernel
theorem dL_foresees_76 : decode cL_foresees 76 = .ok (.invokevirtual 179, 3) := by decide +kernel
theorem dL_foresees_79 : decode cL_foresees 79 = .ok (.istore 8, 2) := by decide +kernel
theorem dL_foresees_81 : decode cL_foresees 81 = .ok (.iload 7, 2) := by decide +kernel
theorem dL_foresees_83 : decode cL_foresees 83 = .ok (.ifCond .le 29, 3) := by decide +kernel
theorem dL_foresees_86 : decode cL_foresees 86 = .ok (.aload_n 0, 1) := by decide +kernel
theorem dL_foresees_87 : decode cL_foresees 87 = .ok (.iconst 0, 1) := by decide +kernel
theorem dL_foresees_88 : decode cL_foresees 88 = .ok (.iload 7, 2) := by decide +kernel
theorem dL_foresees_90 : decode cL_foresees 90 = .ok (.invokevirtual 182, 3) := by decide +kernel
theorem dL_foresees_93 : decode cL_foresees 93 = .ok (.iconst 2, 1) := by decide +kernel
theorem dL_foresees_94 : decode cL_foresees 94 = .ok (.if_icmp .ne 16, 3) := by decide +kernel
theorem dL_foresees_97 : decode cL_foresees 97 = .ok (.aload_n 0, 1) := by decide +kernel
theorem dL_foresees_98 : decode cL_foresees 98 = .ok (.iconst 0, 1) := by decide +kernel
theorem dL_foresees_99 : decode cL_foresees 99 = .ok (.iload 7, 2) := by decide +kernel
theorem dL_foresees_101 : decode cL_foresees 101 = .ok (.iconst 1, 1) := by decide +kernel
theorem dL_foresees_102 : decode cL_foresees 102 = .ok (.isub, 1) := by decide +kernel
theorem dL_foresees_103 : decode cL_foresees 103 = .ok (.invokevirtual 182, 3) := by decide +kernel
theorem dL_foresees_106 : decode cL_foresees 106 = .ok (.iconst 2, 1) := by decide +kernel
theorem dL_foresees_107 : decode cL_foresees 107 = .ok (.if_icmp .ne 5, 3) := by decide +kernel
theorem dL_foresees_110 : decode cL_foresees 110 = .ok (.iconst 0, 1) := by decide +kernel
theorem dL_foresees_111 : decode cL_foresees 111 = .ok (.ireturn, 1) := by decide +kernel
theorem dL_foresees_112 : decode cL_foresees 112 = .ok (.aload_n 0, 1) := by decide +kernel
theorem dL_foresees_113 : decode cL_foresees 113 = .ok (.bipush 30, 2) := by decide +kernel
theorem dL_foresees_115 : decode cL_foresees 115 = .ok (.invokevirtual 88, 3) := by decide +kernel
theorem dL_foresees_118 : decode cL_foresees 118 = .ok (.pop, 1) := by decide +kernel
theorem dL_foresees_119 : decode cL_foresees 119 = .ok (.aload_n 0, 1) := by decide +kernel
theorem dL_foresees_120 : decode cL_foresees 120 = .ok (.invokevirtual 151, 3) := by decide +kernel
theorem dL_foresees_123 : decode cL_foresees 123 = .ok (.lload 4, 2) := by decide +kernel
theorem dL_foresees_125 : decode cL_foresees 125 = .ok (.lcmp, 1) := by decide +kernel
theorem dL_foresees_126 : decode cL_foresees 126 = .ok (.ifCond .eq 5, 3) := by decide +kernel
theorem dL_foresees_129 : decode cL_foresees 129 = .ok (.iconst 0, 1) := by decide +kernel
theorem dL_foresees_130 : decode cL_foresees 130 = .ok (.ireturn, 1) := by decide +kernel
theorem dL_foresees_131 : decode cL_foresees 131 = .ok (.iload_n 3, 1) := by decide +kernel
theorem dL_foresees_132 : decode cL_foresees 132 = .ok (.ifCond .le 47, 3) := by decide +kernel
theorem dL_foresees_135 : decode cL_foresees 135 = .ok (.iload_n 3, 1) := by decide +kernel
theorem dL_foresees_136 : decode cL_foresees 136 = .ok (.sipush 1000, 3) := by decide +kernel
theorem dL_foresees_139 : decode cL_foresees 139 = .ok (.if_icmp .gt 40, 3) := by decide +kernel
theorem dL_foresees_142 : decode cL_foresees 142 = .ok (.aload_n 0, 1) := by decide +kernel
theorem dL_foresees_143 : decode cL_foresees 143 = .ok (.iconst 1, 1) := by decide +kernel
theorem dL_foresees_144 : decode cL_foresees 144 = .ok (.invokevirtual 185, 3) := by decide +kernel
theorem dL_foresees_147 : decode cL_foresees 147 = .ok (.pop, 1) := by decide +kernel
theorem dL_foresees_148 : decode cL_foresees 148 = .ok (.aload_n 0, 1) := by decide +kernel
theorem dL_foresees_149 : decode cL_foresees 149 = .ok (.iload_n 3, 1) := by decide +kernel
theorem dL_foresees_150 : decode cL_foresees 150 = .ok (.invokevirtual 88, 3) := by decide +kernel
theorem dL_foresees_153 : decode cL_foresees 153 = .ok (.pop, 1) := by decide +kernel
theorem dL_foresees_154 : decode cL_foresees 154 = .ok (.aload_n 0, 1) := by decide +kernel
theorem dL_foresees_155 : decode cL_foresees 155 = .ok (.invokevirtual 113, 3) := by decide +kernel
theorem dL_foresees_158 : decode cL_foresees 158 = .ok (.iload 8, 2) := by decide +kernel
theorem dL_foresees_160 : decode cL_foresees 160 = .ok (.iload_n 3, 1) := by decide +kernel
theorem dL_foresees_161 : decode cL_foresees 161 = .ok (.iadd, 1) := by decide +kernel
theorem dL_foresees_162 : decode cL_foresees 162 = .ok (.if_icmp .ne 15, 3) := by decide +kernel
theorem dL_foresees_165 : decode cL_foresees 165 = .ok (.aload_n 0, 1) := by decide +kernel
theorem dL_foresees_166 : decode cL_foresees 166 = .ok (.invokevirtual 188, 3) := by decide +kernel
theorem dL_foresees_169 : decode cL_foresees 169 = .ok (.iconst (-1), 1) := by decide +kernel
theorem dL_foresees_170 : decode cL_foresees 170 = .ok (.if_icmp .ne 7, 3) := by decide +kernel
theorem dL_foresees_173 : decode cL_foresees 173 = .ok (.iconst 1, 1) := by decide +kernel
theorem dL_foresees_174 : decode cL_foresees 174 = .ok (.goto 4, 3) := by decide +kernel
theorem dL_foresees_177 : decode cL_foresees 177 = .ok (.iconst 0, 1) := by decide +kernel
