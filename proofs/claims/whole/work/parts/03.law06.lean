/-! THE LAW'S OWN BODY, instruction by instruction: 1005 to 1165 -/
def dl_5 : List (Nat × Instr × Nat) := [(1005, .iaload, 1), (1006, .invokevirtual 210, 3), (1009, .istore 6, 2), (1011, .aload_n 2, 1), (1012, .invokevirtual 179, 3), (1015, .iload 5, 2), (1017, .if_icmp .eq 5, 3), (1020, .iconst 0, 1), (1021, .ireturn, 1), (1022, .iload 5, 2), (1024, .ifCond .ne 15, 3), (1027, .aload_n 3, 1), (1028, .iconst 0, 1), (1029, .laload, 1), (1030, .iload 6, 2), (1032, .i2l, 1), (1033, .lcmp, 1), (1034, .ifCond .eq 5, 3), (1037, .iconst 0, 1), (1038, .ireturn, 1), (1039, .goto 2217, 3), (1042, .aload_n 1, 1), (1043, .aload_n 0, 1), (1044, .iload 4, 2), (1046, .iconst 1, 1), (1047, .iadd, 1), (1048, .iaload, 1), (1049, .aload_n 3, 1), (1050, .invokestatic 211, 3), (1053, .istore 5, 2), (1055, .aload_n 2, 1), (1056, .aload_n 0, 1), (1057, .iload 4, 2), (1059, .iconst 1, 1), (1060, .iadd, 1), (1061, .iaload, 1), (1062, .invokevirtual 213, 3), (1065, .istore 6, 2), (1067, .aload_n 2, 1), (1068, .invokevirtual 179, 3), (1071, .iload 5, 2), (1073, .if_icmp .eq 5, 3), (1076, .iconst 0, 1), (1077, .ireturn, 1), (1078, .iload 5, 2), (1080, .ifCond .ne 15, 3), (1083, .aload_n 3, 1), (1084, .iconst 0, 1), (1085, .laload, 1), (1086, .iload 6, 2), (1088, .i2l, 1), (1089, .lcmp, 1), (1090, .ifCond .eq 5, 3), (1093, .iconst 0, 1), (1094, .ireturn, 1), (1095, .goto 2161, 3), (1098, .aload_n 1, 1), (1099, .invokevirtual 214, 3), (1102, .aload_n 2, 1), (1103, .invokevirtual 217, 3), (1106, .if_icmp .eq 2150, 3), (1109, .iconst 0, 1), (1110, .ireturn, 1), (1111, .aload_n 1, 1), (1112, .invokevirtual 218, 3), (1115, .aload_n 2, 1), (1116, .invokevirtual 221, 3), (1119, .if_icmp .eq 2137, 3), (1122, .iconst 0, 1), (1123, .ireturn, 1), (1124, .aload_n 1, 1), (1125, .aload_n 0, 1), (1126, .iload 4, 2), (1128, .iconst 1, 1), (1129, .iadd, 1), (1130, .iaload, 1), (1131, .aload_n 0, 1), (1132, .iload 4, 2), (1134, .iconst 2, 1), (1135, .iadd, 1), (1136, .iaload, 1), (1137, .aload_n 3, 1), (1138, .invokestatic 222, 3), (1141, .istore 5, 2), (1143, .aload_n 2, 1), (1144, .aload_n 0, 1), (1145, .iload 4, 2), (1147, .iconst 1, 1), (1148, .iadd, 1), (1149, .iaload, 1), (1150, .aload_n 0, 1), (1151, .iload 4, 2), (1153, .iconst 2, 1), (1154, .iadd, 1), (1155, .iaload, 1), (1156, .invokevirtual 224, 3), (1159, .istore 6, 2), (1161, .aload_n 2, 1), (1162, .invokevirtual 179, 3), (1165, .iload 5, 2)]
theorem dl_5_ok : ∀ q ∈ dl_5, decode code q.1 = .ok (q.2.1, q.2.2) := by decide +kernel
theorem dl_5_x (k : Nat) {pc : Nat} {i : Instr} {n : Nat} (h : dl_5[k]? = some (pc, i, n)) : decode code pc = .ok (i, n) := dl_5_ok (pc, i, n) (List.mem_of_getElem? h)
theorem dM_1005 : decode code 1005 = .ok (.iaload, 1) := dl_5_x 0 rfl
theorem dM_1006 : decode code 1006 = .ok (.invokevirtual 210, 3) := dl_5_x 1 rfl
theorem dM_1009 : decode code 1009 = .ok (.istore 6, 2) := dl_5_x 2 rfl
theorem dM_1011 : decode code 1011 = .ok (.aload_n 2, 1) := dl_5_x 3 rfl
theorem dM_1012 : decode code 1012 = .ok (.invokevirtual 179, 3) := dl_5_x 4 rfl
theorem dM_1015 : decode code 1015 = .ok (.iload 5, 2) := dl_5_x 5 rfl
theorem dM_1017 : decode code 1017 = .ok (.if_icmp .eq 5, 3) := dl_5_x 6 rfl
theorem dM_1020 : decode code 1020 = .ok (.iconst 0, 1) := dl_5_x 7 rfl
theorem dM_1021 : decode code 1021 = .ok (.ireturn, 1) := dl_5_x 8 rfl
theorem dM_1022 : decode code 1022 = .ok (.iload 5, 2) := dl_5_x 9 rfl
theorem dM_1024 : decode code 1024 = .ok (.ifCond .ne 15, 3) := dl_5_x 10 rfl
theorem dM_1027 : decode code 1027 = .ok (.aload_n 3, 1) := dl_5_x 11 rfl
theorem dM_1028 : decode code 1028 = .ok (.iconst 0, 1) := dl_5_x 12 rfl
theorem dM_1029 : decode code 1029 = .ok (.laload, 1) := dl_5_x 13 rfl
theorem dM_1030 : decode code 1030 = .ok (.iload 6, 2) := dl_5_x 14 rfl
theorem dM_1032 : decode code 1032 = .ok (.i2l, 1) := dl_5_x 15 rfl
theorem dM_1033 : decode code 1033 = .ok (.lcmp, 1) := dl_5_x 16 rfl
theorem dM_1034 : decode code 1034 = .ok (.ifCond .eq 5, 3) := dl_5_x 17 rfl
theorem dM_1037 : decode code 1037 = .ok (.iconst 0, 1) := dl_5_x 18 rfl
theorem dM_1038 : decode code 1038 = .ok (.ireturn, 1) := dl_5_x 19 rfl
theorem dM_1039 : decode code 1039 = .ok (.goto 2217, 3) := dl_5_x 20 rfl
theorem dM_1042 : decode code 1042 = .ok (.aload_n 1, 1) := dl_5_x 21 rfl
theorem dM_1043 : decode code 1043 = .ok (.aload_n 0, 1) := dl_5_x 22 rfl
theorem dM_1044 : decode code 1044 = .ok (.iload 4, 2) := dl_5_x 23 rfl
theorem dM_1046 : decode code 1046 = .ok (.iconst 1, 1) := dl_5_x 24 rfl
theorem dM_1047 : decode code 1047 = .ok (.iadd, 1) := dl_5_x 25 rfl
theorem dM_1048 : decode code 1048 = .ok (.iaload, 1) := dl_5_x 26 rfl
theorem dM_1049 : decode code 1049 = .ok (.aload_n 3, 1) := dl_5_x 27 rfl
theorem dM_1050 : decode code 1050 = .ok (.invokestatic 211, 3) := dl_5_x 28 rfl
theorem dM_1053 : decode code 1053 = .ok (.istore 5, 2) := dl_5_x 29 rfl
theorem dM_1055 : decode code 1055 = .ok (.aload_n 2, 1) := dl_5_x 30 rfl
theorem dM_1056 : decode code 1056 = .ok (.aload_n 0, 1) := dl_5_x 31 rfl
theorem dM_1057 : decode code 1057 = .ok (.iload 4, 2) := dl_5_x 32 rfl
theorem dM_1059 : decode code 1059 = .ok (.iconst 1, 1) := dl_5_x 33 rfl
theorem dM_1060 : decode code 1060 = .ok (.iadd, 1) := dl_5_x 34 rfl
theorem dM_1061 : decode code 1061 = .ok (.iaload, 1) := dl_5_x 35 rfl
theorem dM_1062 : decode code 1062 = .ok (.invokevirtual 213, 3) := dl_5_x 36 rfl
theorem dM_1065 : decode code 1065 = .ok (.istore 6, 2) := dl_5_x 37 rfl
theorem dM_1067 : decode code 1067 = .ok (.aload_n 2, 1) := dl_5_x 38 rfl
theorem dM_1068 : decode code 1068 = .ok (.invokevirtual 179, 3) := dl_5_x 39 rfl
theorem dM_1071 : decode code 1071 = .ok (.iload 5, 2) := dl_5_x 40 rfl
theorem dM_1073 : decode code 1073 = .ok (.if_icmp .eq 5, 3) := dl_5_x 41 rfl
theorem dM_1076 : decode code 1076 = .ok (.iconst 0, 1) := dl_5_x 42 rfl
theorem dM_1077 : decode code 1077 = .ok (.ireturn, 1) := dl_5_x 43 rfl
theorem dM_1078 : decode code 1078 = .ok (.iload 5, 2) := dl_5_x 44 rfl
theorem dM_1080 : decode code 1080 = .ok (.ifCond .ne 15, 3) := dl_5_x 45 rfl
theorem dM_1083 : decode code 1083 = .ok (.aload_n 3, 1) := dl_5_x 46 rfl
theorem dM_1084 : decode code 1084 = .ok (.iconst 0, 1) := dl_5_x 47 rfl
theorem dM_1085 : decode code 1085 = .ok (.laload, 1) := dl_5_x 48 rfl
theorem dM_1086 : decode code 1086 = .ok (.iload 6, 2) := dl_5_x 49 rfl
theorem dM_1088 : decode code 1088 = .ok (.i2l, 1) := dl_5_x 50 rfl
theorem dM_1089 : decode code 1089 = .ok (.lcmp, 1) := dl_5_x 51 rfl
theorem dM_1090 : decode code 1090 = .ok (.ifCond .eq 5, 3) := dl_5_x 52 rfl
theorem dM_1093 : decode code 1093 = .ok (.iconst 0, 1) := dl_5_x 53 rfl
theorem dM_1094 : decode code 1094 = .ok (.ireturn, 1) := dl_5_x 54 rfl
theorem dM_1095 : decode code 1095 = .ok (.goto 2161, 3) := dl_5_x 55 rfl
theorem dM_1098 : decode code 1098 = .ok (.aload_n 1, 1) := dl_5_x 56 rfl
theorem dM_1099 : decode code 1099 = .ok (.invokevirtual 214, 3) := dl_5_x 57 rfl
theorem dM_1102 : decode code 1102 = .ok (.aload_n 2, 1) := dl_5_x 58 rfl
theorem dM_1103 : decode code 1103 = .ok (.invokevirtual 217, 3) := dl_5_x 59 rfl
theorem dM_1106 : decode code 1106 = .ok (.if_icmp .eq 2150, 3) := dl_5_x 60 rfl
theorem dM_1109 : decode code 1109 = .ok (.iconst 0, 1) := dl_5_x 61 rfl
theorem dM_1110 : decode code 1110 = .ok (.ireturn, 1) := dl_5_x 62 rfl
theorem dM_1111 : decode code 1111 = .ok (.aload_n 1, 1) := dl_5_x 63 rfl
theorem dM_1112 : decode code 1112 = .ok (.invokevirtual 218, 3) := dl_5_x 64 rfl
theorem dM_1115 : decode code 1115 = .ok (.aload_n 2, 1) := dl_5_x 65 rfl
theorem dM_1116 : decode code 1116 = .ok (.invokevirtual 221, 3) := dl_5_x 66 rfl
theorem dM_1119 : decode code 1119 = .ok (.if_icmp .eq 2137, 3) := dl_5_x 67 rfl
theorem dM_1122 : decode code 1122 = .ok (.iconst 0, 1) := dl_5_x 68 rfl
theorem dM_1123 : decode code 1123 = .ok (.ireturn, 1) := dl_5_x 69 rfl
theorem dM_1124 : decode code 1124 = .ok (.aload_n 1, 1) := dl_5_x 70 rfl
theorem dM_1125 : decode code 1125 = .ok (.aload_n 0, 1) := dl_5_x 71 rfl
theorem dM_1126 : decode code 1126 = .ok (.iload 4, 2) := dl_5_x 72 rfl
theorem dM_1128 : decode code 1128 = .ok (.iconst 1, 1) := dl_5_x 73 rfl
theorem dM_1129 : decode code 1129 = .ok (.iadd, 1) := dl_5_x 74 rfl
theorem dM_1130 : decode code 1130 = .ok (.iaload, 1) := dl_5_x 75 rfl
theorem dM_1131 : decode code 1131 = .ok (.aload_n 0, 1) := dl_5_x 76 rfl
theorem dM_1132 : decode code 1132 = .ok (.iload 4, 2) := dl_5_x 77 rfl
theorem dM_1134 : decode code 1134 = .ok (.iconst 2, 1) := dl_5_x 78 rfl
theorem dM_1135 : decode code 1135 = .ok (.iadd, 1) := dl_5_x 79 rfl
theorem dM_1136 : decode code 1136 = .ok (.iaload, 1) := dl_5_x 80 rfl
theorem dM_1137 : decode code 1137 = .ok (.aload_n 3, 1) := dl_5_x 81 rfl
theorem dM_1138 : decode code 1138 = .ok (.invokestatic 222, 3) := dl_5_x 82 rfl
theorem dM_1141 : decode code 1141 = .ok (.istore 5, 2) := dl_5_x 83 rfl
theorem dM_1143 : decode code 1143 = .ok (.aload_n 2, 1) := dl_5_x 84 rfl
theorem dM_1144 : decode code 1144 = .ok (.aload_n 0, 1) := dl_5_x 85 rfl
theorem dM_1145 : decode code 1145 = .ok (.iload 4, 2) := dl_5_x 86 rfl
theorem dM_1147 : decode code 1147 = .ok (.iconst 1, 1) := dl_5_x 87 rfl
theorem dM_1148 : decode code 1148 = .ok (.iadd, 1) := dl_5_x 88 rfl
theorem dM_1149 : decode code 1149 = .ok (.iaload, 1) := dl_5_x 89 rfl
theorem dM_1150 : decode code 1150 = .ok (.aload_n 0, 1) := dl_5_x 90 rfl
theorem dM_1151 : decode code 1151 = .ok (.iload 4, 2) := dl_5_x 91 rfl
theorem dM_1153 : decode code 1153 = .ok (.iconst 2, 1) := dl_5_x 92 rfl
theorem dM_1154 : decode code 1154 = .ok (.iadd, 1) := dl_5_x 93 rfl
theorem dM_1155 : decode code 1155 = .ok (.iaload, 1) := dl_5_x 94 rfl
theorem dM_1156 : decode code 1156 = .ok (.invokevirtual 224, 3) := dl_5_x 95 rfl
theorem dM_1159 : decode code 1159 = .ok (.istore 6, 2) := dl_5_x 96 rfl
theorem dM_1161 : decode code 1161 = .ok (.aload_n 2, 1) := dl_5_x 97 rfl
theorem dM_1162 : decode code 1162 = .ok (.invokevirtual 179, 3) := dl_5_x 98 rfl
theorem dM_1165 : decode code 1165 = .ok (.iload 5, 2) := dl_5_x 99 rfl
