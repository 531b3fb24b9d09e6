/-! THE LAW'S OWN BODY, instruction by instruction: 1167 to 1321 -/
def dl_6 : List (Nat × Instr × Nat) := [(1167, .if_icmp .eq 5, 3), (1170, .iconst 0, 1), (1171, .ireturn, 1), (1172, .iload 5, 2), (1174, .ifCond .ne 15, 3), (1177, .aload_n 3, 1), (1178, .iconst 0, 1), (1179, .laload, 1), (1180, .iload 6, 2), (1182, .i2l, 1), (1183, .lcmp, 1), (1184, .ifCond .eq 5, 3), (1187, .iconst 0, 1), (1188, .ireturn, 1), (1189, .goto 2067, 3), (1192, .aload_n 1, 1), (1193, .aload_n 0, 1), (1194, .iload 4, 2), (1196, .iconst 1, 1), (1197, .iadd, 1), (1198, .iaload, 1), (1199, .aload_n 3, 1), (1200, .invokestatic 225, 3), (1203, .istore 5, 2), (1205, .aload_n 2, 1), (1206, .aload_n 0, 1), (1207, .iload 4, 2), (1209, .iconst 1, 1), (1210, .iadd, 1), (1211, .iaload, 1), (1212, .invokevirtual 227, 3), (1215, .istore 6, 2), (1217, .aload_n 2, 1), (1218, .invokevirtual 179, 3), (1221, .iload 5, 2), (1223, .if_icmp .eq 5, 3), (1226, .iconst 0, 1), (1227, .ireturn, 1), (1228, .iload 5, 2), (1230, .ifCond .ne 15, 3), (1233, .aload_n 3, 1), (1234, .iconst 0, 1), (1235, .laload, 1), (1236, .iload 6, 2), (1238, .i2l, 1), (1239, .lcmp, 1), (1240, .ifCond .eq 5, 3), (1243, .iconst 0, 1), (1244, .ireturn, 1), (1245, .goto 2011, 3), (1248, .aload_n 1, 1), (1249, .aload_n 0, 1), (1250, .iload 4, 2), (1252, .iconst 1, 1), (1253, .iadd, 1), (1254, .iaload, 1), (1255, .aload_n 0, 1), (1256, .iload 4, 2), (1258, .iconst 2, 1), (1259, .iadd, 1), (1260, .iaload, 1), (1261, .aload_n 3, 1), (1262, .invokestatic 228, 3), (1265, .istore 5, 2), (1267, .aload_n 2, 1), (1268, .aload_n 0, 1), (1269, .iload 4, 2), (1271, .iconst 1, 1), (1272, .iadd, 1), (1273, .iaload, 1), (1274, .aload_n 0, 1), (1275, .iload 4, 2), (1277, .iconst 2, 1), (1278, .iadd, 1), (1279, .iaload, 1), (1280, .invokevirtual 230, 3), (1283, .istore 6, 2), (1285, .aload_n 2, 1), (1286, .invokevirtual 179, 3), (1289, .iload 5, 2), (1291, .if_icmp .eq 5, 3), (1294, .iconst 0, 1), (1295, .ireturn, 1), (1296, .iload 5, 2), (1298, .ifCond .ne 15, 3), (1301, .aload_n 3, 1), (1302, .iconst 0, 1), (1303, .laload, 1), (1304, .iload 6, 2), (1306, .i2l, 1), (1307, .lcmp, 1), (1308, .ifCond .eq 5, 3), (1311, .iconst 0, 1), (1312, .ireturn, 1), (1313, .goto 1943, 3), (1316, .aload_n 1, 1), (1317, .aload_n 0, 1), (1318, .iload 4, 2), (1320, .iconst 1, 1), (1321, .iadd, 1)]
theorem dl_6_ok : ∀ q ∈ dl_6, decode code q.1 = .ok (q.2.1, q.2.2) := by decide +kernel
theorem dl_6_x (k : Nat) {pc : Nat} {i : Instr} {n : Nat} (h : dl_6[k]? = some (pc, i, n)) : decode code pc = .ok (i, n) := dl_6_ok (pc, i, n) (List.mem_of_getElem? h)
theorem dM_1167 : decode code 1167 = .ok (.if_icmp .eq 5, 3) := dl_6_x 0 rfl
theorem dM_1170 : decode code 1170 = .ok (.iconst 0, 1) := dl_6_x 1 rfl
theorem dM_1171 : decode code 1171 = .ok (.ireturn, 1) := dl_6_x 2 rfl
theorem dM_1172 : decode code 1172 = .ok (.iload 5, 2) := dl_6_x 3 rfl
theorem dM_1174 : decode code 1174 = .ok (.ifCond .ne 15, 3) := dl_6_x 4 rfl
theorem dM_1177 : decode code 1177 = .ok (.aload_n 3, 1) := dl_6_x 5 rfl
theorem dM_1178 : decode code 1178 = .ok (.iconst 0, 1) := dl_6_x 6 rfl
theorem dM_1179 : decode code 1179 = .ok (.laload, 1) := dl_6_x 7 rfl
theorem dM_1180 : decode code 1180 = .ok (.iload 6, 2) := dl_6_x 8 rfl
theorem dM_1182 : decode code 1182 = .ok (.i2l, 1) := dl_6_x 9 rfl
theorem dM_1183 : decode code 1183 = .ok (.lcmp, 1) := dl_6_x 10 rfl
theorem dM_1184 : decode code 1184 = .ok (.ifCond .eq 5, 3) := dl_6_x 11 rfl
theorem dM_1187 : decode code 1187 = .ok (.iconst 0, 1) := dl_6_x 12 rfl
theorem dM_1188 : decode code 1188 = .ok (.ireturn, 1) := dl_6_x 13 rfl
theorem dM_1189 : decode code 1189 = .ok (.goto 2067, 3) := dl_6_x 14 rfl
theorem dM_1192 : decode code 1192 = .ok (.aload_n 1, 1) := dl_6_x 15 rfl
theorem dM_1193 : decode code 1193 = .ok (.aload_n 0, 1) := dl_6_x 16 rfl
theorem dM_1194 : decode code 1194 = .ok (.iload 4, 2) := dl_6_x 17 rfl
theorem dM_1196 : decode code 1196 = .ok (.iconst 1, 1) := dl_6_x 18 rfl
theorem dM_1197 : decode code 1197 = .ok (.iadd, 1) := dl_6_x 19 rfl
theorem dM_1198 : decode code 1198 = .ok (.iaload, 1) := dl_6_x 20 rfl
theorem dM_1199 : decode code 1199 = .ok (.aload_n 3, 1) := dl_6_x 21 rfl
theorem dM_1200 : decode code 1200 = .ok (.invokestatic 225, 3) := dl_6_x 22 rfl
theorem dM_1203 : decode code 1203 = .ok (.istore 5, 2) := dl_6_x 23 rfl
theorem dM_1205 : decode code 1205 = .ok (.aload_n 2, 1) := dl_6_x 24 rfl
theorem dM_1206 : decode code 1206 = .ok (.aload_n 0, 1) := dl_6_x 25 rfl
theorem dM_1207 : decode code 1207 = .ok (.iload 4, 2) := dl_6_x 26 rfl
theorem dM_1209 : decode code 1209 = .ok (.iconst 1, 1) := dl_6_x 27 rfl
theorem dM_1210 : decode code 1210 = .ok (.iadd, 1) := dl_6_x 28 rfl
theorem dM_1211 : decode code 1211 = .ok (.iaload, 1) := dl_6_x 29 rfl
theorem dM_1212 : decode code 1212 = .ok (.invokevirtual 227, 3) := dl_6_x 30 rfl
theorem dM_1215 : decode code 1215 = .ok (.istore 6, 2) := dl_6_x 31 rfl
theorem dM_1217 : decode code 1217 = .ok (.aload_n 2, 1) := dl_6_x 32 rfl
theorem dM_1218 : decode code 1218 = .ok (.invokevirtual 179, 3) := dl_6_x 33 rfl
theorem dM_1221 : decode code 1221 = .ok (.iload 5, 2) := dl_6_x 34 rfl
theorem dM_1223 : decode code 1223 = .ok (.if_icmp .eq 5, 3) := dl_6_x 35 rfl
theorem dM_1226 : decode code 1226 = .ok (.iconst 0, 1) := dl_6_x 36 rfl
theorem dM_1227 : decode code 1227 = .ok (.ireturn, 1) := dl_6_x 37 rfl
theorem dM_1228 : decode code 1228 = .ok (.iload 5, 2) := dl_6_x 38 rfl
theorem dM_1230 : decode code 1230 = .ok (.ifCond .ne 15, 3) := dl_6_x 39 rfl
theorem dM_1233 : decode code 1233 = .ok (.aload_n 3, 1) := dl_6_x 40 rfl
theorem dM_1234 : decode code 1234 = .ok (.iconst 0, 1) := dl_6_x 41 rfl
theorem dM_1235 : decode code 1235 = .ok (.laload, 1) := dl_6_x 42 rfl
theorem dM_1236 : decode code 1236 = .ok (.iload 6, 2) := dl_6_x 43 rfl
theorem dM_1238 : decode code 1238 = .ok (.i2l, 1) := dl_6_x 44 rfl
theorem dM_1239 : decode code 1239 = .ok (.lcmp, 1) := dl_6_x 45 rfl
theorem dM_1240 : decode code 1240 = .ok (.ifCond .eq 5, 3) := dl_6_x 46 rfl
theorem dM_1243 : decode code 1243 = .ok (.iconst 0, 1) := dl_6_x 47 rfl
theorem dM_1244 : decode code 1244 = .ok (.ireturn, 1) := dl_6_x 48 rfl
theorem dM_1245 : decode code 1245 = .ok (.goto 2011, 3) := dl_6_x 49 rfl
theorem dM_1248 : decode code 1248 = .ok (.aload_n 1, 1) := dl_6_x 50 rfl
theorem dM_1249 : decode code 1249 = .ok (.aload_n 0, 1) := dl_6_x 51 rfl
theorem dM_1250 : decode code 1250 = .ok (.iload 4, 2) := dl_6_x 52 rfl
theorem dM_1252 : decode code 1252 = .ok (.iconst 1, 1) := dl_6_x 53 rfl
theorem dM_1253 : decode code 1253 = .ok (.iadd, 1) := dl_6_x 54 rfl
theorem dM_1254 : decode code 1254 = .ok (.iaload, 1) := dl_6_x 55 rfl
theorem dM_1255 : decode code 1255 = .ok (.aload_n 0, 1) := dl_6_x 56 rfl
theorem dM_1256 : decode code 1256 = .ok (.iload 4, 2) := dl_6_x 57 rfl
theorem dM_1258 : decode code 1258 = .ok (.iconst 2, 1) := dl_6_x 58 rfl
theorem dM_1259 : decode code 1259 = .ok (.iadd, 1) := dl_6_x 59 rfl
theorem dM_1260 : decode code 1260 = .ok (.iaload, 1) := dl_6_x 60 rfl
theorem dM_1261 : decode code 1261 = .ok (.aload_n 3, 1) := dl_6_x 61 rfl
theorem dM_1262 : decode code 1262 = .ok (.invokestatic 228, 3) := dl_6_x 62 rfl
theorem dM_1265 : decode code 1265 = .ok (.istore 5, 2) := dl_6_x 63 rfl
theorem dM_1267 : decode code 1267 = .ok (.aload_n 2, 1) := dl_6_x 64 rfl
theorem dM_1268 : decode code 1268 = .ok (.aload_n 0, 1) := dl_6_x 65 rfl
theorem dM_1269 : decode code 1269 = .ok (.iload 4, 2) := dl_6_x 66 rfl
theorem dM_1271 : decode code 1271 = .ok (.iconst 1, 1) := dl_6_x 67 rfl
theorem dM_1272 : decode code 1272 = .ok (.iadd, 1) := dl_6_x 68 rfl
theorem dM_1273 : decode code 1273 = .ok (.iaload, 1) := dl_6_x 69 rfl
theorem dM_1274 : decode code 1274 = .ok (.aload_n 0, 1) := dl_6_x 70 rfl
theorem dM_1275 : decode code 1275 = .ok (.iload 4, 2) := dl_6_x 71 rfl
theorem dM_1277 : decode code 1277 = .ok (.iconst 2, 1) := dl_6_x 72 rfl
theorem dM_1278 : decode code 1278 = .ok (.iadd, 1) := dl_6_x 73 rfl
theorem dM_1279 : decode code 1279 = .ok (.iaload, 1) := dl_6_x 74 rfl
theorem dM_1280 : decode code 1280 = .ok (.invokevirtual 230, 3) := dl_6_x 75 rfl
theorem dM_1283 : decode code 1283 = .ok (.istore 6, 2) := dl_6_x 76 rfl
theorem dM_1285 : decode code 1285 = .ok (.aload_n 2, 1) := dl_6_x 77 rfl
theorem dM_1286 : decode code 1286 = .ok (.invokevirtual 179, 3) := dl_6_x 78 rfl
theorem dM_1289 : decode code 1289 = .ok (.iload 5, 2) := dl_6_x 79 rfl
theorem dM_1291 : decode code 1291 = .ok (.if_icmp .eq 5, 3) := dl_6_x 80 rfl
theorem dM_1294 : decode code 1294 = .ok (.iconst 0, 1) := dl_6_x 81 rfl
theorem dM_1295 : decode code 1295 = .ok (.ireturn, 1) := dl_6_x 82 rfl
theorem dM_1296 : decode code 1296 = .ok (.iload 5, 2) := dl_6_x 83 rfl
theorem dM_1298 : decode code 1298 = .ok (.ifCond .ne 15, 3) := dl_6_x 84 rfl
theorem dM_1301 : decode code 1301 = .ok (.aload_n 3, 1) := dl_6_x 85 rfl
theorem dM_1302 : decode code 1302 = .ok (.iconst 0, 1) := dl_6_x 86 rfl
theorem dM_1303 : decode code 1303 = .ok (.laload, 1) := dl_6_x 87 rfl
theorem dM_1304 : decode code 1304 = .ok (.iload 6, 2) := dl_6_x 88 rfl
theorem dM_1306 : decode code 1306 = .ok (.i2l, 1) := dl_6_x 89 rfl
theorem dM_1307 : decode code 1307 = .ok (.lcmp, 1) := dl_6_x 90 rfl
theorem dM_1308 : decode code 1308 = .ok (.ifCond .eq 5, 3) := dl_6_x 91 rfl
theorem dM_1311 : decode code 1311 = .ok (.iconst 0, 1) := dl_6_x 92 rfl
theorem dM_1312 : decode code 1312 = .ok (.ireturn, 1) := dl_6_x 93 rfl
theorem dM_1313 : decode code 1313 = .ok (.goto 1943, 3) := dl_6_x 94 rfl
theorem dM_1316 : decode code 1316 = .ok (.aload_n 1, 1) := dl_6_x 95 rfl
theorem dM_1317 : decode code 1317 = .ok (.aload_n 0, 1) := dl_6_x 96 rfl
theorem dM_1318 : decode code 1318 = .ok (.iload 4, 2) := dl_6_x 97 rfl
theorem dM_1320 : decode code 1320 = .ok (.iconst 1, 1) := dl_6_x 98 rfl
theorem dM_1321 : decode code 1321 = .ok (.iadd, 1) := dl_6_x 99 rfl
