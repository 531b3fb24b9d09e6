/-! THE LAW'S OWN BODY, instruction by instruction: 1322 to 1478 -/
def dl_7 : List (Nat × Instr × Nat) := [(1322, .iaload, 1), (1323, .aload_n 3, 1), (1324, .invokestatic 231, 3), (1327, .istore 5, 2), (1329, .aload_n 2, 1), (1330, .aload_n 0, 1), (1331, .iload 4, 2), (1333, .iconst 1, 1), (1334, .iadd, 1), (1335, .iaload, 1), (1336, .invokevirtual 233, 3), (1339, .istore 6, 2), (1341, .aload_n 2, 1), (1342, .invokevirtual 179, 3), (1345, .iload 5, 2), (1347, .if_icmp .eq 5, 3), (1350, .iconst 0, 1), (1351, .ireturn, 1), (1352, .iload 5, 2), (1354, .ifCond .ne 15, 3), (1357, .aload_n 3, 1), (1358, .iconst 0, 1), (1359, .laload, 1), (1360, .iload 6, 2), (1362, .i2l, 1), (1363, .lcmp, 1), (1364, .ifCond .eq 5, 3), (1367, .iconst 0, 1), (1368, .ireturn, 1), (1369, .goto 1887, 3), (1372, .aload_n 1, 1), (1373, .aload_n 0, 1), (1374, .iload 4, 2), (1376, .iconst 1, 1), (1377, .iadd, 1), (1378, .iaload, 1), (1379, .aload_n 3, 1), (1380, .invokestatic 234, 3), (1383, .istore 5, 2), (1385, .aload_n 2, 1), (1386, .aload_n 0, 1), (1387, .iload 4, 2), (1389, .iconst 1, 1), (1390, .iadd, 1), (1391, .iaload, 1), (1392, .invokevirtual 236, 3), (1395, .istore 6, 2), (1397, .aload_n 2, 1), (1398, .invokevirtual 179, 3), (1401, .iload 5, 2), (1403, .if_icmp .eq 5, 3), (1406, .iconst 0, 1), (1407, .ireturn, 1), (1408, .iload 5, 2), (1410, .ifCond .ne 15, 3), (1413, .aload_n 3, 1), (1414, .iconst 0, 1), (1415, .laload, 1), (1416, .iload 6, 2), (1418, .i2l, 1), (1419, .lcmp, 1), (1420, .ifCond .eq 5, 3), (1423, .iconst 0, 1), (1424, .ireturn, 1), (1425, .goto 1831, 3), (1428, .aload_n 1, 1), (1429, .aload_n 0, 1), (1430, .iload 4, 2), (1432, .iconst 1, 1), (1433, .iadd, 1), (1434, .iaload, 1), (1435, .aload_n 0, 1), (1436, .iload 4, 2), (1438, .iconst 2, 1), (1439, .iadd, 1), (1440, .iaload, 1), (1441, .aload_n 3, 1), (1442, .invokestatic 237, 3), (1445, .istore 5, 2), (1447, .aload_n 2, 1), (1448, .aload_n 0, 1), (1449, .iload 4, 2), (1451, .iconst 1, 1), (1452, .iadd, 1), (1453, .iaload, 1), (1454, .aload_n 0, 1), (1455, .iload 4, 2), (1457, .iconst 2, 1), (1458, .iadd, 1), (1459, .iaload, 1), (1460, .invokevirtual 239, 3), (1463, .istore 6, 2), (1465, .aload_n 2, 1), (1466, .invokevirtual 179, 3), (1469, .iload 5, 2), (1471, .if_icmp .eq 5, 3), (1474, .iconst 0, 1), (1475, .ireturn, 1), (1476, .iload 5, 2), (1478, .ifCond .ne 15, 3)]
theorem dl_7_ok : ∀ q ∈ dl_7, decode code q.1 = .ok (q.2.1, q.2.2) := by decide +kernel
theorem dl_7_x (k : Nat) {pc : Nat} {i : Instr} {n : Nat} (h : dl_7[k]? = some (pc, i, n)) : decode code pc = .ok (i, n) := dl_7_ok (pc, i, n) (List.mem_of_getElem? h)
theorem dM_1322 : decode code 1322 = .ok (.iaload, 1) := dl_7_x 0 rfl
theorem dM_1323 : decode code 1323 = .ok (.aload_n 3, 1) := dl_7_x 1 rfl
theorem dM_1324 : decode code 1324 = .ok (.invokestatic 231, 3) := dl_7_x 2 rfl
theorem dM_1327 : decode code 1327 = .ok (.istore 5, 2) := dl_7_x 3 rfl
theorem dM_1329 : decode code 1329 = .ok (.aload_n 2, 1) := dl_7_x 4 rfl
theorem dM_1330 : decode code 1330 = .ok (.aload_n 0, 1) := dl_7_x 5 rfl
theorem dM_1331 : decode code 1331 = .ok (.iload 4, 2) := dl_7_x 6 rfl
theorem dM_1333 : decode code 1333 = .ok (.iconst 1, 1) := dl_7_x 7 rfl
theorem dM_1334 : decode code 1334 = .ok (.iadd, 1) := dl_7_x 8 rfl
theorem dM_1335 : decode code 1335 = .ok (.iaload, 1) := dl_7_x 9 rfl
theorem dM_1336 : decode code 1336 = .ok (.invokevirtual 233, 3) := dl_7_x 10 rfl
theorem dM_1339 : decode code 1339 = .ok (.istore 6, 2) := dl_7_x 11 rfl
theorem dM_1341 : decode code 1341 = .ok (.aload_n 2, 1) := dl_7_x 12 rfl
theorem dM_1342 : decode code 1342 = .ok (.invokevirtual 179, 3) := dl_7_x 13 rfl
theorem dM_1345 : decode code 1345 = .ok (.iload 5, 2) := dl_7_x 14 rfl
theorem dM_1347 : decode code 1347 = .ok (.if_icmp .eq 5, 3) := dl_7_x 15 rfl
theorem dM_1350 : decode code 1350 = .ok (.iconst 0, 1) := dl_7_x 16 rfl
theorem dM_1351 : decode code 1351 = .ok (.ireturn, 1) := dl_7_x 17 rfl
theorem dM_1352 : decode code 1352 = .ok (.iload 5, 2) := dl_7_x 18 rfl
theorem dM_1354 : decode code 1354 = .ok (.ifCond .ne 15, 3) := dl_7_x 19 rfl
theorem dM_1357 : decode code 1357 = .ok (.aload_n 3, 1) := dl_7_x 20 rfl
theorem dM_1358 : decode code 1358 = .ok (.iconst 0, 1) := dl_7_x 21 rfl
theorem dM_1359 : decode code 1359 = .ok (.laload, 1) := dl_7_x 22 rfl
theorem dM_1360 : decode code 1360 = .ok (.iload 6, 2) := dl_7_x 23 rfl
theorem dM_1362 : decode code 1362 = .ok (.i2l, 1) := dl_7_x 24 rfl
theorem dM_1363 : decode code 1363 = .ok (.lcmp, 1) := dl_7_x 25 rfl
theorem dM_1364 : decode code 1364 = .ok (.ifCond .eq 5, 3) := dl_7_x 26 rfl
theorem dM_1367 : decode code 1367 = .ok (.iconst 0, 1) := dl_7_x 27 rfl
theorem dM_1368 : decode code 1368 = .ok (.ireturn, 1) := dl_7_x 28 rfl
theorem dM_1369 : decode code 1369 = .ok (.goto 1887, 3) := dl_7_x 29 rfl
theorem dM_1372 : decode code 1372 = .ok (.aload_n 1, 1) := dl_7_x 30 rfl
theorem dM_1373 : decode code 1373 = .ok (.aload_n 0, 1) := dl_7_x 31 rfl
theorem dM_1374 : decode code 1374 = .ok (.iload 4, 2) := dl_7_x 32 rfl
theorem dM_1376 : decode code 1376 = .ok (.iconst 1, 1) := dl_7_x 33 rfl
theorem dM_1377 : decode code 1377 = .ok (.iadd, 1) := dl_7_x 34 rfl
theorem dM_1378 : decode code 1378 = .ok (.iaload, 1) := dl_7_x 35 rfl
theorem dM_1379 : decode code 1379 = .ok (.aload_n 3, 1) := dl_7_x 36 rfl
theorem dM_1380 : decode code 1380 = .ok (.invokestatic 234, 3) := dl_7_x 37 rfl
theorem dM_1383 : decode code 1383 = .ok (.istore 5, 2) := dl_7_x 38 rfl
theorem dM_1385 : decode code 1385 = .ok (.aload_n 2, 1) := dl_7_x 39 rfl
theorem dM_1386 : decode code 1386 = .ok (.aload_n 0, 1) := dl_7_x 40 rfl
theorem dM_1387 : decode code 1387 = .ok (.iload 4, 2) := dl_7_x 41 rfl
theorem dM_1389 : decode code 1389 = .ok (.iconst 1, 1) := dl_7_x 42 rfl
theorem dM_1390 : decode code 1390 = .ok (.iadd, 1) := dl_7_x 43 rfl
theorem dM_1391 : decode code 1391 = .ok (.iaload, 1) := dl_7_x 44 rfl
theorem dM_1392 : decode code 1392 = .ok (.invokevirtual 236, 3) := dl_7_x 45 rfl
theorem dM_1395 : decode code 1395 = .ok (.istore 6, 2) := dl_7_x 46 rfl
theorem dM_1397 : decode code 1397 = .ok (.aload_n 2, 1) := dl_7_x 47 rfl
theorem dM_1398 : decode code 1398 = .ok (.invokevirtual 179, 3) := dl_7_x 48 rfl
theorem dM_1401 : decode code 1401 = .ok (.iload 5, 2) := dl_7_x 49 rfl
theorem dM_1403 : decode code 1403 = .ok (.if_icmp .eq 5, 3) := dl_7_x 50 rfl
theorem dM_1406 : decode code 1406 = .ok (.iconst 0, 1) := dl_7_x 51 rfl
theorem dM_1407 : decode code 1407 = .ok (.ireturn, 1) := dl_7_x 52 rfl
theorem dM_1408 : decode code 1408 = .ok (.iload 5, 2) := dl_7_x 53 rfl
theorem dM_1410 : decode code 1410 = .ok (.ifCond .ne 15, 3) := dl_7_x 54 rfl
theorem dM_1413 : decode code 1413 = .ok (.aload_n 3, 1) := dl_7_x 55 rfl
theorem dM_1414 : decode code 1414 = .ok (.iconst 0, 1) := dl_7_x 56 rfl
theorem dM_1415 : decode code 1415 = .ok (.laload, 1) := dl_7_x 57 rfl
theorem dM_1416 : decode code 1416 = .ok (.iload 6, 2) := dl_7_x 58 rfl
theorem dM_1418 : decode code 1418 = .ok (.i2l, 1) := dl_7_x 59 rfl
theorem dM_1419 : decode code 1419 = .ok (.lcmp, 1) := dl_7_x 60 rfl
theorem dM_1420 : decode code 1420 = .ok (.ifCond .eq 5, 3) := dl_7_x 61 rfl
theorem dM_1423 : decode code 1423 = .ok (.iconst 0, 1) := dl_7_x 62 rfl
theorem dM_1424 : decode code 1424 = .ok (.ireturn, 1) := dl_7_x 63 rfl
theorem dM_1425 : decode code 1425 = .ok (.goto 1831, 3) := dl_7_x 64 rfl
theorem dM_1428 : decode code 1428 = .ok (.aload_n 1, 1) := dl_7_x 65 rfl
theorem dM_1429 : decode code 1429 = .ok (.aload_n 0, 1) := dl_7_x 66 rfl
theorem dM_1430 : decode code 1430 = .ok (.iload 4, 2) := dl_7_x 67 rfl
theorem dM_1432 : decode code 1432 = .ok (.iconst 1, 1) := dl_7_x 68 rfl
theorem dM_1433 : decode code 1433 = .ok (.iadd, 1) := dl_7_x 69 rfl
theorem dM_1434 : decode code 1434 = .ok (.iaload, 1) := dl_7_x 70 rfl
theorem dM_1435 : decode code 1435 = .ok (.aload_n 0, 1) := dl_7_x 71 rfl
theorem dM_1436 : decode code 1436 = .ok (.iload 4, 2) := dl_7_x 72 rfl
theorem dM_1438 : decode code 1438 = .ok (.iconst 2, 1) := dl_7_x 73 rfl
theorem dM_1439 : decode code 1439 = .ok (.iadd, 1) := dl_7_x 74 rfl
theorem dM_1440 : decode code 1440 = .ok (.iaload, 1) := dl_7_x 75 rfl
theorem dM_1441 : decode code 1441 = .ok (.aload_n 3, 1) := dl_7_x 76 rfl
theorem dM_1442 : decode code 1442 = .ok (.invokestatic 237, 3) := dl_7_x 77 rfl
theorem dM_1445 : decode code 1445 = .ok (.istore 5, 2) := dl_7_x 78 rfl
theorem dM_1447 : decode code 1447 = .ok (.aload_n 2, 1) := dl_7_x 79 rfl
theorem dM_1448 : decode code 1448 = .ok (.aload_n 0, 1) := dl_7_x 80 rfl
theorem dM_1449 : decode code 1449 = .ok (.iload 4, 2) := dl_7_x 81 rfl
theorem dM_1451 : decode code 1451 = .ok (.iconst 1, 1) := dl_7_x 82 rfl
theorem dM_1452 : decode code 1452 = .ok (.iadd, 1) := dl_7_x 83 rfl
theorem dM_1453 : decode code 1453 = .ok (.iaload, 1) := dl_7_x 84 rfl
theorem dM_1454 : decode code 1454 = .ok (.aload_n 0, 1) := dl_7_x 85 rfl
theorem dM_1455 : decode code 1455 = .ok (.iload 4, 2) := dl_7_x 86 rfl
theorem dM_1457 : decode code 1457 = .ok (.iconst 2, 1) := dl_7_x 87 rfl
theorem dM_1458 : decode code 1458 = .ok (.iadd, 1) := dl_7_x 88 rfl
theorem dM_1459 : decode code 1459 = .ok (.iaload, 1) := dl_7_x 89 rfl
theorem dM_1460 : decode code 1460 = .ok (.invokevirtual 239, 3) := dl_7_x 90 rfl
theorem dM_1463 : decode code 1463 = .ok (.istore 6, 2) := dl_7_x 91 rfl
theorem dM_1465 : decode code 1465 = .ok (.aload_n 2, 1) := dl_7_x 92 rfl
theorem dM_1466 : decode code 1466 = .ok (.invokevirtual 179, 3) := dl_7_x 93 rfl
theorem dM_1469 : decode code 1469 = .ok (.iload 5, 2) := dl_7_x 94 rfl
theorem dM_1471 : decode code 1471 = .ok (.if_icmp .eq 5, 3) := dl_7_x 95 rfl
theorem dM_1474 : decode code 1474 = .ok (.iconst 0, 1) := dl_7_x 96 rfl
theorem dM_1475 : decode code 1475 = .ok (.ireturn, 1) := dl_7_x 97 rfl
theorem dM_1476 : decode code 1476 = .ok (.iload 5, 2) := dl_7_x 98 rfl
theorem dM_1478 : decode code 1478 = .ok (.ifCond .ne 15, 3) := dl_7_x 99 rfl
