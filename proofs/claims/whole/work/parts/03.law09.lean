/-! THE LAW'S OWN BODY, instruction by instruction: 1481 to 1632 -/
def dl_8 : List (Nat × Instr × Nat) := [(1481, .aload_n 3, 1), (1482, .iconst 0, 1), (1483, .laload, 1), (1484, .iload 6, 2), (1486, .i2l, 1), (1487, .lcmp, 1), (1488, .ifCond .eq 5, 3), (1491, .iconst 0, 1), (1492, .ireturn, 1), (1493, .goto 1763, 3), (1496, .aload_n 1, 1), (1497, .invokevirtual 240, 3), (1500, .aload_n 2, 1), (1501, .invokevirtual 243, 3), (1504, .if_icmp .eq 1752, 3), (1507, .iconst 0, 1), (1508, .ireturn, 1), (1509, .aload_n 1, 1), (1510, .aload_n 0, 1), (1511, .iload 4, 2), (1513, .iconst 1, 1), (1514, .iadd, 1), (1515, .iaload, 1), (1516, .aload_n 0, 1), (1517, .iload 4, 2), (1519, .iconst 2, 1), (1520, .iadd, 1), (1521, .iaload, 1), (1522, .aload_n 3, 1), (1523, .invokestatic 244, 3), (1526, .istore 5, 2), (1528, .aload_n 2, 1), (1529, .aload_n 0, 1), (1530, .iload 4, 2), (1532, .iconst 1, 1), (1533, .iadd, 1), (1534, .iaload, 1), (1535, .aload_n 0, 1), (1536, .iload 4, 2), (1538, .iconst 2, 1), (1539, .iadd, 1), (1540, .iaload, 1), (1541, .invokevirtual 246, 3), (1544, .istore 6, 2), (1546, .aload_n 2, 1), (1547, .invokevirtual 179, 3), (1550, .iload 5, 2), (1552, .if_icmp .eq 5, 3), (1555, .iconst 0, 1), (1556, .ireturn, 1), (1557, .iload 5, 2), (1559, .ifCond .ne 15, 3), (1562, .aload_n 3, 1), (1563, .iconst 0, 1), (1564, .laload, 1), (1565, .iload 6, 2), (1567, .i2l, 1), (1568, .lcmp, 1), (1569, .ifCond .eq 5, 3), (1572, .iconst 0, 1), (1573, .ireturn, 1), (1574, .goto 1682, 3), (1577, .aload_n 1, 1), (1578, .aload_n 0, 1), (1579, .iload 4, 2), (1581, .iconst 1, 1), (1582, .iadd, 1), (1583, .iaload, 1), (1584, .aload_n 0, 1), (1585, .iload 4, 2), (1587, .iconst 2, 1), (1588, .iadd, 1), (1589, .iaload, 1), (1590, .aload_n 3, 1), (1591, .invokestatic 247, 3), (1594, .istore 5, 2), (1596, .aload_n 2, 1), (1597, .aload_n 0, 1), (1598, .iload 4, 2), (1600, .iconst 1, 1), (1601, .iadd, 1), (1602, .iaload, 1), (1603, .aload_n 0, 1), (1604, .iload 4, 2), (1606, .iconst 2, 1), (1607, .iadd, 1), (1608, .iaload, 1), (1609, .invokevirtual 249, 3), (1612, .istore 6, 2), (1614, .aload_n 2, 1), (1615, .invokevirtual 179, 3), (1618, .iload 5, 2), (1620, .if_icmp .eq 5, 3), (1623, .iconst 0, 1), (1624, .ireturn, 1), (1625, .iload 5, 2), (1627, .ifCond .ne 15, 3), (1630, .aload_n 3, 1), (1631, .iconst 0, 1), (1632, .laload, 1)]
theorem dl_8_ok : ∀ q ∈ dl_8, decode code q.1 = .ok (q.2.1, q.2.2) := by decide +kernel
theorem dl_8_x (k : Nat) {pc : Nat} {i : Instr} {n : Nat} (h : dl_8[k]? = some (pc, i, n)) : decode code pc = .ok (i, n) := dl_8_ok (pc, i, n) (List.mem_of_getElem? h)
theorem dM_1481 : decode code 1481 = .ok (.aload_n 3, 1) := dl_8_x 0 rfl
theorem dM_1482 : decode code 1482 = .ok (.iconst 0, 1) := dl_8_x 1 rfl
theorem dM_1483 : decode code 1483 = .ok (.laload, 1) := dl_8_x 2 rfl
theorem dM_1484 : decode code 1484 = .ok (.iload 6, 2) := dl_8_x 3 rfl
theorem dM_1486 : decode code 1486 = .ok (.i2l, 1) := dl_8_x 4 rfl
theorem dM_1487 : decode code 1487 = .ok (.lcmp, 1) := dl_8_x 5 rfl
theorem dM_1488 : decode code 1488 = .ok (.ifCond .eq 5, 3) := dl_8_x 6 rfl
theorem dM_1491 : decode code 1491 = .ok (.iconst 0, 1) := dl_8_x 7 rfl
theorem dM_1492 : decode code 1492 = .ok (.ireturn, 1) := dl_8_x 8 rfl
theorem dM_1493 : decode code 1493 = .ok (.goto 1763, 3) := dl_8_x 9 rfl
theorem dM_1496 : decode code 1496 = .ok (.aload_n 1, 1) := dl_8_x 10 rfl
theorem dM_1497 : decode code 1497 = .ok (.invokevirtual 240, 3) := dl_8_x 11 rfl
theorem dM_1500 : decode code 1500 = .ok (.aload_n 2, 1) := dl_8_x 12 rfl
theorem dM_1501 : decode code 1501 = .ok (.invokevirtual 243, 3) := dl_8_x 13 rfl
theorem dM_1504 : decode code 1504 = .ok (.if_icmp .eq 1752, 3) := dl_8_x 14 rfl
theorem dM_1507 : decode code 1507 = .ok (.iconst 0, 1) := dl_8_x 15 rfl
theorem dM_1508 : decode code 1508 = .ok (.ireturn, 1) := dl_8_x 16 rfl
theorem dM_1509 : decode code 1509 = .ok (.aload_n 1, 1) := dl_8_x 17 rfl
theorem dM_1510 : decode code 1510 = .ok (.aload_n 0, 1) := dl_8_x 18 rfl
theorem dM_1511 : decode code 1511 = .ok (.iload 4, 2) := dl_8_x 19 rfl
theorem dM_1513 : decode code 1513 = .ok (.iconst 1, 1) := dl_8_x 20 rfl
theorem dM_1514 : decode code 1514 = .ok (.iadd, 1) := dl_8_x 21 rfl
theorem dM_1515 : decode code 1515 = .ok (.iaload, 1) := dl_8_x 22 rfl
theorem dM_1516 : decode code 1516 = .ok (.aload_n 0, 1) := dl_8_x 23 rfl
theorem dM_1517 : decode code 1517 = .ok (.iload 4, 2) := dl_8_x 24 rfl
theorem dM_1519 : decode code 1519 = .ok (.iconst 2, 1) := dl_8_x 25 rfl
theorem dM_1520 : decode code 1520 = .ok (.iadd, 1) := dl_8_x 26 rfl
theorem dM_1521 : decode code 1521 = .ok (.iaload, 1) := dl_8_x 27 rfl
theorem dM_1522 : decode code 1522 = .ok (.aload_n 3, 1) := dl_8_x 28 rfl
theorem dM_1523 : decode code 1523 = .ok (.invokestatic 244, 3) := dl_8_x 29 rfl
theorem dM_1526 : decode code 1526 = .ok (.istore 5, 2) := dl_8_x 30 rfl
theorem dM_1528 : decode code 1528 = .ok (.aload_n 2, 1) := dl_8_x 31 rfl
theorem dM_1529 : decode code 1529 = .ok (.aload_n 0, 1) := dl_8_x 32 rfl
theorem dM_1530 : decode code 1530 = .ok (.iload 4, 2) := dl_8_x 33 rfl
theorem dM_1532 : decode code 1532 = .ok (.iconst 1, 1) := dl_8_x 34 rfl
theorem dM_1533 : decode code 1533 = .ok (.iadd, 1) := dl_8_x 35 rfl
theorem dM_1534 : decode code 1534 = .ok (.iaload, 1) := dl_8_x 36 rfl
theorem dM_1535 : decode code 1535 = .ok (.aload_n 0, 1) := dl_8_x 37 rfl
theorem dM_1536 : decode code 1536 = .ok (.iload 4, 2) := dl_8_x 38 rfl
theorem dM_1538 : decode code 1538 = .ok (.iconst 2, 1) := dl_8_x 39 rfl
theorem dM_1539 : decode code 1539 = .ok (.iadd, 1) := dl_8_x 40 rfl
theorem dM_1540 : decode code 1540 = .ok (.iaload, 1) := dl_8_x 41 rfl
theorem dM_1541 : decode code 1541 = .ok (.invokevirtual 246, 3) := dl_8_x 42 rfl
theorem dM_1544 : decode code 1544 = .ok (.istore 6, 2) := dl_8_x 43 rfl
theorem dM_1546 : decode code 1546 = .ok (.aload_n 2, 1) := dl_8_x 44 rfl
theorem dM_1547 : decode code 1547 = .ok (.invokevirtual 179, 3) := dl_8_x 45 rfl
theorem dM_1550 : decode code 1550 = .ok (.iload 5, 2) := dl_8_x 46 rfl
theorem dM_1552 : decode code 1552 = .ok (.if_icmp .eq 5, 3) := dl_8_x 47 rfl
theorem dM_1555 : decode code 1555 = .ok (.iconst 0, 1) := dl_8_x 48 rfl
theorem dM_1556 : decode code 1556 = .ok (.ireturn, 1) := dl_8_x 49 rfl
theorem dM_1557 : decode code 1557 = .ok (.iload 5, 2) := dl_8_x 50 rfl
theorem dM_1559 : decode code 1559 = .ok (.ifCond .ne 15, 3) := dl_8_x 51 rfl
theorem dM_1562 : decode code 1562 = .ok (.aload_n 3, 1) := dl_8_x 52 rfl
theorem dM_1563 : decode code 1563 = .ok (.iconst 0, 1) := dl_8_x 53 rfl
theorem dM_1564 : decode code 1564 = .ok (.laload, 1) := dl_8_x 54 rfl
theorem dM_1565 : decode code 1565 = .ok (.iload 6, 2) := dl_8_x 55 rfl
theorem dM_1567 : decode code 1567 = .ok (.i2l, 1) := dl_8_x 56 rfl
theorem dM_1568 : decode code 1568 = .ok (.lcmp, 1) := dl_8_x 57 rfl
theorem dM_1569 : decode code 1569 = .ok (.ifCond .eq 5, 3) := dl_8_x 58 rfl
theorem dM_1572 : decode code 1572 = .ok (.iconst 0, 1) := dl_8_x 59 rfl
theorem dM_1573 : decode code 1573 = .ok (.ireturn, 1) := dl_8_x 60 rfl
theorem dM_1574 : decode code 1574 = .ok (.goto 1682, 3) := dl_8_x 61 rfl
theorem dM_1577 : decode code 1577 = .ok (.aload_n 1, 1) := dl_8_x 62 rfl
theorem dM_1578 : decode code 1578 = .ok (.aload_n 0, 1) := dl_8_x 63 rfl
theorem dM_1579 : decode code 1579 = .ok (.iload 4, 2) := dl_8_x 64 rfl
theorem dM_1581 : decode code 1581 = .ok (.iconst 1, 1) := dl_8_x 65 rfl
theorem dM_1582 : decode code 1582 = .ok (.iadd, 1) := dl_8_x 66 rfl
theorem dM_1583 : decode code 1583 = .ok (.iaload, 1) := dl_8_x 67 rfl
theorem dM_1584 : decode code 1584 = .ok (.aload_n 0, 1) := dl_8_x 68 rfl
theorem dM_1585 : decode code 1585 = .ok (.iload 4, 2) := dl_8_x 69 rfl
theorem dM_1587 : decode code 1587 = .ok (.iconst 2, 1) := dl_8_x 70 rfl
theorem dM_1588 : decode code 1588 = .ok (.iadd, 1) := dl_8_x 71 rfl
theorem dM_1589 : decode code 1589 = .ok (.iaload, 1) := dl_8_x 72 rfl
theorem dM_1590 : decode code 1590 = .ok (.aload_n 3, 1) := dl_8_x 73 rfl
theorem dM_1591 : decode code 1591 = .ok (.invokestatic 247, 3) := dl_8_x 74 rfl
theorem dM_1594 : decode code 1594 = .ok (.istore 5, 2) := dl_8_x 75 rfl
theorem dM_1596 : decode code 1596 = .ok (.aload_n 2, 1) := dl_8_x 76 rfl
theorem dM_1597 : decode code 1597 = .ok (.aload_n 0, 1) := dl_8_x 77 rfl
theorem dM_1598 : decode code 1598 = .ok (.iload 4, 2) := dl_8_x 78 rfl
theorem dM_1600 : decode code 1600 = .ok (.iconst 1, 1) := dl_8_x 79 rfl
theorem dM_1601 : decode code 1601 = .ok (.iadd, 1) := dl_8_x 80 rfl
theorem dM_1602 : decode code 1602 = .ok (.iaload, 1) := dl_8_x 81 rfl
theorem dM_1603 : decode code 1603 = .ok (.aload_n 0, 1) := dl_8_x 82 rfl
theorem dM_1604 : decode code 1604 = .ok (.iload 4, 2) := dl_8_x 83 rfl
theorem dM_1606 : decode code 1606 = .ok (.iconst 2, 1) := dl_8_x 84 rfl
theorem dM_1607 : decode code 1607 = .ok (.iadd, 1) := dl_8_x 85 rfl
theorem dM_1608 : decode code 1608 = .ok (.iaload, 1) := dl_8_x 86 rfl
theorem dM_1609 : decode code 1609 = .ok (.invokevirtual 249, 3) := dl_8_x 87 rfl
theorem dM_1612 : decode code 1612 = .ok (.istore 6, 2) := dl_8_x 88 rfl
theorem dM_1614 : decode code 1614 = .ok (.aload_n 2, 1) := dl_8_x 89 rfl
theorem dM_1615 : decode code 1615 = .ok (.invokevirtual 179, 3) := dl_8_x 90 rfl
theorem dM_1618 : decode code 1618 = .ok (.iload 5, 2) := dl_8_x 91 rfl
theorem dM_1620 : decode code 1620 = .ok (.if_icmp .eq 5, 3) := dl_8_x 92 rfl
theorem dM_1623 : decode code 1623 = .ok (.iconst 0, 1) := dl_8_x 93 rfl
theorem dM_1624 : decode code 1624 = .ok (.ireturn, 1) := dl_8_x 94 rfl
theorem dM_1625 : decode code 1625 = .ok (.iload 5, 2) := dl_8_x 95 rfl
theorem dM_1627 : decode code 1627 = .ok (.ifCond .ne 15, 3) := dl_8_x 96 rfl
theorem dM_1630 : decode code 1630 = .ok (.aload_n 3, 1) := dl_8_x 97 rfl
theorem dM_1631 : decode code 1631 = .ok (.iconst 0, 1) := dl_8_x 98 rfl
theorem dM_1632 : decode code 1632 = .ok (.laload, 1) := dl_8_x 99 rfl
