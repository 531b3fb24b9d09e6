/-! THE LAW'S OWN BODY, instruction by instruction: 1633 to 1791 -/
def dl_9 : List (Nat × Instr × Nat) := [(1633, .iload 6, 2), (1635, .i2l, 1), (1636, .lcmp, 1), (1637, .ifCond .eq 5, 3), (1640, .iconst 0, 1), (1641, .ireturn, 1), (1642, .goto 1614, 3), (1645, .aload_n 1, 1), (1646, .aload_n 0, 1), (1647, .iload 4, 2), (1649, .iconst 1, 1), (1650, .iadd, 1), (1651, .iaload, 1), (1652, .aload_n 3, 1), (1653, .invokestatic 250, 3), (1656, .istore 5, 2), (1658, .aload_n 2, 1), (1659, .aload_n 0, 1), (1660, .iload 4, 2), (1662, .iconst 1, 1), (1663, .iadd, 1), (1664, .iaload, 1), (1665, .invokevirtual 252, 3), (1668, .istore 6, 2), (1670, .aload_n 2, 1), (1671, .invokevirtual 179, 3), (1674, .iload 5, 2), (1676, .if_icmp .eq 5, 3), (1679, .iconst 0, 1), (1680, .ireturn, 1), (1681, .iload 5, 2), (1683, .ifCond .ne 15, 3), (1686, .aload_n 3, 1), (1687, .iconst 0, 1), (1688, .laload, 1), (1689, .iload 6, 2), (1691, .i2l, 1), (1692, .lcmp, 1), (1693, .ifCond .eq 5, 3), (1696, .iconst 0, 1), (1697, .ireturn, 1), (1698, .goto 1558, 3), (1701, .aload_n 1, 1), (1702, .aload_n 0, 1), (1703, .iload 4, 2), (1705, .iconst 1, 1), (1706, .iadd, 1), (1707, .iaload, 1), (1708, .aload_n 0, 1), (1709, .iload 4, 2), (1711, .iconst 2, 1), (1712, .iadd, 1), (1713, .iaload, 1), (1714, .aload_n 3, 1), (1715, .invokestatic 253, 3), (1718, .istore 5, 2), (1720, .aload_n 2, 1), (1721, .aload_n 0, 1), (1722, .iload 4, 2), (1724, .iconst 1, 1), (1725, .iadd, 1), (1726, .iaload, 1), (1727, .aload_n 0, 1), (1728, .iload 4, 2), (1730, .iconst 2, 1), (1731, .iadd, 1), (1732, .iaload, 1), (1733, .invokevirtual 255, 3), (1736, .istore 6, 2), (1738, .aload_n 2, 1), (1739, .invokevirtual 179, 3), (1742, .iload 5, 2), (1744, .if_icmp .eq 5, 3), (1747, .iconst 0, 1), (1748, .ireturn, 1), (1749, .iload 5, 2), (1751, .ifCond .ne 15, 3), (1754, .aload_n 3, 1), (1755, .iconst 0, 1), (1756, .laload, 1), (1757, .iload 6, 2), (1759, .i2l, 1), (1760, .lcmp, 1), (1761, .ifCond .eq 5, 3), (1764, .iconst 0, 1), (1765, .ireturn, 1), (1766, .goto 1490, 3), (1769, .aload_n 1, 1), (1770, .invokevirtual 256, 3), (1773, .aload_n 2, 1), (1774, .invokevirtual 260, 3), (1777, .lcmp, 1), (1778, .ifCond .eq 1478, 3), (1781, .iconst 0, 1), (1782, .ireturn, 1), (1783, .aload_n 1, 1), (1784, .invokevirtual 261, 3), (1787, .aload_n 2, 1), (1788, .invokevirtual 264, 3), (1791, .lcmp, 1)]
theorem dl_9_ok : ∀ q ∈ dl_9, decode code q.1 = .ok (q.2.1, q.2.2) := by decide +kernel
theorem dl_9_x (k : Nat) {pc : Nat} {i : Instr} {n : Nat} (h : dl_9[k]? = some (pc, i, n)) : decode code pc = .ok (i, n) := dl_9_ok (pc, i, n) (List.mem_of_getElem? h)
theorem dM_1633 : decode code 1633 = .ok (.iload 6, 2) := dl_9_x 0 rfl
theorem dM_1635 : decode code 1635 = .ok (.i2l, 1) := dl_9_x 1 rfl
theorem dM_1636 : decode code 1636 = .ok (.lcmp, 1) := dl_9_x 2 rfl
theorem dM_1637 : decode code 1637 = .ok (.ifCond .eq 5, 3) := dl_9_x 3 rfl
theorem dM_1640 : decode code 1640 = .ok (.iconst 0, 1) := dl_9_x 4 rfl
theorem dM_1641 : decode code 1641 = .ok (.ireturn, 1) := dl_9_x 5 rfl
theorem dM_1642 : decode code 1642 = .ok (.goto 1614, 3) := dl_9_x 6 rfl
theorem dM_1645 : decode code 1645 = .ok (.aload_n 1, 1) := dl_9_x 7 rfl
theorem dM_1646 : decode code 1646 = .ok (.aload_n 0, 1) := dl_9_x 8 rfl
theorem dM_1647 : decode code 1647 = .ok (.iload 4, 2) := dl_9_x 9 rfl
theorem dM_1649 : decode code 1649 = .ok (.iconst 1, 1) := dl_9_x 10 rfl
theorem dM_1650 : decode code 1650 = .ok (.iadd, 1) := dl_9_x 11 rfl
theorem dM_1651 : decode code 1651 = .ok (.iaload, 1) := dl_9_x 12 rfl
theorem dM_1652 : decode code 1652 = .ok (.aload_n 3, 1) := dl_9_x 13 rfl
theorem dM_1653 : decode code 1653 = .ok (.invokestatic 250, 3) := dl_9_x 14 rfl
theorem dM_1656 : decode code 1656 = .ok (.istore 5, 2) := dl_9_x 15 rfl
theorem dM_1658 : decode code 1658 = .ok (.aload_n 2, 1) := dl_9_x 16 rfl
theorem dM_1659 : decode code 1659 = .ok (.aload_n 0, 1) := dl_9_x 17 rfl
theorem dM_1660 : decode code 1660 = .ok (.iload 4, 2) := dl_9_x 18 rfl
theorem dM_1662 : decode code 1662 = .ok (.iconst 1, 1) := dl_9_x 19 rfl
theorem dM_1663 : decode code 1663 = .ok (.iadd, 1) := dl_9_x 20 rfl
theorem dM_1664 : decode code 1664 = .ok (.iaload, 1) := dl_9_x 21 rfl
theorem dM_1665 : decode code 1665 = .ok (.invokevirtual 252, 3) := dl_9_x 22 rfl
theorem dM_1668 : decode code 1668 = .ok (.istore 6, 2) := dl_9_x 23 rfl
theorem dM_1670 : decode code 1670 = .ok (.aload_n 2, 1) := dl_9_x 24 rfl
theorem dM_1671 : decode code 1671 = .ok (.invokevirtual 179, 3) := dl_9_x 25 rfl
theorem dM_1674 : decode code 1674 = .ok (.iload 5, 2) := dl_9_x 26 rfl
theorem dM_1676 : decode code 1676 = .ok (.if_icmp .eq 5, 3) := dl_9_x 27 rfl
theorem dM_1679 : decode code 1679 = .ok (.iconst 0, 1) := dl_9_x 28 rfl
theorem dM_1680 : decode code 1680 = .ok (.ireturn, 1) := dl_9_x 29 rfl
theorem dM_1681 : decode code 1681 = .ok (.iload 5, 2) := dl_9_x 30 rfl
theorem dM_1683 : decode code 1683 = .ok (.ifCond .ne 15, 3) := dl_9_x 31 rfl
theorem dM_1686 : decode code 1686 = .ok (.aload_n 3, 1) := dl_9_x 32 rfl
theorem dM_1687 : decode code 1687 = .ok (.iconst 0, 1) := dl_9_x 33 rfl
theorem dM_1688 : decode code 1688 = .ok (.laload, 1) := dl_9_x 34 rfl
theorem dM_1689 : decode code 1689 = .ok (.iload 6, 2) := dl_9_x 35 rfl
theorem dM_1691 : decode code 1691 = .ok (.i2l, 1) := dl_9_x 36 rfl
theorem dM_1692 : decode code 1692 = .ok (.lcmp, 1) := dl_9_x 37 rfl
theorem dM_1693 : decode code 1693 = .ok (.ifCond .eq 5, 3) := dl_9_x 38 rfl
theorem dM_1696 : decode code 1696 = .ok (.iconst 0, 1) := dl_9_x 39 rfl
theorem dM_1697 : decode code 1697 = .ok (.ireturn, 1) := dl_9_x 40 rfl
theorem dM_1698 : decode code 1698 = .ok (.goto 1558, 3) := dl_9_x 41 rfl
theorem dM_1701 : decode code 1701 = .ok (.aload_n 1, 1) := dl_9_x 42 rfl
theorem dM_1702 : decode code 1702 = .ok (.aload_n 0, 1) := dl_9_x 43 rfl
theorem dM_1703 : decode code 1703 = .ok (.iload 4, 2) := dl_9_x 44 rfl
theorem dM_1705 : decode code 1705 = .ok (.iconst 1, 1) := dl_9_x 45 rfl
theorem dM_1706 : decode code 1706 = .ok (.iadd, 1) := dl_9_x 46 rfl
theorem dM_1707 : decode code 1707 = .ok (.iaload, 1) := dl_9_x 47 rfl
theorem dM_1708 : decode code 1708 = .ok (.aload_n 0, 1) := dl_9_x 48 rfl
theorem dM_1709 : decode code 1709 = .ok (.iload 4, 2) := dl_9_x 49 rfl
theorem dM_1711 : decode code 1711 = .ok (.iconst 2, 1) := dl_9_x 50 rfl
theorem dM_1712 : decode code 1712 = .ok (.iadd, 1) := dl_9_x 51 rfl
theorem dM_1713 : decode code 1713 = .ok (.iaload, 1) := dl_9_x 52 rfl
theorem dM_1714 : decode code 1714 = .ok (.aload_n 3, 1) := dl_9_x 53 rfl
theorem dM_1715 : decode code 1715 = .ok (.invokestatic 253, 3) := dl_9_x 54 rfl
theorem dM_1718 : decode code 1718 = .ok (.istore 5, 2) := dl_9_x 55 rfl
theorem dM_1720 : decode code 1720 = .ok (.aload_n 2, 1) := dl_9_x 56 rfl
theorem dM_1721 : decode code 1721 = .ok (.aload_n 0, 1) := dl_9_x 57 rfl
theorem dM_1722 : decode code 1722 = .ok (.iload 4, 2) := dl_9_x 58 rfl
theorem dM_1724 : decode code 1724 = .ok (.iconst 1, 1) := dl_9_x 59 rfl
theorem dM_1725 : decode code 1725 = .ok (.iadd, 1) := dl_9_x 60 rfl
theorem dM_1726 : decode code 1726 = .ok (.iaload, 1) := dl_9_x 61 rfl
theorem dM_1727 : decode code 1727 = .ok (.aload_n 0, 1) := dl_9_x 62 rfl
theorem dM_1728 : decode code 1728 = .ok (.iload 4, 2) := dl_9_x 63 rfl
theorem dM_1730 : decode code 1730 = .ok (.iconst 2, 1) := dl_9_x 64 rfl
theorem dM_1731 : decode code 1731 = .ok (.iadd, 1) := dl_9_x 65 rfl
theorem dM_1732 : decode code 1732 = .ok (.iaload, 1) := dl_9_x 66 rfl
theorem dM_1733 : decode code 1733 = .ok (.invokevirtual 255, 3) := dl_9_x 67 rfl
theorem dM_1736 : decode code 1736 = .ok (.istore 6, 2) := dl_9_x 68 rfl
theorem dM_1738 : decode code 1738 = .ok (.aload_n 2, 1) := dl_9_x 69 rfl
theorem dM_1739 : decode code 1739 = .ok (.invokevirtual 179, 3) := dl_9_x 70 rfl
theorem dM_1742 : decode code 1742 = .ok (.iload 5, 2) := dl_9_x 71 rfl
theorem dM_1744 : decode code 1744 = .ok (.if_icmp .eq 5, 3) := dl_9_x 72 rfl
theorem dM_1747 : decode code 1747 = .ok (.iconst 0, 1) := dl_9_x 73 rfl
theorem dM_1748 : decode code 1748 = .ok (.ireturn, 1) := dl_9_x 74 rfl
theorem dM_1749 : decode code 1749 = .ok (.iload 5, 2) := dl_9_x 75 rfl
theorem dM_1751 : decode code 1751 = .ok (.ifCond .ne 15, 3) := dl_9_x 76 rfl
theorem dM_1754 : decode code 1754 = .ok (.aload_n 3, 1) := dl_9_x 77 rfl
theorem dM_1755 : decode code 1755 = .ok (.iconst 0, 1) := dl_9_x 78 rfl
theorem dM_1756 : decode code 1756 = .ok (.laload, 1) := dl_9_x 79 rfl
theorem dM_1757 : decode code 1757 = .ok (.iload 6, 2) := dl_9_x 80 rfl
theorem dM_1759 : decode code 1759 = .ok (.i2l, 1) := dl_9_x 81 rfl
theorem dM_1760 : decode code 1760 = .ok (.lcmp, 1) := dl_9_x 82 rfl
theorem dM_1761 : decode code 1761 = .ok (.ifCond .eq 5, 3) := dl_9_x 83 rfl
theorem dM_1764 : decode code 1764 = .ok (.iconst 0, 1) := dl_9_x 84 rfl
theorem dM_1765 : decode code 1765 = .ok (.ireturn, 1) := dl_9_x 85 rfl
theorem dM_1766 : decode code 1766 = .ok (.goto 1490, 3) := dl_9_x 86 rfl
theorem dM_1769 : decode code 1769 = .ok (.aload_n 1, 1) := dl_9_x 87 rfl
theorem dM_1770 : decode code 1770 = .ok (.invokevirtual 256, 3) := dl_9_x 88 rfl
theorem dM_1773 : decode code 1773 = .ok (.aload_n 2, 1) := dl_9_x 89 rfl
theorem dM_1774 : decode code 1774 = .ok (.invokevirtual 260, 3) := dl_9_x 90 rfl
theorem dM_1777 : decode code 1777 = .ok (.lcmp, 1) := dl_9_x 91 rfl
theorem dM_1778 : decode code 1778 = .ok (.ifCond .eq 1478, 3) := dl_9_x 92 rfl
theorem dM_1781 : decode code 1781 = .ok (.iconst 0, 1) := dl_9_x 93 rfl
theorem dM_1782 : decode code 1782 = .ok (.ireturn, 1) := dl_9_x 94 rfl
theorem dM_1783 : decode code 1783 = .ok (.aload_n 1, 1) := dl_9_x 95 rfl
theorem dM_1784 : decode code 1784 = .ok (.invokevirtual 261, 3) := dl_9_x 96 rfl
theorem dM_1787 : decode code 1787 = .ok (.aload_n 2, 1) := dl_9_x 97 rfl
theorem dM_1788 : decode code 1788 = .ok (.invokevirtual 264, 3) := dl_9_x 98 rfl
theorem dM_1791 : decode code 1791 = .ok (.lcmp, 1) := dl_9_x 99 rfl
