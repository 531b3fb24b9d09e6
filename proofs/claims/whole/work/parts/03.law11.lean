/-! THE LAW'S OWN BODY, instruction by instruction: 1792 to 1940 -/
def dl_10 : List (Nat × Instr × Nat) := [(1792, .ifCond .eq 1464, 3), (1795, .iconst 0, 1), (1796, .ireturn, 1), (1797, .aload_n 1, 1), (1798, .invokevirtual 265, 3), (1801, .aload_n 2, 1), (1802, .invokevirtual 268, 3), (1805, .if_icmp .eq 1451, 3), (1808, .iconst 0, 1), (1809, .ireturn, 1), (1810, .aload_n 1, 1), (1811, .invokevirtual 269, 3), (1814, .aload_n 2, 1), (1815, .invokevirtual 272, 3), (1818, .if_icmp .eq 1438, 3), (1821, .iconst 0, 1), (1822, .ireturn, 1), (1823, .aload_n 1, 1), (1824, .invokevirtual 273, 3), (1827, .aload_n 2, 1), (1828, .invokevirtual 277, 3), (1831, .if_icmp .eq 1425, 3), (1834, .iconst 0, 1), (1835, .ireturn, 1), (1836, .aload_n 1, 1), (1837, .aload_n 0, 1), (1838, .iload 4, 2), (1840, .iconst 1, 1), (1841, .iadd, 1), (1842, .iaload, 1), (1843, .aload_n 0, 1), (1844, .iload 4, 2), (1846, .iconst 2, 1), (1847, .iadd, 1), (1848, .iaload, 1), (1849, .aload_n 0, 1), (1850, .iload 4, 2), (1852, .iconst 3, 1), (1853, .iadd, 1), (1854, .iaload, 1), (1855, .aload_n 3, 1), (1856, .invokestatic 278, 3), (1859, .istore 5, 2), (1861, .aload_n 2, 1), (1862, .aload_n 0, 1), (1863, .iload 4, 2), (1865, .iconst 1, 1), (1866, .iadd, 1), (1867, .iaload, 1), (1868, .aload_n 0, 1), (1869, .iload 4, 2), (1871, .iconst 2, 1), (1872, .iadd, 1), (1873, .iaload, 1), (1874, .aload_n 0, 1), (1875, .iload 4, 2), (1877, .iconst 3, 1), (1878, .iadd, 1), (1879, .iaload, 1), (1880, .invokevirtual 281, 3), (1883, .istore 6, 2), (1885, .aload_n 2, 1), (1886, .invokevirtual 179, 3), (1889, .iload 5, 2), (1891, .if_icmp .eq 5, 3), (1894, .iconst 0, 1), (1895, .ireturn, 1), (1896, .iload 5, 2), (1898, .ifCond .ne 15, 3), (1901, .aload_n 3, 1), (1902, .iconst 0, 1), (1903, .laload, 1), (1904, .iload 6, 2), (1906, .i2l, 1), (1907, .lcmp, 1), (1908, .ifCond .eq 5, 3), (1911, .iconst 0, 1), (1912, .ireturn, 1), (1913, .goto 1343, 3), (1916, .aload_n 1, 1), (1917, .aload_n 0, 1), (1918, .iload 4, 2), (1920, .iconst 1, 1), (1921, .iadd, 1), (1922, .iaload, 1), (1923, .aload_n 0, 1), (1924, .iload 4, 2), (1926, .iconst 2, 1), (1927, .iadd, 1), (1928, .iaload, 1), (1929, .aload_n 0, 1), (1930, .iload 4, 2), (1932, .iconst 3, 1), (1933, .iadd, 1), (1934, .iaload, 1), (1935, .aload_n 0, 1), (1936, .iload 4, 2), (1938, .iconst 4, 1), (1939, .iadd, 1), (1940, .iaload, 1)]
theorem dl_10_ok : ∀ q ∈ dl_10, decode code q.1 = .ok (q.2.1, q.2.2) := by decide +kernel
theorem dl_10_x (k : Nat) {pc : Nat} {i : Instr} {n : Nat} (h : dl_10[k]? = some (pc, i, n)) : decode code pc = .ok (i, n) := dl_10_ok (pc, i, n) (List.mem_of_getElem? h)
theorem dM_1792 : decode code 1792 = .ok (.ifCond .eq 1464, 3) := dl_10_x 0 rfl
theorem dM_1795 : decode code 1795 = .ok (.iconst 0, 1) := dl_10_x 1 rfl
theorem dM_1796 : decode code 1796 = .ok (.ireturn, 1) := dl_10_x 2 rfl
theorem dM_1797 : decode code 1797 = .ok (.aload_n 1, 1) := dl_10_x 3 rfl
theorem dM_1798 : decode code 1798 = .ok (.invokevirtual 265, 3) := dl_10_x 4 rfl
theorem dM_1801 : decode code 1801 = .ok (.aload_n 2, 1) := dl_10_x 5 rfl
theorem dM_1802 : decode code 1802 = .ok (.invokevirtual 268, 3) := dl_10_x 6 rfl
theorem dM_1805 : decode code 1805 = .ok (.if_icmp .eq 1451, 3) := dl_10_x 7 rfl
theorem dM_1808 : decode code 1808 = .ok (.iconst 0, 1) := dl_10_x 8 rfl
theorem dM_1809 : decode code 1809 = .ok (.ireturn, 1) := dl_10_x 9 rfl
theorem dM_1810 : decode code 1810 = .ok (.aload_n 1, 1) := dl_10_x 10 rfl
theorem dM_1811 : decode code 1811 = .ok (.invokevirtual 269, 3) := dl_10_x 11 rfl
theorem dM_1814 : decode code 1814 = .ok (.aload_n 2, 1) := dl_10_x 12 rfl
theorem dM_1815 : decode code 1815 = .ok (.invokevirtual 272, 3) := dl_10_x 13 rfl
theorem dM_1818 : decode code 1818 = .ok (.if_icmp .eq 1438, 3) := dl_10_x 14 rfl
theorem dM_1821 : decode code 1821 = .ok (.iconst 0, 1) := dl_10_x 15 rfl
theorem dM_1822 : decode code 1822 = .ok (.ireturn, 1) := dl_10_x 16 rfl
theorem dM_1823 : decode code 1823 = .ok (.aload_n 1, 1) := dl_10_x 17 rfl
theorem dM_1824 : decode code 1824 = .ok (.invokevirtual 273, 3) := dl_10_x 18 rfl
theorem dM_1827 : decode code 1827 = .ok (.aload_n 2, 1) := dl_10_x 19 rfl
theorem dM_1828 : decode code 1828 = .ok (.invokevirtual 277, 3) := dl_10_x 20 rfl
theorem dM_1831 : decode code 1831 = .ok (.if_icmp .eq 1425, 3) := dl_10_x 21 rfl
theorem dM_1834 : decode code 1834 = .ok (.iconst 0, 1) := dl_10_x 22 rfl
theorem dM_1835 : decode code 1835 = .ok (.ireturn, 1) := dl_10_x 23 rfl
theorem dM_1836 : decode code 1836 = .ok (.aload_n 1, 1) := dl_10_x 24 rfl
theorem dM_1837 : decode code 1837 = .ok (.aload_n 0, 1) := dl_10_x 25 rfl
theorem dM_1838 : decode code 1838 = .ok (.iload 4, 2) := dl_10_x 26 rfl
theorem dM_1840 : decode code 1840 = .ok (.iconst 1, 1) := dl_10_x 27 rfl
theorem dM_1841 : decode code 1841 = .ok (.iadd, 1) := dl_10_x 28 rfl
theorem dM_1842 : decode code 1842 = .ok (.iaload, 1) := dl_10_x 29 rfl
theorem dM_1843 : decode code 1843 = .ok (.aload_n 0, 1) := dl_10_x 30 rfl
theorem dM_1844 : decode code 1844 = .ok (.iload 4, 2) := dl_10_x 31 rfl
theorem dM_1846 : decode code 1846 = .ok (.iconst 2, 1) := dl_10_x 32 rfl
theorem dM_1847 : decode code 1847 = .ok (.iadd, 1) := dl_10_x 33 rfl
theorem dM_1848 : decode code 1848 = .ok (.iaload, 1) := dl_10_x 34 rfl
theorem dM_1849 : decode code 1849 = .ok (.aload_n 0, 1) := dl_10_x 35 rfl
theorem dM_1850 : decode code 1850 = .ok (.iload 4, 2) := dl_10_x 36 rfl
theorem dM_1852 : decode code 1852 = .ok (.iconst 3, 1) := dl_10_x 37 rfl
theorem dM_1853 : decode code 1853 = .ok (.iadd, 1) := dl_10_x 38 rfl
theorem dM_1854 : decode code 1854 = .ok (.iaload, 1) := dl_10_x 39 rfl
theorem dM_1855 : decode code 1855 = .ok (.aload_n 3, 1) := dl_10_x 40 rfl
theorem dM_1856 : decode code 1856 = .ok (.invokestatic 278, 3) := dl_10_x 41 rfl
theorem dM_1859 : decode code 1859 = .ok (.istore 5, 2) := dl_10_x 42 rfl
theorem dM_1861 : decode code 1861 = .ok (.aload_n 2, 1) := dl_10_x 43 rfl
theorem dM_1862 : decode code 1862 = .ok (.aload_n 0, 1) := dl_10_x 44 rfl
theorem dM_1863 : decode code 1863 = .ok (.iload 4, 2) := dl_10_x 45 rfl
theorem dM_1865 : decode code 1865 = .ok (.iconst 1, 1) := dl_10_x 46 rfl
theorem dM_1866 : decode code 1866 = .ok (.iadd, 1) := dl_10_x 47 rfl
theorem dM_1867 : decode code 1867 = .ok (.iaload, 1) := dl_10_x 48 rfl
theorem dM_1868 : decode code 1868 = .ok (.aload_n 0, 1) := dl_10_x 49 rfl
theorem dM_1869 : decode code 1869 = .ok (.iload 4, 2) := dl_10_x 50 rfl
theorem dM_1871 : decode code 1871 = .ok (.iconst 2, 1) := dl_10_x 51 rfl
theorem dM_1872 : decode code 1872 = .ok (.iadd, 1) := dl_10_x 52 rfl
theorem dM_1873 : decode code 1873 = .ok (.iaload, 1) := dl_10_x 53 rfl
theorem dM_1874 : decode code 1874 = .ok (.aload_n 0, 1) := dl_10_x 54 rfl
theorem dM_1875 : decode code 1875 = .ok (.iload 4, 2) := dl_10_x 55 rfl
theorem dM_1877 : decode code 1877 = .ok (.iconst 3, 1) := dl_10_x 56 rfl
theorem dM_1878 : decode code 1878 = .ok (.iadd, 1) := dl_10_x 57 rfl
theorem dM_1879 : decode code 1879 = .ok (.iaload, 1) := dl_10_x 58 rfl
theorem dM_1880 : decode code 1880 = .ok (.invokevirtual 281, 3) := dl_10_x 59 rfl
theorem dM_1883 : decode code 1883 = .ok (.istore 6, 2) := dl_10_x 60 rfl
theorem dM_1885 : decode code 1885 = .ok (.aload_n 2, 1) := dl_10_x 61 rfl
theorem dM_1886 : decode code 1886 = .ok (.invokevirtual 179, 3) := dl_10_x 62 rfl
theorem dM_1889 : decode code 1889 = .ok (.iload 5, 2) := dl_10_x 63 rfl
theorem dM_1891 : decode code 1891 = .ok (.if_icmp .eq 5, 3) := dl_10_x 64 rfl
theorem dM_1894 : decode code 1894 = .ok (.iconst 0, 1) := dl_10_x 65 rfl
theorem dM_1895 : decode code 1895 = .ok (.ireturn, 1) := dl_10_x 66 rfl
theorem dM_1896 : decode code 1896 = .ok (.iload 5, 2) := dl_10_x 67 rfl
theorem dM_1898 : decode code 1898 = .ok (.ifCond .ne 15, 3) := dl_10_x 68 rfl
theorem dM_1901 : decode code 1901 = .ok (.aload_n 3, 1) := dl_10_x 69 rfl
theorem dM_1902 : decode code 1902 = .ok (.iconst 0, 1) := dl_10_x 70 rfl
theorem dM_1903 : decode code 1903 = .ok (.laload, 1) := dl_10_x 71 rfl
theorem dM_1904 : decode code 1904 = .ok (.iload 6, 2) := dl_10_x 72 rfl
theorem dM_1906 : decode code 1906 = .ok (.i2l, 1) := dl_10_x 73 rfl
theorem dM_1907 : decode code 1907 = .ok (.lcmp, 1) := dl_10_x 74 rfl
theorem dM_1908 : decode code 1908 = .ok (.ifCond .eq 5, 3) := dl_10_x 75 rfl
theorem dM_1911 : decode code 1911 = .ok (.iconst 0, 1) := dl_10_x 76 rfl
theorem dM_1912 : decode code 1912 = .ok (.ireturn, 1) := dl_10_x 77 rfl
theorem dM_1913 : decode code 1913 = .ok (.goto 1343, 3) := dl_10_x 78 rfl
theorem dM_1916 : decode code 1916 = .ok (.aload_n 1, 1) := dl_10_x 79 rfl
theorem dM_1917 : decode code 1917 = .ok (.aload_n 0, 1) := dl_10_x 80 rfl
theorem dM_1918 : decode code 1918 = .ok (.iload 4, 2) := dl_10_x 81 rfl
theorem dM_1920 : decode code 1920 = .ok (.iconst 1, 1) := dl_10_x 82 rfl
theorem dM_1921 : decode code 1921 = .ok (.iadd, 1) := dl_10_x 83 rfl
theorem dM_1922 : decode code 1922 = .ok (.iaload, 1) := dl_10_x 84 rfl
theorem dM_1923 : decode code 1923 = .ok (.aload_n 0, 1) := dl_10_x 85 rfl
theorem dM_1924 : decode code 1924 = .ok (.iload 4, 2) := dl_10_x 86 rfl
theorem dM_1926 : decode code 1926 = .ok (.iconst 2, 1) := dl_10_x 87 rfl
theorem dM_1927 : decode code 1927 = .ok (.iadd, 1) := dl_10_x 88 rfl
theorem dM_1928 : decode code 1928 = .ok (.iaload, 1) := dl_10_x 89 rfl
theorem dM_1929 : decode code 1929 = .ok (.aload_n 0, 1) := dl_10_x 90 rfl
theorem dM_1930 : decode code 1930 = .ok (.iload 4, 2) := dl_10_x 91 rfl
theorem dM_1932 : decode code 1932 = .ok (.iconst 3, 1) := dl_10_x 92 rfl
theorem dM_1933 : decode code 1933 = .ok (.iadd, 1) := dl_10_x 93 rfl
theorem dM_1934 : decode code 1934 = .ok (.iaload, 1) := dl_10_x 94 rfl
theorem dM_1935 : decode code 1935 = .ok (.aload_n 0, 1) := dl_10_x 95 rfl
theorem dM_1936 : decode code 1936 = .ok (.iload 4, 2) := dl_10_x 96 rfl
theorem dM_1938 : decode code 1938 = .ok (.iconst 4, 1) := dl_10_x 97 rfl
theorem dM_1939 : decode code 1939 = .ok (.iadd, 1) := dl_10_x 98 rfl
theorem dM_1940 : decode code 1940 = .ok (.iaload, 1) := dl_10_x 99 rfl
