/-! THE LAW'S OWN BODY, instruction by instruction: 1941 to 2088 -/
def dl_11 : List (Nat × Instr × Nat) := [(1941, .aload_n 3, 1), (1942, .invokestatic 282, 3), (1945, .istore 5, 2), (1947, .aload_n 2, 1), (1948, .aload_n 0, 1), (1949, .iload 4, 2), (1951, .iconst 1, 1), (1952, .iadd, 1), (1953, .iaload, 1), (1954, .aload_n 0, 1), (1955, .iload 4, 2), (1957, .iconst 2, 1), (1958, .iadd, 1), (1959, .iaload, 1), (1960, .aload_n 0, 1), (1961, .iload 4, 2), (1963, .iconst 3, 1), (1964, .iadd, 1), (1965, .iaload, 1), (1966, .aload_n 0, 1), (1967, .iload 4, 2), (1969, .iconst 4, 1), (1970, .iadd, 1), (1971, .iaload, 1), (1972, .invokevirtual 284, 3), (1975, .istore 6, 2), (1977, .aload_n 2, 1), (1978, .invokevirtual 179, 3), (1981, .iload 5, 2), (1983, .if_icmp .eq 5, 3), (1986, .iconst 0, 1), (1987, .ireturn, 1), (1988, .iload 5, 2), (1990, .ifCond .ne 15, 3), (1993, .aload_n 3, 1), (1994, .iconst 0, 1), (1995, .laload, 1), (1996, .iload 6, 2), (1998, .i2l, 1), (1999, .lcmp, 1), (2000, .ifCond .eq 5, 3), (2003, .iconst 0, 1), (2004, .ireturn, 1), (2005, .goto 1251, 3), (2008, .aload_n 1, 1), (2009, .aload_n 0, 1), (2010, .iload 4, 2), (2012, .iconst 1, 1), (2013, .iadd, 1), (2014, .iaload, 1), (2015, .aload_n 0, 1), (2016, .iload 4, 2), (2018, .iconst 2, 1), (2019, .iadd, 1), (2020, .iaload, 1), (2021, .aload_n 0, 1), (2022, .iload 4, 2), (2024, .iconst 3, 1), (2025, .iadd, 1), (2026, .iaload, 1), (2027, .aload_n 3, 1), (2028, .invokestatic 285, 3), (2031, .istore 5, 2), (2033, .aload_n 2, 1), (2034, .aload_n 0, 1), (2035, .iload 4, 2), (2037, .iconst 1, 1), (2038, .iadd, 1), (2039, .iaload, 1), (2040, .aload_n 0, 1), (2041, .iload 4, 2), (2043, .iconst 2, 1), (2044, .iadd, 1), (2045, .iaload, 1), (2046, .aload_n 0, 1), (2047, .iload 4, 2), (2049, .iconst 3, 1), (2050, .iadd, 1), (2051, .iaload, 1), (2052, .invokevirtual 287, 3), (2055, .istore 6, 2), (2057, .aload_n 2, 1), (2058, .invokevirtual 179, 3), (2061, .iload 5, 2), (2063, .if_icmp .eq 5, 3), (2066, .iconst 0, 1), (2067, .ireturn, 1), (2068, .iload 5, 2), (2070, .ifCond .ne 15, 3), (2073, .aload_n 3, 1), (2074, .iconst 0, 1), (2075, .laload, 1), (2076, .iload 6, 2), (2078, .i2l, 1), (2079, .lcmp, 1), (2080, .ifCond .eq 5, 3), (2083, .iconst 0, 1), (2084, .ireturn, 1), (2085, .goto 1171, 3), (2088, .aload_n 1, 1)]
theorem dl_11_ok : ∀ q ∈ dl_11, decode code q.1 = .ok (q.2.1, q.2.2) := by decide +kernel
theorem dl_11_x (k : Nat) {pc : Nat} {i : Instr} {n : Nat} (h : dl_11[k]? = some (pc, i, n)) : decode code pc = .ok (i, n) := dl_11_ok (pc, i, n) (List.mem_of_getElem? h)
theorem dM_1941 : decode code 1941 = .ok (.aload_n 3, 1) := dl_11_x 0 rfl
theorem dM_1942 : decode code 1942 = .ok (.invokestatic 282, 3) := dl_11_x 1 rfl
theorem dM_1945 : decode code 1945 = .ok (.istore 5, 2) := dl_11_x 2 rfl
theorem dM_1947 : decode code 1947 = .ok (.aload_n 2, 1) := dl_11_x 3 rfl
theorem dM_1948 : decode code 1948 = .ok (.aload_n 0, 1) := dl_11_x 4 rfl
theorem dM_1949 : decode code 1949 = .ok (.iload 4, 2) := dl_11_x 5 rfl
theorem dM_1951 : decode code 1951 = .ok (.iconst 1, 1) := dl_11_x 6 rfl
theorem dM_1952 : decode code 1952 = .ok (.iadd, 1) := dl_11_x 7 rfl
theorem dM_1953 : decode code 1953 = .ok (.iaload, 1) := dl_11_x 8 rfl
theorem dM_1954 : decode code 1954 = .ok (.aload_n 0, 1) := dl_11_x 9 rfl
theorem dM_1955 : decode code 1955 = .ok (.iload 4, 2) := dl_11_x 10 rfl
theorem dM_1957 : decode code 1957 = .ok (.iconst 2, 1) := dl_11_x 11 rfl
theorem dM_1958 : decode code 1958 = .ok (.iadd, 1) := dl_11_x 12 rfl
theorem dM_1959 : decode code 1959 = .ok (.iaload, 1) := dl_11_x 13 rfl
theorem dM_1960 : decode code 1960 = .ok (.aload_n 0, 1) := dl_11_x 14 rfl
theorem dM_1961 : decode code 1961 = .ok (.iload 4, 2) := dl_11_x 15 rfl
theorem dM_1963 : decode code 1963 = .ok (.iconst 3, 1) := dl_11_x 16 rfl
theorem dM_1964 : decode code 1964 = .ok (.iadd, 1) := dl_11_x 17 rfl
theorem dM_1965 : decode code 1965 = .ok (.iaload, 1) := dl_11_x 18 rfl
theorem dM_1966 : decode code 1966 = .ok (.aload_n 0, 1) := dl_11_x 19 rfl
theorem dM_1967 : decode code 1967 = .ok (.iload 4, 2) := dl_11_x 20 rfl
theorem dM_1969 : decode code 1969 = .ok (.iconst 4, 1) := dl_11_x 21 rfl
theorem dM_1970 : decode code 1970 = .ok (.iadd, 1) := dl_11_x 22 rfl
theorem dM_1971 : decode code 1971 = .ok (.iaload, 1) := dl_11_x 23 rfl
theorem dM_1972 : decode code 1972 = .ok (.invokevirtual 284, 3) := dl_11_x 24 rfl
theorem dM_1975 : decode code 1975 = .ok (.istore 6, 2) := dl_11_x 25 rfl
theorem dM_1977 : decode code 1977 = .ok (.aload_n 2, 1) := dl_11_x 26 rfl
theorem dM_1978 : decode code 1978 = .ok (.invokevirtual 179, 3) := dl_11_x 27 rfl
theorem dM_1981 : decode code 1981 = .ok (.iload 5, 2) := dl_11_x 28 rfl
theorem dM_1983 : decode code 1983 = .ok (.if_icmp .eq 5, 3) := dl_11_x 29 rfl
theorem dM_1986 : decode code 1986 = .ok (.iconst 0, 1) := dl_11_x 30 rfl
theorem dM_1987 : decode code 1987 = .ok (.ireturn, 1) := dl_11_x 31 rfl
theorem dM_1988 : decode code 1988 = .ok (.iload 5, 2) := dl_11_x 32 rfl
theorem dM_1990 : decode code 1990 = .ok (.ifCond .ne 15, 3) := dl_11_x 33 rfl
theorem dM_1993 : decode code 1993 = .ok (.aload_n 3, 1) := dl_11_x 34 rfl
theorem dM_1994 : decode code 1994 = .ok (.iconst 0, 1) := dl_11_x 35 rfl
theorem dM_1995 : decode code 1995 = .ok (.laload, 1) := dl_11_x 36 rfl
theorem dM_1996 : decode code 1996 = .ok (.iload 6, 2) := dl_11_x 37 rfl
theorem dM_1998 : decode code 1998 = .ok (.i2l, 1) := dl_11_x 38 rfl
theorem dM_1999 : decode code 1999 = .ok (.lcmp, 1) := dl_11_x 39 rfl
theorem dM_2000 : decode code 2000 = .ok (.ifCond .eq 5, 3) := dl_11_x 40 rfl
theorem dM_2003 : decode code 2003 = .ok (.iconst 0, 1) := dl_11_x 41 rfl
theorem dM_2004 : decode code 2004 = .ok (.ireturn, 1) := dl_11_x 42 rfl
theorem dM_2005 : decode code 2005 = .ok (.goto 1251, 3) := dl_11_x 43 rfl
theorem dM_2008 : decode code 2008 = .ok (.aload_n 1, 1) := dl_11_x 44 rfl
theorem dM_2009 : decode code 2009 = .ok (.aload_n 0, 1) := dl_11_x 45 rfl
theorem dM_2010 : decode code 2010 = .ok (.iload 4, 2) := dl_11_x 46 rfl
theorem dM_2012 : decode code 2012 = .ok (.iconst 1, 1) := dl_11_x 47 rfl
theorem dM_2013 : decode code 2013 = .ok (.iadd, 1) := dl_11_x 48 rfl
theorem dM_2014 : decode code 2014 = .ok (.iaload, 1) := dl_11_x 49 rfl
theorem dM_2015 : decode code 2015 = .ok (.aload_n 0, 1) := dl_11_x 50 rfl
theorem dM_2016 : decode code 2016 = .ok (.iload 4, 2) := dl_11_x 51 rfl
theorem dM_2018 : decode code 2018 = .ok (.iconst 2, 1) := dl_11_x 52 rfl
theorem dM_2019 : decode code 2019 = .ok (.iadd, 1) := dl_11_x 53 rfl
theorem dM_2020 : decode code 2020 = .ok (.iaload, 1) := dl_11_x 54 rfl
theorem dM_2021 : decode code 2021 = .ok (.aload_n 0, 1) := dl_11_x 55 rfl
theorem dM_2022 : decode code 2022 = .ok (.iload 4, 2) := dl_11_x 56 rfl
theorem dM_2024 : decode code 2024 = .ok (.iconst 3, 1) := dl_11_x 57 rfl
theorem dM_2025 : decode code 2025 = .ok (.iadd, 1) := dl_11_x 58 rfl
theorem dM_2026 : decode code 2026 = .ok (.iaload, 1) := dl_11_x 59 rfl
theorem dM_2027 : decode code 2027 = .ok (.aload_n 3, 1) := dl_11_x 60 rfl
theorem dM_2028 : decode code 2028 = .ok (.invokestatic 285, 3) := dl_11_x 61 rfl
theorem dM_2031 : decode code 2031 = .ok (.istore 5, 2) := dl_11_x 62 rfl
theorem dM_2033 : decode code 2033 = .ok (.aload_n 2, 1) := dl_11_x 63 rfl
theorem dM_2034 : decode code 2034 = .ok (.aload_n 0, 1) := dl_11_x 64 rfl
theorem dM_2035 : decode code 2035 = .ok (.iload 4, 2) := dl_11_x 65 rfl
theorem dM_2037 : decode code 2037 = .ok (.iconst 1, 1) := dl_11_x 66 rfl
theorem dM_2038 : decode code 2038 = .ok (.iadd, 1) := dl_11_x 67 rfl
theorem dM_2039 : decode code 2039 = .ok (.iaload, 1) := dl_11_x 68 rfl
theorem dM_2040 : decode code 2040 = .ok (.aload_n 0, 1) := dl_11_x 69 rfl
theorem dM_2041 : decode code 2041 = .ok (.iload 4, 2) := dl_11_x 70 rfl
theorem dM_2043 : decode code 2043 = .ok (.iconst 2, 1) := dl_11_x 71 rfl
theorem dM_2044 : decode code 2044 = .ok (.iadd, 1) := dl_11_x 72 rfl
theorem dM_2045 : decode code 2045 = .ok (.iaload, 1) := dl_11_x 73 rfl
theorem dM_2046 : decode code 2046 = .ok (.aload_n 0, 1) := dl_11_x 74 rfl
theorem dM_2047 : decode code 2047 = .ok (.iload 4, 2) := dl_11_x 75 rfl
theorem dM_2049 : decode code 2049 = .ok (.iconst 3, 1) := dl_11_x 76 rfl
theorem dM_2050 : decode code 2050 = .ok (.iadd, 1) := dl_11_x 77 rfl
theorem dM_2051 : decode code 2051 = .ok (.iaload, 1) := dl_11_x 78 rfl
theorem dM_2052 : decode code 2052 = .ok (.invokevirtual 287, 3) := dl_11_x 79 rfl
theorem dM_2055 : decode code 2055 = .ok (.istore 6, 2) := dl_11_x 80 rfl
theorem dM_2057 : decode code 2057 = .ok (.aload_n 2, 1) := dl_11_x 81 rfl
theorem dM_2058 : decode code 2058 = .ok (.invokevirtual 179, 3) := dl_11_x 82 rfl
theorem dM_2061 : decode code 2061 = .ok (.iload 5, 2) := dl_11_x 83 rfl
theorem dM_2063 : decode code 2063 = .ok (.if_icmp .eq 5, 3) := dl_11_x 84 rfl
theorem dM_2066 : decode code 2066 = .ok (.iconst 0, 1) := dl_11_x 85 rfl
theorem dM_2067 : decode code 2067 = .ok (.ireturn, 1) := dl_11_x 86 rfl
theorem dM_2068 : decode code 2068 = .ok (.iload 5, 2) := dl_11_x 87 rfl
theorem dM_2070 : decode code 2070 = .ok (.ifCond .ne 15, 3) := dl_11_x 88 rfl
theorem dM_2073 : decode code 2073 = .ok (.aload_n 3, 1) := dl_11_x 89 rfl
theorem dM_2074 : decode code 2074 = .ok (.iconst 0, 1) := dl_11_x 90 rfl
theorem dM_2075 : decode code 2075 = .ok (.laload, 1) := dl_11_x 91 rfl
theorem dM_2076 : decode code 2076 = .ok (.iload 6, 2) := dl_11_x 92 rfl
theorem dM_2078 : decode code 2078 = .ok (.i2l, 1) := dl_11_x 93 rfl
theorem dM_2079 : decode code 2079 = .ok (.lcmp, 1) := dl_11_x 94 rfl
theorem dM_2080 : decode code 2080 = .ok (.ifCond .eq 5, 3) := dl_11_x 95 rfl
theorem dM_2083 : decode code 2083 = .ok (.iconst 0, 1) := dl_11_x 96 rfl
theorem dM_2084 : decode code 2084 = .ok (.ireturn, 1) := dl_11_x 97 rfl
theorem dM_2085 : decode code 2085 = .ok (.goto 1171, 3) := dl_11_x 98 rfl
theorem dM_2088 : decode code 2088 = .ok (.aload_n 1, 1) := dl_11_x 99 rfl
