/-! THE LAW'S OWN BODY, instruction by instruction: 2089 to 2236 -/
def dl_12 : List (Nat × Instr × Nat) := [(2089, .aload_n 0, 1), (2090, .iload 4, 2), (2092, .iconst 1, 1), (2093, .iadd, 1), (2094, .iaload, 1), (2095, .aload_n 0, 1), (2096, .iload 4, 2), (2098, .iconst 2, 1), (2099, .iadd, 1), (2100, .iaload, 1), (2101, .aload_n 0, 1), (2102, .iload 4, 2), (2104, .iconst 3, 1), (2105, .iadd, 1), (2106, .iaload, 1), (2107, .aload_n 3, 1), (2108, .invokestatic 288, 3), (2111, .istore 5, 2), (2113, .aload_n 2, 1), (2114, .aload_n 0, 1), (2115, .iload 4, 2), (2117, .iconst 1, 1), (2118, .iadd, 1), (2119, .iaload, 1), (2120, .aload_n 0, 1), (2121, .iload 4, 2), (2123, .iconst 2, 1), (2124, .iadd, 1), (2125, .iaload, 1), (2126, .aload_n 0, 1), (2127, .iload 4, 2), (2129, .iconst 3, 1), (2130, .iadd, 1), (2131, .iaload, 1), (2132, .invokevirtual 290, 3), (2135, .istore 6, 2), (2137, .aload_n 2, 1), (2138, .invokevirtual 179, 3), (2141, .iload 5, 2), (2143, .if_icmp .eq 5, 3), (2146, .iconst 0, 1), (2147, .ireturn, 1), (2148, .iload 5, 2), (2150, .ifCond .ne 15, 3), (2153, .aload_n 3, 1), (2154, .iconst 0, 1), (2155, .laload, 1), (2156, .iload 6, 2), (2158, .i2l, 1), (2159, .lcmp, 1), (2160, .ifCond .eq 5, 3), (2163, .iconst 0, 1), (2164, .ireturn, 1), (2165, .goto 1091, 3), (2168, .aload_n 1, 1), (2169, .aload_n 0, 1), (2170, .iload 4, 2), (2172, .iconst 1, 1), (2173, .iadd, 1), (2174, .iaload, 1), (2175, .aload_n 0, 1), (2176, .iload 4, 2), (2178, .iconst 2, 1), (2179, .iadd, 1), (2180, .iaload, 1), (2181, .aload_n 3, 1), (2182, .invokestatic 291, 3), (2185, .istore 5, 2), (2187, .aload_n 2, 1), (2188, .aload_n 0, 1), (2189, .iload 4, 2), (2191, .iconst 1, 1), (2192, .iadd, 1), (2193, .iaload, 1), (2194, .aload_n 0, 1), (2195, .iload 4, 2), (2197, .iconst 2, 1), (2198, .iadd, 1), (2199, .iaload, 1), (2200, .invokevirtual 293, 3), (2203, .istore 6, 2), (2205, .aload_n 2, 1), (2206, .invokevirtual 179, 3), (2209, .iload 5, 2), (2211, .if_icmp .eq 5, 3), (2214, .iconst 0, 1), (2215, .ireturn, 1), (2216, .iload 5, 2), (2218, .ifCond .ne 15, 3), (2221, .aload_n 3, 1), (2222, .iconst 0, 1), (2223, .laload, 1), (2224, .iload 6, 2), (2226, .i2l, 1), (2227, .lcmp, 1), (2228, .ifCond .eq 5, 3), (2231, .iconst 0, 1), (2232, .ireturn, 1), (2233, .goto 1023, 3), (2236, .aload_n 1, 1)]
theorem dl_12_ok : ∀ q ∈ dl_12, decode code q.1 = .ok (q.2.1, q.2.2) := by decide +kernel
theorem dl_12_x (k : Nat) {pc : Nat} {i : Instr} {n : Nat} (h : dl_12[k]? = some (pc, i, n)) : decode code pc = .ok (i, n) := dl_12_ok (pc, i, n) (List.mem_of_getElem? h)
theorem dM_2089 : decode code 2089 = .ok (.aload_n 0, 1) := dl_12_x 0 rfl
theorem dM_2090 : decode code 2090 = .ok (.iload 4, 2) := dl_12_x 1 rfl
theorem dM_2092 : decode code 2092 = .ok (.iconst 1, 1) := dl_12_x 2 rfl
theorem dM_2093 : decode code 2093 = .ok (.iadd, 1) := dl_12_x 3 rfl
theorem dM_2094 : decode code 2094 = .ok (.iaload, 1) := dl_12_x 4 rfl
theorem dM_2095 : decode code 2095 = .ok (.aload_n 0, 1) := dl_12_x 5 rfl
theorem dM_2096 : decode code 2096 = .ok (.iload 4, 2) := dl_12_x 6 rfl
theorem dM_2098 : decode code 2098 = .ok (.iconst 2, 1) := dl_12_x 7 rfl
theorem dM_2099 : decode code 2099 = .ok (.iadd, 1) := dl_12_x 8 rfl
theorem dM_2100 : decode code 2100 = .ok (.iaload, 1) := dl_12_x 9 rfl
theorem dM_2101 : decode code 2101 = .ok (.aload_n 0, 1) := dl_12_x 10 rfl
theorem dM_2102 : decode code 2102 = .ok (.iload 4, 2) := dl_12_x 11 rfl
theorem dM_2104 : decode code 2104 = .ok (.iconst 3, 1) := dl_12_x 12 rfl
theorem dM_2105 : decode code 2105 = .ok (.iadd, 1) := dl_12_x 13 rfl
theorem dM_2106 : decode code 2106 = .ok (.iaload, 1) := dl_12_x 14 rfl
theorem dM_2107 : decode code 2107 = .ok (.aload_n 3, 1) := dl_12_x 15 rfl
theorem dM_2108 : decode code 2108 = .ok (.invokestatic 288, 3) := dl_12_x 16 rfl
theorem dM_2111 : decode code 2111 = .ok (.istore 5, 2) := dl_12_x 17 rfl
theorem dM_2113 : decode code 2113 = .ok (.aload_n 2, 1) := dl_12_x 18 rfl
theorem dM_2114 : decode code 2114 = .ok (.aload_n 0, 1) := dl_12_x 19 rfl
theorem dM_2115 : decode code 2115 = .ok (.iload 4, 2) := dl_12_x 20 rfl
theorem dM_2117 : decode code 2117 = .ok (.iconst 1, 1) := dl_12_x 21 rfl
theorem dM_2118 : decode code 2118 = .ok (.iadd, 1) := dl_12_x 22 rfl
theorem dM_2119 : decode code 2119 = .ok (.iaload, 1) := dl_12_x 23 rfl
theorem dM_2120 : decode code 2120 = .ok (.aload_n 0, 1) := dl_12_x 24 rfl
theorem dM_2121 : decode code 2121 = .ok (.iload 4, 2) := dl_12_x 25 rfl
theorem dM_2123 : decode code 2123 = .ok (.iconst 2, 1) := dl_12_x 26 rfl
theorem dM_2124 : decode code 2124 = .ok (.iadd, 1) := dl_12_x 27 rfl
theorem dM_2125 : decode code 2125 = .ok (.iaload, 1) := dl_12_x 28 rfl
theorem dM_2126 : decode code 2126 = .ok (.aload_n 0, 1) := dl_12_x 29 rfl
theorem dM_2127 : decode code 2127 = .ok (.iload 4, 2) := dl_12_x 30 rfl
theorem dM_2129 : decode code 2129 = .ok (.iconst 3, 1) := dl_12_x 31 rfl
theorem dM_2130 : decode code 2130 = .ok (.iadd, 1) := dl_12_x 32 rfl
theorem dM_2131 : decode code 2131 = .ok (.iaload, 1) := dl_12_x 33 rfl
theorem dM_2132 : decode code 2132 = .ok (.invokevirtual 290, 3) := dl_12_x 34 rfl
theorem dM_2135 : decode code 2135 = .ok (.istore 6, 2) := dl_12_x 35 rfl
theorem dM_2137 : decode code 2137 = .ok (.aload_n 2, 1) := dl_12_x 36 rfl
theorem dM_2138 : decode code 2138 = .ok (.invokevirtual 179, 3) := dl_12_x 37 rfl
theorem dM_2141 : decode code 2141 = .ok (.iload 5, 2) := dl_12_x 38 rfl
theorem dM_2143 : decode code 2143 = .ok (.if_icmp .eq 5, 3) := dl_12_x 39 rfl
theorem dM_2146 : decode code 2146 = .ok (.iconst 0, 1) := dl_12_x 40 rfl
theorem dM_2147 : decode code 2147 = .ok (.ireturn, 1) := dl_12_x 41 rfl
theorem dM_2148 : decode code 2148 = .ok (.iload 5, 2) := dl_12_x 42 rfl
theorem dM_2150 : decode code 2150 = .ok (.ifCond .ne 15, 3) := dl_12_x 43 rfl
theorem dM_2153 : decode code 2153 = .ok (.aload_n 3, 1) := dl_12_x 44 rfl
theorem dM_2154 : decode code 2154 = .ok (.iconst 0, 1) := dl_12_x 45 rfl
theorem dM_2155 : decode code 2155 = .ok (.laload, 1) := dl_12_x 46 rfl
theorem dM_2156 : decode code 2156 = .ok (.iload 6, 2) := dl_12_x 47 rfl
theorem dM_2158 : decode code 2158 = .ok (.i2l, 1) := dl_12_x 48 rfl
theorem dM_2159 : decode code 2159 = .ok (.lcmp, 1) := dl_12_x 49 rfl
theorem dM_2160 : decode code 2160 = .ok (.ifCond .eq 5, 3) := dl_12_x 50 rfl
theorem dM_2163 : decode code 2163 = .ok (.iconst 0, 1) := dl_12_x 51 rfl
theorem dM_2164 : decode code 2164 = .ok (.ireturn, 1) := dl_12_x 52 rfl
theorem dM_2165 : decode code 2165 = .ok (.goto 1091, 3) := dl_12_x 53 rfl
theorem dM_2168 : decode code 2168 = .ok (.aload_n 1, 1) := dl_12_x 54 rfl
theorem dM_2169 : decode code 2169 = .ok (.aload_n 0, 1) := dl_12_x 55 rfl
theorem dM_2170 : decode code 2170 = .ok (.iload 4, 2) := dl_12_x 56 rfl
theorem dM_2172 : decode code 2172 = .ok (.iconst 1, 1) := dl_12_x 57 rfl
theorem dM_2173 : decode code 2173 = .ok (.iadd, 1) := dl_12_x 58 rfl
theorem dM_2174 : decode code 2174 = .ok (.iaload, 1) := dl_12_x 59 rfl
theorem dM_2175 : decode code 2175 = .ok (.aload_n 0, 1) := dl_12_x 60 rfl
theorem dM_2176 : decode code 2176 = .ok (.iload 4, 2) := dl_12_x 61 rfl
theorem dM_2178 : decode code 2178 = .ok (.iconst 2, 1) := dl_12_x 62 rfl
theorem dM_2179 : decode code 2179 = .ok (.iadd, 1) := dl_12_x 63 rfl
theorem dM_2180 : decode code 2180 = .ok (.iaload, 1) := dl_12_x 64 rfl
theorem dM_2181 : decode code 2181 = .ok (.aload_n 3, 1) := dl_12_x 65 rfl
theorem dM_2182 : decode code 2182 = .ok (.invokestatic 291, 3) := dl_12_x 66 rfl
theorem dM_2185 : decode code 2185 = .ok (.istore 5, 2) := dl_12_x 67 rfl
theorem dM_2187 : decode code 2187 = .ok (.aload_n 2, 1) := dl_12_x 68 rfl
theorem dM_2188 : decode code 2188 = .ok (.aload_n 0, 1) := dl_12_x 69 rfl
theorem dM_2189 : decode code 2189 = .ok (.iload 4, 2) := dl_12_x 70 rfl
theorem dM_2191 : decode code 2191 = .ok (.iconst 1, 1) := dl_12_x 71 rfl
theorem dM_2192 : decode code 2192 = .ok (.iadd, 1) := dl_12_x 72 rfl
theorem dM_2193 : decode code 2193 = .ok (.iaload, 1) := dl_12_x 73 rfl
theorem dM_2194 : decode code 2194 = .ok (.aload_n 0, 1) := dl_12_x 74 rfl
theorem dM_2195 : decode code 2195 = .ok (.iload 4, 2) := dl_12_x 75 rfl
theorem dM_2197 : decode code 2197 = .ok (.iconst 2, 1) := dl_12_x 76 rfl
theorem dM_2198 : decode code 2198 = .ok (.iadd, 1) := dl_12_x 77 rfl
theorem dM_2199 : decode code 2199 = .ok (.iaload, 1) := dl_12_x 78 rfl
theorem dM_2200 : decode code 2200 = .ok (.invokevirtual 293, 3) := dl_12_x 79 rfl
theorem dM_2203 : decode code 2203 = .ok (.istore 6, 2) := dl_12_x 80 rfl
theorem dM_2205 : decode code 2205 = .ok (.aload_n 2, 1) := dl_12_x 81 rfl
theorem dM_2206 : decode code 2206 = .ok (.invokevirtual 179, 3) := dl_12_x 82 rfl
theorem dM_2209 : decode code 2209 = .ok (.iload 5, 2) := dl_12_x 83 rfl
theorem dM_2211 : decode code 2211 = .ok (.if_icmp .eq 5, 3) := dl_12_x 84 rfl
theorem dM_2214 : decode code 2214 = .ok (.iconst 0, 1) := dl_12_x 85 rfl
theorem dM_2215 : decode code 2215 = .ok (.ireturn, 1) := dl_12_x 86 rfl
theorem dM_2216 : decode code 2216 = .ok (.iload 5, 2) := dl_12_x 87 rfl
theorem dM_2218 : decode code 2218 = .ok (.ifCond .ne 15, 3) := dl_12_x 88 rfl
theorem dM_2221 : decode code 2221 = .ok (.aload_n 3, 1) := dl_12_x 89 rfl
theorem dM_2222 : decode code 2222 = .ok (.iconst 0, 1) := dl_12_x 90 rfl
theorem dM_2223 : decode code 2223 = .ok (.laload, 1) := dl_12_x 91 rfl
theorem dM_2224 : decode code 2224 = .ok (.iload 6, 2) := dl_12_x 92 rfl
theorem dM_2226 : decode code 2226 = .ok (.i2l, 1) := dl_12_x 93 rfl
theorem dM_2227 : decode code 2227 = .ok (.lcmp, 1) := dl_12_x 94 rfl
theorem dM_2228 : decode code 2228 = .ok (.ifCond .eq 5, 3) := dl_12_x 95 rfl
theorem dM_2231 : decode code 2231 = .ok (.iconst 0, 1) := dl_12_x 96 rfl
theorem dM_2232 : decode code 2232 = .ok (.ireturn, 1) := dl_12_x 97 rfl
theorem dM_2233 : decode code 2233 = .ok (.goto 1023, 3) := dl_12_x 98 rfl
theorem dM_2236 : decode code 2236 = .ok (.aload_n 1, 1) := dl_12_x 99 rfl
