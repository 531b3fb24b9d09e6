/-! THE LAW'S OWN BODY, instruction by instruction: 0 to 396 -/
def dl_0 : List (Nat × Instr × Nat) := [(0, .new 8, 3), (3, .dup, 1), (4, .invokespecial 141, 3), (7, .astore_n 1, 1), (8, .new 142, 3), (11, .dup, 1), (12, .invokespecial 144, 3), (15, .astore_n 2, 1), (16, .iconst 1, 1), (17, .newarray .long, 2), (19, .astore_n 3, 1), (20, .iconst 0, 1), (21, .istore 4, 2), (23, .iload 4, 2), (25, .aload_n 0, 1), (26, .arraylength, 1), (27, .iconst 5, 1), (28, .isub, 1), (29, .if_icmp .gt 3233, 3), (32, .aload_n 0, 1), (33, .iload 4, 2), (35, .iaload, 1), (36, .bipush 63, 2), (38, .iand, 1), (39, .tableswitch 3217 0 55 #[237, 294, 307, 320, 333, 346, 359, 427, 495, 551, 619, 687, 743, 799, 891, 947, 1003, 1059, 1072, 1085, 1153, 1209, 1277, 1333, 1389, 1457, 1470, 1538, 1606, 1662, 1730, 1744, 1758, 1771, 1784, 1797, 1877, 1969, 2049, 2129, 2197, 2265, 2333, 2413, 2481, 2561, 2617, 2697, 2765, 2820, 2888, 2956, 3024, 3092, 3105, 3161], 237), (276, .aload_n 1, 1), (277, .aload_n 0, 1), (278, .iload 4, 2), (280, .iconst 1, 1), (281, .iadd, 1), (282, .iaload, 1), (283, .i2l, 1), (284, .bipush 32, 2), (286, .lshl, 1), (287, .aload_n 0, 1), (288, .iload 4, 2), (290, .iconst 2, 1), (291, .iadd, 1), (292, .iaload, 1), (293, .i2l, 1), (294, .ldc2_w 145, 3), (297, .land, 1), (298, .lor, 1), (299, .invokevirtual 147, 3), (302, .aload_n 2, 1), (303, .aload_n 0, 1), (304, .iload 4, 2), (306, .iconst 1, 1), (307, .iadd, 1), (308, .iaload, 1), (309, .i2l, 1), (310, .bipush 32, 2), (312, .lshl, 1), (313, .aload_n 0, 1), (314, .iload 4, 2), (316, .iconst 2, 1), (317, .iadd, 1), (318, .iaload, 1), (319, .i2l, 1), (320, .ldc2_w 145, 3), (323, .land, 1), (324, .lor, 1), (325, .invokevirtual 151, 3), (328, .if_icmp .eq 2928, 3), (331, .iconst 0, 1), (332, .ireturn, 1), (333, .aload_n 1, 1), (334, .invokevirtual 152, 3), (337, .aload_n 2, 1), (338, .invokevirtual 156, 3), (341, .if_icmp .eq 2915, 3), (344, .iconst 0, 1), (345, .ireturn, 1), (346, .aload_n 1, 1), (347, .invokevirtual 157, 3), (350, .aload_n 2, 1), (351, .invokevirtual 160, 3), (354, .if_icmp .eq 2902, 3), (357, .iconst 0, 1), (358, .ireturn, 1), (359, .aload_n 1, 1), (360, .invokevirtual 161, 3), (363, .aload_n 2, 1), (364, .invokevirtual 164, 3), (367, .if_icmp .eq 2889, 3), (370, .iconst 0, 1), (371, .ireturn, 1), (372, .aload_n 1, 1), (373, .invokevirtual 165, 3), (376, .aload_n 2, 1), (377, .invokevirtual 168, 3), (380, .if_icmp .eq 2876, 3), (383, .iconst 0, 1), (384, .ireturn, 1), (385, .aload_n 1, 1), (386, .invokevirtual 169, 3), (389, .aload_n 2, 1), (390, .invokevirtual 172, 3), (393, .if_icmp .eq 2863, 3), (396, .iconst 0, 1)]
theorem dl_0_ok : ∀ q ∈ dl_0, decode code q.1 = .ok (q.2.1, q.2.2) := by decide +kernel
theorem dl_0_x (k : Nat) {pc : Nat} {i : Instr} {n : Nat} (h : dl_0[k]? = some (pc, i, n)) : decode code pc = .ok (i, n) := dl_0_ok (pc, i, n) (List.mem_of_getElem? h)
theorem dM_0 : decode code 0 = .ok (.new 8, 3) := dl_0_x 0 rfl
theorem dM_3 : decode code 3 = .ok (.dup, 1) := dl_0_x 1 rfl
theorem dM_4 : decode code 4 = .ok (.invokespecial 141, 3) := dl_0_x 2 rfl
theorem dM_7 : decode code 7 = .ok (.astore_n 1, 1) := dl_0_x 3 rfl
theorem dM_8 : decode code 8 = .ok (.new 142, 3) := dl_0_x 4 rfl
theorem dM_11 : decode code 11 = .ok (.dup, 1) := dl_0_x 5 rfl
theorem dM_12 : decode code 12 = .ok (.invokespecial 144, 3) := dl_0_x 6 rfl
theorem dM_15 : decode code 15 = .ok (.astore_n 2, 1) := dl_0_x 7 rfl
theorem dM_16 : decode code 16 = .ok (.iconst 1, 1) := dl_0_x 8 rfl
theorem dM_17 : decode code 17 = .ok (.newarray .long, 2) := dl_0_x 9 rfl
theorem dM_19 : decode code 19 = .ok (.astore_n 3, 1) := dl_0_x 10 rfl
theorem dM_20 : decode code 20 = .ok (.iconst 0, 1) := dl_0_x 11 rfl
theorem dM_21 : decode code 21 = .ok (.istore 4, 2) := dl_0_x 12 rfl
theorem dM_23 : decode code 23 = .ok (.iload 4, 2) := dl_0_x 13 rfl
theorem dM_25 : decode code 25 = .ok (.aload_n 0, 1) := dl_0_x 14 rfl
theorem dM_26 : decode code 26 = .ok (.arraylength, 1) := dl_0_x 15 rfl
theorem dM_27 : decode code 27 = .ok (.iconst 5, 1) := dl_0_x 16 rfl
theorem dM_28 : decode code 28 = .ok (.isub, 1) := dl_0_x 17 rfl
theorem dM_29 : decode code 29 = .ok (.if_icmp .gt 3233, 3) := dl_0_x 18 rfl
theorem dM_32 : decode code 32 = .ok (.aload_n 0, 1) := dl_0_x 19 rfl
theorem dM_33 : decode code 33 = .ok (.iload 4, 2) := dl_0_x 20 rfl
theorem dM_35 : decode code 35 = .ok (.iaload, 1) := dl_0_x 21 rfl
theorem dM_36 : decode code 36 = .ok (.bipush 63, 2) := dl_0_x 22 rfl
theorem dM_38 : decode code 38 = .ok (.iand, 1) := dl_0_x 23 rfl
theorem dM_39 : decode code 39 = .ok (.tableswitch 3217 0 55 #[237, 294, 307, 320, 333, 346, 359, 427, 495, 551, 619, 687, 743, 799, 891, 947, 1003, 1059, 1072, 1085, 1153, 1209, 1277, 1333, 1389, 1457, 1470, 1538, 1606, 1662, 1730, 1744, 1758, 1771, 1784, 1797, 1877, 1969, 2049, 2129, 2197, 2265, 2333, 2413, 2481, 2561, 2617, 2697, 2765, 2820, 2888, 2956, 3024, 3092, 3105, 3161], 237) := dl_0_x 24 rfl
theorem dM_276 : decode code 276 = .ok (.aload_n 1, 1) := dl_0_x 25 rfl
theorem dM_277 : decode code 277 = .ok (.aload_n 0, 1) := dl_0_x 26 rfl
theorem dM_278 : decode code 278 = .ok (.iload 4, 2) := dl_0_x 27 rfl
theorem dM_280 : decode code 280 = .ok (.iconst 1, 1) := dl_0_x 28 rfl
theorem dM_281 : decode code 281 = .ok (.iadd, 1) := dl_0_x 29 rfl
theorem dM_282 : decode code 282 = .ok (.iaload, 1) := dl_0_x 30 rfl
theorem dM_283 : decode code 283 = .ok (.i2l, 1) := dl_0_x 31 rfl
theorem dM_284 : decode code 284 = .ok (.bipush 32, 2) := dl_0_x 32 rfl
theorem dM_286 : decode code 286 = .ok (.lshl, 1) := dl_0_x 33 rfl
theorem dM_287 : decode code 287 = .ok (.aload_n 0, 1) := dl_0_x 34 rfl
theorem dM_288 : decode code 288 = .ok (.iload 4, 2) := dl_0_x 35 rfl
theorem dM_290 : decode code 290 = .ok (.iconst 2, 1) := dl_0_x 36 rfl
theorem dM_291 : decode code 291 = .ok (.iadd, 1) := dl_0_x 37 rfl
theorem dM_292 : decode code 292 = .ok (.iaload, 1) := dl_0_x 38 rfl
theorem dM_293 : decode code 293 = .ok (.i2l, 1) := dl_0_x 39 rfl
theorem dM_294 : decode code 294 = .ok (.ldc2_w 145, 3) := dl_0_x 40 rfl
theorem dM_297 : decode code 297 = .ok (.land, 1) := dl_0_x 41 rfl
theorem dM_298 : decode code 298 = .ok (.lor, 1) := dl_0_x 42 rfl
theorem dM_299 : decode code 299 = .ok (.invokevirtual 147, 3) := dl_0_x 43 rfl
theorem dM_302 : decode code 302 = .ok (.aload_n 2, 1) := dl_0_x 44 rfl
theorem dM_303 : decode code 303 = .ok (.aload_n 0, 1) := dl_0_x 45 rfl
theorem dM_304 : decode code 304 = .ok (.iload 4, 2) := dl_0_x 46 rfl
theorem dM_306 : decode code 306 = .ok (.iconst 1, 1) := dl_0_x 47 rfl
theorem dM_307 : decode code 307 = .ok (.iadd, 1) := dl_0_x 48 rfl
theorem dM_308 : decode code 308 = .ok (.iaload, 1) := dl_0_x 49 rfl
theorem dM_309 : decode code 309 = .ok (.i2l, 1) := dl_0_x 50 rfl
theorem dM_310 : decode code 310 = .ok (.bipush 32, 2) := dl_0_x 51 rfl
theorem dM_312 : decode code 312 = .ok (.lshl, 1) := dl_0_x 52 rfl
theorem dM_313 : decode code 313 = .ok (.aload_n 0, 1) := dl_0_x 53 rfl
theorem dM_314 : decode code 314 = .ok (.iload 4, 2) := dl_0_x 54 rfl
theorem dM_316 : decode code 316 = .ok (.iconst 2, 1) := dl_0_x 55 rfl
theorem dM_317 : decode code 317 = .ok (.iadd, 1) := dl_0_x 56 rfl
theorem dM_318 : decode code 318 = .ok (.iaload, 1) := dl_0_x 57 rfl
theorem dM_319 : decode code 319 = .ok (.i2l, 1) := dl_0_x 58 rfl
theorem dM_320 : decode code 320 = .ok (.ldc2_w 145, 3) := dl_0_x 59 rfl
theorem dM_323 : decode code 323 = .ok (.land, 1) := dl_0_x 60 rfl
theorem dM_324 : decode code 324 = .ok (.lor, 1) := dl_0_x 61 rfl
theorem dM_325 : decode code 325 = .ok (.invokevirtual 151, 3) := dl_0_x 62 rfl
theorem dM_328 : decode code 328 = .ok (.if_icmp .eq 2928, 3) := dl_0_x 63 rfl
theorem dM_331 : decode code 331 = .ok (.iconst 0, 1) := dl_0_x 64 rfl
theorem dM_332 : decode code 332 = .ok (.ireturn, 1) := dl_0_x 65 rfl
theorem dM_333 : decode code 333 = .ok (.aload_n 1, 1) := dl_0_x 66 rfl
theorem dM_334 : decode code 334 = .ok (.invokevirtual 152, 3) := dl_0_x 67 rfl
theorem dM_337 : decode code 337 = .ok (.aload_n 2, 1) := dl_0_x 68 rfl
theorem dM_338 : decode code 338 = .ok (.invokevirtual 156, 3) := dl_0_x 69 rfl
theorem dM_341 : decode code 341 = .ok (.if_icmp .eq 2915, 3) := dl_0_x 70 rfl
theorem dM_344 : decode code 344 = .ok (.iconst 0, 1) := dl_0_x 71 rfl
theorem dM_345 : decode code 345 = .ok (.ireturn, 1) := dl_0_x 72 rfl
theorem dM_346 : decode code 346 = .ok (.aload_n 1, 1) := dl_0_x 73 rfl
theorem dM_347 : decode code 347 = .ok (.invokevirtual 157, 3) := dl_0_x 74 rfl
theorem dM_350 : decode code 350 = .ok (.aload_n 2, 1) := dl_0_x 75 rfl
theorem dM_351 : decode code 351 = .ok (.invokevirtual 160, 3) := dl_0_x 76 rfl
theorem dM_354 : decode code 354 = .ok (.if_icmp .eq 2902, 3) := dl_0_x 77 rfl
theorem dM_357 : decode code 357 = .ok (.iconst 0, 1) := dl_0_x 78 rfl
theorem dM_358 : decode code 358 = .ok (.ireturn, 1) := dl_0_x 79 rfl
theorem dM_359 : decode code 359 = .ok (.aload_n 1, 1) := dl_0_x 80 rfl
theorem dM_360 : decode code 360 = .ok (.invokevirtual 161, 3) := dl_0_x 81 rfl
theorem dM_363 : decode code 363 = .ok (.aload_n 2, 1) := dl_0_x 82 rfl
theorem dM_364 : decode code 364 = .ok (.invokevirtual 164, 3) := dl_0_x 83 rfl
theorem dM_367 : decode code 367 = .ok (.if_icmp .eq 2889, 3) := dl_0_x 84 rfl
theorem dM_370 : decode code 370 = .ok (.iconst 0, 1) := dl_0_x 85 rfl
theorem dM_371 : decode code 371 = .ok (.ireturn, 1) := dl_0_x 86 rfl
theorem dM_372 : decode code 372 = .ok (.aload_n 1, 1) := dl_0_x 87 rfl
theorem dM_373 : decode code 373 = .ok (.invokevirtual 165, 3) := dl_0_x 88 rfl
theorem dM_376 : decode code 376 = .ok (.aload_n 2, 1) := dl_0_x 89 rfl
theorem dM_377 : decode code 377 = .ok (.invokevirtual 168, 3) := dl_0_x 90 rfl
theorem dM_380 : decode code 380 = .ok (.if_icmp .eq 2876, 3) := dl_0_x 91 rfl
theorem dM_383 : decode code 383 = .ok (.iconst 0, 1) := dl_0_x 92 rfl
theorem dM_384 : decode code 384 = .ok (.ireturn, 1) := dl_0_x 93 rfl
theorem dM_385 : decode code 385 = .ok (.aload_n 1, 1) := dl_0_x 94 rfl
theorem dM_386 : decode code 386 = .ok (.invokevirtual 169, 3) := dl_0_x 95 rfl
theorem dM_389 : decode code 389 = .ok (.aload_n 2, 1) := dl_0_x 96 rfl
theorem dM_390 : decode code 390 = .ok (.invokevirtual 172, 3) := dl_0_x 97 rfl
theorem dM_393 : decode code 393 = .ok (.if_icmp .eq 2863, 3) := dl_0_x 98 rfl
theorem dM_396 : decode code 396 = .ok (.iconst 0, 1) := dl_0_x 99 rfl
