/-! THE LAW'S OWN BODY, instruction by instruction: 397 to 545 -/
def dl_1 : List (Nat × Instr × Nat) := [(397, .ireturn, 1), (398, .aload_n 1, 1), (399, .aload_n 0, 1), (400, .iload 4, 2), (402, .iconst 1, 1), (403, .iadd, 1), (404, .iaload, 1), (405, .aload_n 0, 1), (406, .iload 4, 2), (408, .iconst 2, 1), (409, .iadd, 1), (410, .iaload, 1), (411, .aload_n 3, 1), (412, .invokestatic 173, 3), (415, .istore 5, 2), (417, .aload_n 2, 1), (418, .aload_n 0, 1), (419, .iload 4, 2), (421, .iconst 1, 1), (422, .iadd, 1), (423, .iaload, 1), (424, .aload_n 0, 1), (425, .iload 4, 2), (427, .iconst 2, 1), (428, .iadd, 1), (429, .iaload, 1), (430, .invokevirtual 178, 3), (433, .istore 6, 2), (435, .aload_n 2, 1), (436, .invokevirtual 179, 3), (439, .iload 5, 2), (441, .if_icmp .eq 5, 3), (444, .iconst 0, 1), (445, .ireturn, 1), (446, .iload 5, 2), (448, .ifCond .ne 15, 3), (451, .aload_n 3, 1), (452, .iconst 0, 1), (453, .laload, 1), (454, .iload 6, 2), (456, .i2l, 1), (457, .lcmp, 1), (458, .ifCond .eq 5, 3), (461, .iconst 0, 1), (462, .ireturn, 1), (463, .goto 2793, 3), (466, .aload_n 1, 1), (467, .aload_n 0, 1), (468, .iload 4, 2), (470, .iconst 1, 1), (471, .iadd, 1), (472, .iaload, 1), (473, .aload_n 0, 1), (474, .iload 4, 2), (476, .iconst 2, 1), (477, .iadd, 1), (478, .iaload, 1), (479, .aload_n 3, 1), (480, .invokestatic 182, 3), (483, .istore 5, 2), (485, .aload_n 2, 1), (486, .aload_n 0, 1), (487, .iload 4, 2), (489, .iconst 1, 1), (490, .iadd, 1), (491, .iaload, 1), (492, .aload_n 0, 1), (493, .iload 4, 2), (495, .iconst 2, 1), (496, .iadd, 1), (497, .iaload, 1), (498, .invokevirtual 184, 3), (501, .istore 6, 2), (503, .aload_n 2, 1), (504, .invokevirtual 179, 3), (507, .iload 5, 2), (509, .if_icmp .eq 5, 3), (512, .iconst 0, 1), (513, .ireturn, 1), (514, .iload 5, 2), (516, .ifCond .ne 15, 3), (519, .aload_n 3, 1), (520, .iconst 0, 1), (521, .laload, 1), (522, .iload 6, 2), (524, .i2l, 1), (525, .lcmp, 1), (526, .ifCond .eq 5, 3), (529, .iconst 0, 1), (530, .ireturn, 1), (531, .goto 2725, 3), (534, .aload_n 1, 1), (535, .aload_n 0, 1), (536, .iload 4, 2), (538, .iconst 1, 1), (539, .iadd, 1), (540, .iaload, 1), (541, .aload_n 3, 1), (542, .invokestatic 185, 3), (545, .istore 5, 2)]
theorem dl_1_ok : ∀ q ∈ dl_1, decode code q.1 = .ok (q.2.1, q.2.2) := by decide +kernel
theorem dl_1_x (k : Nat) {pc : Nat} {i : Instr} {n : Nat} (h : dl_1[k]? = some (pc, i, n)) : decode code pc = .ok (i, n) := dl_1_ok (pc, i, n) (List.mem_of_getElem? h)
theorem dM_397 : decode code 397 = .ok (.ireturn, 1) := dl_1_x 0 rfl
theorem dM_398 : decode code 398 = .ok (.aload_n 1, 1) := dl_1_x 1 rfl
theorem dM_399 : decode code 399 = .ok (.aload_n 0, 1) := dl_1_x 2 rfl
theorem dM_400 : decode code 400 = .ok (.iload 4, 2) := dl_1_x 3 rfl
theorem dM_402 : decode code 402 = .ok (.iconst 1, 1) := dl_1_x 4 rfl
theorem dM_403 : decode code 403 = .ok (.iadd, 1) := dl_1_x 5 rfl
theorem dM_404 : decode code 404 = .ok (.iaload, 1) := dl_1_x 6 rfl
theorem dM_405 : decode code 405 = .ok (.aload_n 0, 1) := dl_1_x 7 rfl
theorem dM_406 : decode code 406 = .ok (.iload 4, 2) := dl_1_x 8 rfl
theorem dM_408 : decode code 408 = .ok (.iconst 2, 1) := dl_1_x 9 rfl
theorem dM_409 : decode code 409 = .ok (.iadd, 1) := dl_1_x 10 rfl
theorem dM_410 : decode code 410 = .ok (.iaload, 1) := dl_1_x 11 rfl
theorem dM_411 : decode code 411 = .ok (.aload_n 3, 1) := dl_1_x 12 rfl
theorem dM_412 : decode code 412 = .ok (.invokestatic 173, 3) := dl_1_x 13 rfl
theorem dM_415 : decode code 415 = .ok (.istore 5, 2) := dl_1_x 14 rfl
theorem dM_417 : decode code 417 = .ok (.aload_n 2, 1) := dl_1_x 15 rfl
theorem dM_418 : decode code 418 = .ok (.aload_n 0, 1) := dl_1_x 16 rfl
theorem dM_419 : decode code 419 = .ok (.iload 4, 2) := dl_1_x 17 rfl
theorem dM_421 : decode code 421 = .ok (.iconst 1, 1) := dl_1_x 18 rfl
theorem dM_422 : decode code 422 = .ok (.iadd, 1) := dl_1_x 19 rfl
theorem dM_423 : decode code 423 = .ok (.iaload, 1) := dl_1_x 20 rfl
theorem dM_424 : decode code 424 = .ok (.aload_n 0, 1) := dl_1_x 21 rfl
theorem dM_425 : decode code 425 = .ok (.iload 4, 2) := dl_1_x 22 rfl
theorem dM_427 : decode code 427 = .ok (.iconst 2, 1) := dl_1_x 23 rfl
theorem dM_428 : decode code 428 = .ok (.iadd, 1) := dl_1_x 24 rfl
theorem dM_429 : decode code 429 = .ok (.iaload, 1) := dl_1_x 25 rfl
theorem dM_430 : decode code 430 = .ok (.invokevirtual 178, 3) := dl_1_x 26 rfl
theorem dM_433 : decode code 433 = .ok (.istore 6, 2) := dl_1_x 27 rfl
theorem dM_435 : decode code 435 = .ok (.aload_n 2, 1) := dl_1_x 28 rfl
theorem dM_436 : decode code 436 = .ok (.invokevirtual 179, 3) := dl_1_x 29 rfl
theorem dM_439 : decode code 439 = .ok (.iload 5, 2) := dl_1_x 30 rfl
theorem dM_441 : decode code 441 = .ok (.if_icmp .eq 5, 3) := dl_1_x 31 rfl
theorem dM_444 : decode code 444 = .ok (.iconst 0, 1) := dl_1_x 32 rfl
theorem dM_445 : decode code 445 = .ok (.ireturn, 1) := dl_1_x 33 rfl
theorem dM_446 : decode code 446 = .ok (.iload 5, 2) := dl_1_x 34 rfl
theorem dM_448 : decode code 448 = .ok (.ifCond .ne 15, 3) := dl_1_x 35 rfl
theorem dM_451 : decode code 451 = .ok (.aload_n 3, 1) := dl_1_x 36 rfl
theorem dM_452 : decode code 452 = .ok (.iconst 0, 1) := dl_1_x 37 rfl
theorem dM_453 : decode code 453 = .ok (.laload, 1) := dl_1_x 38 rfl
theorem dM_454 : decode code 454 = .ok (.iload 6, 2) := dl_1_x 39 rfl
theorem dM_456 : decode code 456 = .ok (.i2l, 1) := dl_1_x 40 rfl
theorem dM_457 : decode code 457 = .ok (.lcmp, 1) := dl_1_x 41 rfl
theorem dM_458 : decode code 458 = .ok (.ifCond .eq 5, 3) := dl_1_x 42 rfl
theorem dM_461 : decode code 461 = .ok (.iconst 0, 1) := dl_1_x 43 rfl
theorem dM_462 : decode code 462 = .ok (.ireturn, 1) := dl_1_x 44 rfl
theorem dM_463 : decode code 463 = .ok (.goto 2793, 3) := dl_1_x 45 rfl
theorem dM_466 : decode code 466 = .ok (.aload_n 1, 1) := dl_1_x 46 rfl
theorem dM_467 : decode code 467 = .ok (.aload_n 0, 1) := dl_1_x 47 rfl
theorem dM_468 : decode code 468 = .ok (.iload 4, 2) := dl_1_x 48 rfl
theorem dM_470 : decode code 470 = .ok (.iconst 1, 1) := dl_1_x 49 rfl
theorem dM_471 : decode code 471 = .ok (.iadd, 1) := dl_1_x 50 rfl
theorem dM_472 : decode code 472 = .ok (.iaload, 1) := dl_1_x 51 rfl
theorem dM_473 : decode code 473 = .ok (.aload_n 0, 1) := dl_1_x 52 rfl
theorem dM_474 : decode code 474 = .ok (.iload 4, 2) := dl_1_x 53 rfl
theorem dM_476 : decode code 476 = .ok (.iconst 2, 1) := dl_1_x 54 rfl
theorem dM_477 : decode code 477 = .ok (.iadd, 1) := dl_1_x 55 rfl
theorem dM_478 : decode code 478 = .ok (.iaload, 1) := dl_1_x 56 rfl
theorem dM_479 : decode code 479 = .ok (.aload_n 3, 1) := dl_1_x 57 rfl
theorem dM_480 : decode code 480 = .ok (.invokestatic 182, 3) := dl_1_x 58 rfl
theorem dM_483 : decode code 483 = .ok (.istore 5, 2) := dl_1_x 59 rfl
theorem dM_485 : decode code 485 = .ok (.aload_n 2, 1) := dl_1_x 60 rfl
theorem dM_486 : decode code 486 = .ok (.aload_n 0, 1) := dl_1_x 61 rfl
theorem dM_487 : decode code 487 = .ok (.iload 4, 2) := dl_1_x 62 rfl
theorem dM_489 : decode code 489 = .ok (.iconst 1, 1) := dl_1_x 63 rfl
theorem dM_490 : decode code 490 = .ok (.iadd, 1) := dl_1_x 64 rfl
theorem dM_491 : decode code 491 = .ok (.iaload, 1) := dl_1_x 65 rfl
theorem dM_492 : decode code 492 = .ok (.aload_n 0, 1) := dl_1_x 66 rfl
theorem dM_493 : decode code 493 = .ok (.iload 4, 2) := dl_1_x 67 rfl
theorem dM_495 : decode code 495 = .ok (.iconst 2, 1) := dl_1_x 68 rfl
theorem dM_496 : decode code 496 = .ok (.iadd, 1) := dl_1_x 69 rfl
theorem dM_497 : decode code 497 = .ok (.iaload, 1) := dl_1_x 70 rfl
theorem dM_498 : decode code 498 = .ok (.invokevirtual 184, 3) := dl_1_x 71 rfl
theorem dM_501 : decode code 501 = .ok (.istore 6, 2) := dl_1_x 72 rfl
theorem dM_503 : decode code 503 = .ok (.aload_n 2, 1) := dl_1_x 73 rfl
theorem dM_504 : decode code 504 = .ok (.invokevirtual 179, 3) := dl_1_x 74 rfl
theorem dM_507 : decode code 507 = .ok (.iload 5, 2) := dl_1_x 75 rfl
theorem dM_509 : decode code 509 = .ok (.if_icmp .eq 5, 3) := dl_1_x 76 rfl
theorem dM_512 : decode code 512 = .ok (.iconst 0, 1) := dl_1_x 77 rfl
theorem dM_513 : decode code 513 = .ok (.ireturn, 1) := dl_1_x 78 rfl
theorem dM_514 : decode code 514 = .ok (.iload 5, 2) := dl_1_x 79 rfl
theorem dM_516 : decode code 516 = .ok (.ifCond .ne 15, 3) := dl_1_x 80 rfl
theorem dM_519 : decode code 519 = .ok (.aload_n 3, 1) := dl_1_x 81 rfl
theorem dM_520 : decode code 520 = .ok (.iconst 0, 1) := dl_1_x 82 rfl
theorem dM_521 : decode code 521 = .ok (.laload, 1) := dl_1_x 83 rfl
theorem dM_522 : decode code 522 = .ok (.iload 6, 2) := dl_1_x 84 rfl
theorem dM_524 : decode code 524 = .ok (.i2l, 1) := dl_1_x 85 rfl
theorem dM_525 : decode code 525 = .ok (.lcmp, 1) := dl_1_x 86 rfl
theorem dM_526 : decode code 526 = .ok (.ifCond .eq 5, 3) := dl_1_x 87 rfl
theorem dM_529 : decode code 529 = .ok (.iconst 0, 1) := dl_1_x 88 rfl
theorem dM_530 : decode code 530 = .ok (.ireturn, 1) := dl_1_x 89 rfl
theorem dM_531 : decode code 531 = .ok (.goto 2725, 3) := dl_1_x 90 rfl
theorem dM_534 : decode code 534 = .ok (.aload_n 1, 1) := dl_1_x 91 rfl
theorem dM_535 : decode code 535 = .ok (.aload_n 0, 1) := dl_1_x 92 rfl
theorem dM_536 : decode code 536 = .ok (.iload 4, 2) := dl_1_x 93 rfl
theorem dM_538 : decode code 538 = .ok (.iconst 1, 1) := dl_1_x 94 rfl
theorem dM_539 : decode code 539 = .ok (.iadd, 1) := dl_1_x 95 rfl
theorem dM_540 : decode code 540 = .ok (.iaload, 1) := dl_1_x 96 rfl
theorem dM_541 : decode code 541 = .ok (.aload_n 3, 1) := dl_1_x 97 rfl
theorem dM_542 : decode code 542 = .ok (.invokestatic 185, 3) := dl_1_x 98 rfl
theorem dM_545 : decode code 545 = .ok (.istore 5, 2) := dl_1_x 99 rfl
