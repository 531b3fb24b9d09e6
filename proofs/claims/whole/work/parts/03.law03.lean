/-! THE LAW'S OWN BODY, instruction by instruction: 547 to 696 -/
def dl_2 : List (Nat × Instr × Nat) := [(547, .aload_n 2, 1), (548, .aload_n 0, 1), (549, .iload 4, 2), (551, .iconst 1, 1), (552, .iadd, 1), (553, .iaload, 1), (554, .invokevirtual 188, 3), (557, .istore 6, 2), (559, .aload_n 2, 1), (560, .invokevirtual 179, 3), (563, .iload 5, 2), (565, .if_icmp .eq 5, 3), (568, .iconst 0, 1), (569, .ireturn, 1), (570, .iload 5, 2), (572, .ifCond .ne 15, 3), (575, .aload_n 3, 1), (576, .iconst 0, 1), (577, .laload, 1), (578, .iload 6, 2), (580, .i2l, 1), (581, .lcmp, 1), (582, .ifCond .eq 5, 3), (585, .iconst 0, 1), (586, .ireturn, 1), (587, .goto 2669, 3), (590, .aload_n 1, 1), (591, .aload_n 0, 1), (592, .iload 4, 2), (594, .iconst 1, 1), (595, .iadd, 1), (596, .iaload, 1), (597, .aload_n 0, 1), (598, .iload 4, 2), (600, .iconst 2, 1), (601, .iadd, 1), (602, .iaload, 1), (603, .aload_n 3, 1), (604, .invokestatic 189, 3), (607, .istore 5, 2), (609, .aload_n 2, 1), (610, .aload_n 0, 1), (611, .iload 4, 2), (613, .iconst 1, 1), (614, .iadd, 1), (615, .iaload, 1), (616, .aload_n 0, 1), (617, .iload 4, 2), (619, .iconst 2, 1), (620, .iadd, 1), (621, .iaload, 1), (622, .invokevirtual 191, 3), (625, .istore 6, 2), (627, .aload_n 2, 1), (628, .invokevirtual 179, 3), (631, .iload 5, 2), (633, .if_icmp .eq 5, 3), (636, .iconst 0, 1), (637, .ireturn, 1), (638, .iload 5, 2), (640, .ifCond .ne 15, 3), (643, .aload_n 3, 1), (644, .iconst 0, 1), (645, .laload, 1), (646, .iload 6, 2), (648, .i2l, 1), (649, .lcmp, 1), (650, .ifCond .eq 5, 3), (653, .iconst 0, 1), (654, .ireturn, 1), (655, .goto 2601, 3), (658, .aload_n 1, 1), (659, .aload_n 0, 1), (660, .iload 4, 2), (662, .iconst 1, 1), (663, .iadd, 1), (664, .iaload, 1), (665, .aload_n 0, 1), (666, .iload 4, 2), (668, .iconst 2, 1), (669, .iadd, 1), (670, .iaload, 1), (671, .aload_n 3, 1), (672, .invokestatic 192, 3), (675, .istore 5, 2), (677, .aload_n 2, 1), (678, .aload_n 0, 1), (679, .iload 4, 2), (681, .iconst 1, 1), (682, .iadd, 1), (683, .iaload, 1), (684, .aload_n 0, 1), (685, .iload 4, 2), (687, .iconst 2, 1), (688, .iadd, 1), (689, .iaload, 1), (690, .invokevirtual 194, 3), (693, .istore 6, 2), (695, .aload_n 2, 1), (696, .invokevirtual 179, 3)]
theorem dl_2_ok : ∀ q ∈ dl_2, decode code q.1 = .ok (q.2.1, q.2.2) := by decide +kernel
theorem dl_2_x (k : Nat) {pc : Nat} {i : Instr} {n : Nat} (h : dl_2[k]? = some (pc, i, n)) : decode code pc = .ok (i, n) := dl_2_ok (pc, i, n) (List.mem_of_getElem? h)
theorem dM_547 : decode code 547 = .ok (.aload_n 2, 1) := dl_2_x 0 rfl
theorem dM_548 : decode code 548 = .ok (.aload_n 0, 1) := dl_2_x 1 rfl
theorem dM_549 : decode code 549 = .ok (.iload 4, 2) := dl_2_x 2 rfl
theorem dM_551 : decode code 551 = .ok (.iconst 1, 1) := dl_2_x 3 rfl
theorem dM_552 : decode code 552 = .ok (.iadd, 1) := dl_2_x 4 rfl
theorem dM_553 : decode code 553 = .ok (.iaload, 1) := dl_2_x 5 rfl
theorem dM_554 : decode code 554 = .ok (.invokevirtual 188, 3) := dl_2_x 6 rfl
theorem dM_557 : decode code 557 = .ok (.istore 6, 2) := dl_2_x 7 rfl
theorem dM_559 : decode code 559 = .ok (.aload_n 2, 1) := dl_2_x 8 rfl
theorem dM_560 : decode code 560 = .ok (.invokevirtual 179, 3) := dl_2_x 9 rfl
theorem dM_563 : decode code 563 = .ok (.iload 5, 2) := dl_2_x 10 rfl
theorem dM_565 : decode code 565 = .ok (.if_icmp .eq 5, 3) := dl_2_x 11 rfl
theorem dM_568 : decode code 568 = .ok (.iconst 0, 1) := dl_2_x 12 rfl
theorem dM_569 : decode code 569 = .ok (.ireturn, 1) := dl_2_x 13 rfl
theorem dM_570 : decode code 570 = .ok (.iload 5, 2) := dl_2_x 14 rfl
theorem dM_572 : decode code 572 = .ok (.ifCond .ne 15, 3) := dl_2_x 15 rfl
theorem dM_575 : decode code 575 = .ok (.aload_n 3, 1) := dl_2_x 16 rfl
theorem dM_576 : decode code 576 = .ok (.iconst 0, 1) := dl_2_x 17 rfl
theorem dM_577 : decode code 577 = .ok (.laload, 1) := dl_2_x 18 rfl
theorem dM_578 : decode code 578 = .ok (.iload 6, 2) := dl_2_x 19 rfl
theorem dM_580 : decode code 580 = .ok (.i2l, 1) := dl_2_x 20 rfl
theorem dM_581 : decode code 581 = .ok (.lcmp, 1) := dl_2_x 21 rfl
theorem dM_582 : decode code 582 = .ok (.ifCond .eq 5, 3) := dl_2_x 22 rfl
theorem dM_585 : decode code 585 = .ok (.iconst 0, 1) := dl_2_x 23 rfl
theorem dM_586 : decode code 586 = .ok (.ireturn, 1) := dl_2_x 24 rfl
theorem dM_587 : decode code 587 = .ok (.goto 2669, 3) := dl_2_x 25 rfl
theorem dM_590 : decode code 590 = .ok (.aload_n 1, 1) := dl_2_x 26 rfl
theorem dM_591 : decode code 591 = .ok (.aload_n 0, 1) := dl_2_x 27 rfl
theorem dM_592 : decode code 592 = .ok (.iload 4, 2) := dl_2_x 28 rfl
theorem dM_594 : decode code 594 = .ok (.iconst 1, 1) := dl_2_x 29 rfl
theorem dM_595 : decode code 595 = .ok (.iadd, 1) := dl_2_x 30 rfl
theorem dM_596 : decode code 596 = .ok (.iaload, 1) := dl_2_x 31 rfl
theorem dM_597 : decode code 597 = .ok (.aload_n 0, 1) := dl_2_x 32 rfl
theorem dM_598 : decode code 598 = .ok (.iload 4, 2) := dl_2_x 33 rfl
theorem dM_600 : decode code 600 = .ok (.iconst 2, 1) := dl_2_x 34 rfl
theorem dM_601 : decode code 601 = .ok (.iadd, 1) := dl_2_x 35 rfl
theorem dM_602 : decode code 602 = .ok (.iaload, 1) := dl_2_x 36 rfl
theorem dM_603 : decode code 603 = .ok (.aload_n 3, 1) := dl_2_x 37 rfl
theorem dM_604 : decode code 604 = .ok (.invokestatic 189, 3) := dl_2_x 38 rfl
theorem dM_607 : decode code 607 = .ok (.istore 5, 2) := dl_2_x 39 rfl
theorem dM_609 : decode code 609 = .ok (.aload_n 2, 1) := dl_2_x 40 rfl
theorem dM_610 : decode code 610 = .ok (.aload_n 0, 1) := dl_2_x 41 rfl
theorem dM_611 : decode code 611 = .ok (.iload 4, 2) := dl_2_x 42 rfl
theorem dM_613 : decode code 613 = .ok (.iconst 1, 1) := dl_2_x 43 rfl
theorem dM_614 : decode code 614 = .ok (.iadd, 1) := dl_2_x 44 rfl
theorem dM_615 : decode code 615 = .ok (.iaload, 1) := dl_2_x 45 rfl
theorem dM_616 : decode code 616 = .ok (.aload_n 0, 1) := dl_2_x 46 rfl
theorem dM_617 : decode code 617 = .ok (.iload 4, 2) := dl_2_x 47 rfl
theorem dM_619 : decode code 619 = .ok (.iconst 2, 1) := dl_2_x 48 rfl
theorem dM_620 : decode code 620 = .ok (.iadd, 1) := dl_2_x 49 rfl
theorem dM_621 : decode code 621 = .ok (.iaload, 1) := dl_2_x 50 rfl
theorem dM_622 : decode code 622 = .ok (.invokevirtual 191, 3) := dl_2_x 51 rfl
theorem dM_625 : decode code 625 = .ok (.istore 6, 2) := dl_2_x 52 rfl
theorem dM_627 : decode code 627 = .ok (.aload_n 2, 1) := dl_2_x 53 rfl
theorem dM_628 : decode code 628 = .ok (.invokevirtual 179, 3) := dl_2_x 54 rfl
theorem dM_631 : decode code 631 = .ok (.iload 5, 2) := dl_2_x 55 rfl
theorem dM_633 : decode code 633 = .ok (.if_icmp .eq 5, 3) := dl_2_x 56 rfl
theorem dM_636 : decode code 636 = .ok (.iconst 0, 1) := dl_2_x 57 rfl
theorem dM_637 : decode code 637 = .ok (.ireturn, 1) := dl_2_x 58 rfl
theorem dM_638 : decode code 638 = .ok (.iload 5, 2) := dl_2_x 59 rfl
theorem dM_640 : decode code 640 = .ok (.ifCond .ne 15, 3) := dl_2_x 60 rfl
theorem dM_643 : decode code 643 = .ok (.aload_n 3, 1) := dl_2_x 61 rfl
theorem dM_644 : decode code 644 = .ok (.iconst 0, 1) := dl_2_x 62 rfl
theorem dM_645 : decode code 645 = .ok (.laload, 1) := dl_2_x 63 rfl
theorem dM_646 : decode code 646 = .ok (.iload 6, 2) := dl_2_x 64 rfl
theorem dM_648 : decode code 648 = .ok (.i2l, 1) := dl_2_x 65 rfl
theorem dM_649 : decode code 649 = .ok (.lcmp, 1) := dl_2_x 66 rfl
theorem dM_650 : decode code 650 = .ok (.ifCond .eq 5, 3) := dl_2_x 67 rfl
theorem dM_653 : decode code 653 = .ok (.iconst 0, 1) := dl_2_x 68 rfl
theorem dM_654 : decode code 654 = .ok (.ireturn, 1) := dl_2_x 69 rfl
theorem dM_655 : decode code 655 = .ok (.goto 2601, 3) := dl_2_x 70 rfl
theorem dM_658 : decode code 658 = .ok (.aload_n 1, 1) := dl_2_x 71 rfl
theorem dM_659 : decode code 659 = .ok (.aload_n 0, 1) := dl_2_x 72 rfl
theorem dM_660 : decode code 660 = .ok (.iload 4, 2) := dl_2_x 73 rfl
theorem dM_662 : decode code 662 = .ok (.iconst 1, 1) := dl_2_x 74 rfl
theorem dM_663 : decode code 663 = .ok (.iadd, 1) := dl_2_x 75 rfl
theorem dM_664 : decode code 664 = .ok (.iaload, 1) := dl_2_x 76 rfl
theorem dM_665 : decode code 665 = .ok (.aload_n 0, 1) := dl_2_x 77 rfl
theorem dM_666 : decode code 666 = .ok (.iload 4, 2) := dl_2_x 78 rfl
theorem dM_668 : decode code 668 = .ok (.iconst 2, 1) := dl_2_x 79 rfl
theorem dM_669 : decode code 669 = .ok (.iadd, 1) := dl_2_x 80 rfl
theorem dM_670 : decode code 670 = .ok (.iaload, 1) := dl_2_x 81 rfl
theorem dM_671 : decode code 671 = .ok (.aload_n 3, 1) := dl_2_x 82 rfl
theorem dM_672 : decode code 672 = .ok (.invokestatic 192, 3) := dl_2_x 83 rfl
theorem dM_675 : decode code 675 = .ok (.istore 5, 2) := dl_2_x 84 rfl
theorem dM_677 : decode code 677 = .ok (.aload_n 2, 1) := dl_2_x 85 rfl
theorem dM_678 : decode code 678 = .ok (.aload_n 0, 1) := dl_2_x 86 rfl
theorem dM_679 : decode code 679 = .ok (.iload 4, 2) := dl_2_x 87 rfl
theorem dM_681 : decode code 681 = .ok (.iconst 1, 1) := dl_2_x 88 rfl
theorem dM_682 : decode code 682 = .ok (.iadd, 1) := dl_2_x 89 rfl
theorem dM_683 : decode code 683 = .ok (.iaload, 1) := dl_2_x 90 rfl
theorem dM_684 : decode code 684 = .ok (.aload_n 0, 1) := dl_2_x 91 rfl
theorem dM_685 : decode code 685 = .ok (.iload 4, 2) := dl_2_x 92 rfl
theorem dM_687 : decode code 687 = .ok (.iconst 2, 1) := dl_2_x 93 rfl
theorem dM_688 : decode code 688 = .ok (.iadd, 1) := dl_2_x 94 rfl
theorem dM_689 : decode code 689 = .ok (.iaload, 1) := dl_2_x 95 rfl
theorem dM_690 : decode code 690 = .ok (.invokevirtual 194, 3) := dl_2_x 96 rfl
theorem dM_693 : decode code 693 = .ok (.istore 6, 2) := dl_2_x 97 rfl
theorem dM_695 : decode code 695 = .ok (.aload_n 2, 1) := dl_2_x 98 rfl
theorem dM_696 : decode code 696 = .ok (.invokevirtual 179, 3) := dl_2_x 99 rfl
