/-! THE LAW'S OWN BODY, instruction by instruction: 855 to 1004 -/
def dl_4 : List (Nat × Instr × Nat) := [(855, .iadd, 1), (856, .iaload, 1), (857, .aload_n 0, 1), (858, .iload 4, 2), (860, .iconst 4, 1), (861, .iadd, 1), (862, .iaload, 1), (863, .aload_n 3, 1), (864, .invokestatic 201, 3), (867, .istore 5, 2), (869, .aload_n 2, 1), (870, .aload_n 0, 1), (871, .iload 4, 2), (873, .iconst 1, 1), (874, .iadd, 1), (875, .iaload, 1), (876, .aload_n 0, 1), (877, .iload 4, 2), (879, .iconst 2, 1), (880, .iadd, 1), (881, .iaload, 1), (882, .aload_n 0, 1), (883, .iload 4, 2), (885, .iconst 3, 1), (886, .iadd, 1), (887, .iaload, 1), (888, .aload_n 0, 1), (889, .iload 4, 2), (891, .iconst 4, 1), (892, .iadd, 1), (893, .iaload, 1), (894, .invokevirtual 204, 3), (897, .istore 6, 2), (899, .aload_n 2, 1), (900, .invokevirtual 179, 3), (903, .iload 5, 2), (905, .if_icmp .eq 5, 3), (908, .iconst 0, 1), (909, .ireturn, 1), (910, .iload 5, 2), (912, .ifCond .ne 15, 3), (915, .aload_n 3, 1), (916, .iconst 0, 1), (917, .laload, 1), (918, .iload 6, 2), (920, .i2l, 1), (921, .lcmp, 1), (922, .ifCond .eq 5, 3), (925, .iconst 0, 1), (926, .ireturn, 1), (927, .goto 2329, 3), (930, .aload_n 1, 1), (931, .aload_n 0, 1), (932, .iload 4, 2), (934, .iconst 1, 1), (935, .iadd, 1), (936, .iaload, 1), (937, .aload_n 3, 1), (938, .invokestatic 205, 3), (941, .istore 5, 2), (943, .aload_n 2, 1), (944, .aload_n 0, 1), (945, .iload 4, 2), (947, .iconst 1, 1), (948, .iadd, 1), (949, .iaload, 1), (950, .invokevirtual 207, 3), (953, .istore 6, 2), (955, .aload_n 2, 1), (956, .invokevirtual 179, 3), (959, .iload 5, 2), (961, .if_icmp .eq 5, 3), (964, .iconst 0, 1), (965, .ireturn, 1), (966, .iload 5, 2), (968, .ifCond .ne 15, 3), (971, .aload_n 3, 1), (972, .iconst 0, 1), (973, .laload, 1), (974, .iload 6, 2), (976, .i2l, 1), (977, .lcmp, 1), (978, .ifCond .eq 5, 3), (981, .iconst 0, 1), (982, .ireturn, 1), (983, .goto 2273, 3), (986, .aload_n 1, 1), (987, .aload_n 0, 1), (988, .iload 4, 2), (990, .iconst 1, 1), (991, .iadd, 1), (992, .iaload, 1), (993, .aload_n 3, 1), (994, .invokestatic 208, 3), (997, .istore 5, 2), (999, .aload_n 2, 1), (1000, .aload_n 0, 1), (1001, .iload 4, 2), (1003, .iconst 1, 1), (1004, .iadd, 1)]
theorem dl_4_ok : ∀ q ∈ dl_4, decode code q.1 = .ok (q.2.1, q.2.2) := by decide +kernel
theorem dl_4_x (k : Nat) {pc : Nat} {i : Instr} {n : Nat} (h : dl_4[k]? = some (pc, i, n)) : decode code pc = .ok (i, n) := dl_4_ok (pc, i, n) (List.mem_of_getElem? h)
theorem dM_855 : decode code 855 = .ok (.iadd, 1) := dl_4_x 0 rfl
theorem dM_856 : decode code 856 = .ok (.iaload, 1) := dl_4_x 1 rfl
theorem dM_857 : decode code 857 = .ok (.aload_n 0, 1) := dl_4_x 2 rfl
theorem dM_858 : decode code 858 = .ok (.iload 4, 2) := dl_4_x 3 rfl
theorem dM_860 : decode code 860 = .ok (.iconst 4, 1) := dl_4_x 4 rfl
theorem dM_861 : decode code 861 = .ok (.iadd, 1) := dl_4_x 5 rfl
theorem dM_862 : decode code 862 = .ok (.iaload, 1) := dl_4_x 6 rfl
theorem dM_863 : decode code 863 = .ok (.aload_n 3, 1) := dl_4_x 7 rfl
theorem dM_864 : decode code 864 = .ok (.invokestatic 201, 3) := dl_4_x 8 rfl
theorem dM_867 : decode code 867 = .ok (.istore 5, 2) := dl_4_x 9 rfl
theorem dM_869 : decode code 869 = .ok (.aload_n 2, 1) := dl_4_x 10 rfl
theorem dM_870 : decode code 870 = .ok (.aload_n 0, 1) := dl_4_x 11 rfl
theorem dM_871 : decode code 871 = .ok (.iload 4, 2) := dl_4_x 12 rfl
theorem dM_873 : decode code 873 = .ok (.iconst 1, 1) := dl_4_x 13 rfl
theorem dM_874 : decode code 874 = .ok (.iadd, 1) := dl_4_x 14 rfl
theorem dM_875 : decode code 875 = .ok (.iaload, 1) := dl_4_x 15 rfl
theorem dM_876 : decode code 876 = .ok (.aload_n 0, 1) := dl_4_x 16 rfl
theorem dM_877 : decode code 877 = .ok (.iload 4, 2) := dl_4_x 17 rfl
theorem dM_879 : decode code 879 = .ok (.iconst 2, 1) := dl_4_x 18 rfl
theorem dM_880 : decode code 880 = .ok (.iadd, 1) := dl_4_x 19 rfl
theorem dM_881 : decode code 881 = .ok (.iaload, 1) := dl_4_x 20 rfl
theorem dM_882 : decode code 882 = .ok (.aload_n 0, 1) := dl_4_x 21 rfl
theorem dM_883 : decode code 883 = .ok (.iload 4, 2) := dl_4_x 22 rfl
theorem dM_885 : decode code 885 = .ok (.iconst 3, 1) := dl_4_x 23 rfl
theorem dM_886 : decode code 886 = .ok (.iadd, 1) := dl_4_x 24 rfl
theorem dM_887 : decode code 887 = .ok (.iaload, 1) := dl_4_x 25 rfl
theorem dM_888 : decode code 888 = .ok (.aload_n 0, 1) := dl_4_x 26 rfl
theorem dM_889 : decode code 889 = .ok (.iload 4, 2) := dl_4_x 27 rfl
theorem dM_891 : decode code 891 = .ok (.iconst 4, 1) := dl_4_x 28 rfl
theorem dM_892 : decode code 892 = .ok (.iadd, 1) := dl_4_x 29 rfl
theorem dM_893 : decode code 893 = .ok (.iaload, 1) := dl_4_x 30 rfl
theorem dM_894 : decode code 894 = .ok (.invokevirtual 204, 3) := dl_4_x 31 rfl
theorem dM_897 : decode code 897 = .ok (.istore 6, 2) := dl_4_x 32 rfl
theorem dM_899 : decode code 899 = .ok (.aload_n 2, 1) := dl_4_x 33 rfl
theorem dM_900 : decode code 900 = .ok (.invokevirtual 179, 3) := dl_4_x 34 rfl
theorem dM_903 : decode code 903 = .ok (.iload 5, 2) := dl_4_x 35 rfl
theorem dM_905 : decode code 905 = .ok (.if_icmp .eq 5, 3) := dl_4_x 36 rfl
theorem dM_908 : decode code 908 = .ok (.iconst 0, 1) := dl_4_x 37 rfl
theorem dM_909 : decode code 909 = .ok (.ireturn, 1) := dl_4_x 38 rfl
theorem dM_910 : decode code 910 = .ok (.iload 5, 2) := dl_4_x 39 rfl
theorem dM_912 : decode code 912 = .ok (.ifCond .ne 15, 3) := dl_4_x 40 rfl
theorem dM_915 : decode code 915 = .ok (.aload_n 3, 1) := dl_4_x 41 rfl
theorem dM_916 : decode code 916 = .ok (.iconst 0, 1) := dl_4_x 42 rfl
theorem dM_917 : decode code 917 = .ok (.laload, 1) := dl_4_x 43 rfl
theorem dM_918 : decode code 918 = .ok (.iload 6, 2) := dl_4_x 44 rfl
theorem dM_920 : decode code 920 = .ok (.i2l, 1) := dl_4_x 45 rfl
theorem dM_921 : decode code 921 = .ok (.lcmp, 1) := dl_4_x 46 rfl
theorem dM_922 : decode code 922 = .ok (.ifCond .eq 5, 3) := dl_4_x 47 rfl
theorem dM_925 : decode code 925 = .ok (.iconst 0, 1) := dl_4_x 48 rfl
theorem dM_926 : decode code 926 = .ok (.ireturn, 1) := dl_4_x 49 rfl
theorem dM_927 : decode code 927 = .ok (.goto 2329, 3) := dl_4_x 50 rfl
theorem dM_930 : decode code 930 = .ok (.aload_n 1, 1) := dl_4_x 51 rfl
theorem dM_931 : decode code 931 = .ok (.aload_n 0, 1) := dl_4_x 52 rfl
theorem dM_932 : decode code 932 = .ok (.iload 4, 2) := dl_4_x 53 rfl
theorem dM_934 : decode code 934 = .ok (.iconst 1, 1) := dl_4_x 54 rfl
theorem dM_935 : decode code 935 = .ok (.iadd, 1) := dl_4_x 55 rfl
theorem dM_936 : decode code 936 = .ok (.iaload, 1) := dl_4_x 56 rfl
theorem dM_937 : decode code 937 = .ok (.aload_n 3, 1) := dl_4_x 57 rfl
theorem dM_938 : decode code 938 = .ok (.invokestatic 205, 3) := dl_4_x 58 rfl
theorem dM_941 : decode code 941 = .ok (.istore 5, 2) := dl_4_x 59 rfl
theorem dM_943 : decode code 943 = .ok (.aload_n 2, 1) := dl_4_x 60 rfl
theorem dM_944 : decode code 944 = .ok (.aload_n 0, 1) := dl_4_x 61 rfl
theorem dM_945 : decode code 945 = .ok (.iload 4, 2) := dl_4_x 62 rfl
theorem dM_947 : decode code 947 = .ok (.iconst 1, 1) := dl_4_x 63 rfl
theorem dM_948 : decode code 948 = .ok (.iadd, 1) := dl_4_x 64 rfl
theorem dM_949 : decode code 949 = .ok (.iaload, 1) := dl_4_x 65 rfl
theorem dM_950 : decode code 950 = .ok (.invokevirtual 207, 3) := dl_4_x 66 rfl
theorem dM_953 : decode code 953 = .ok (.istore 6, 2) := dl_4_x 67 rfl
theorem dM_955 : decode code 955 = .ok (.aload_n 2, 1) := dl_4_x 68 rfl
theorem dM_956 : decode code 956 = .ok (.invokevirtual 179, 3) := dl_4_x 69 rfl
theorem dM_959 : decode code 959 = .ok (.iload 5, 2) := dl_4_x 70 rfl
theorem dM_961 : decode code 961 = .ok (.if_icmp .eq 5, 3) := dl_4_x 71 rfl
theorem dM_964 : decode code 964 = .ok (.iconst 0, 1) := dl_4_x 72 rfl
theorem dM_965 : decode code 965 = .ok (.ireturn, 1) := dl_4_x 73 rfl
theorem dM_966 : decode code 966 = .ok (.iload 5, 2) := dl_4_x 74 rfl
theorem dM_968 : decode code 968 = .ok (.ifCond .ne 15, 3) := dl_4_x 75 rfl
theorem dM_971 : decode code 971 = .ok (.aload_n 3, 1) := dl_4_x 76 rfl
theorem dM_972 : decode code 972 = .ok (.iconst 0, 1) := dl_4_x 77 rfl
theorem dM_973 : decode code 973 = .ok (.laload, 1) := dl_4_x 78 rfl
theorem dM_974 : decode code 974 = .ok (.iload 6, 2) := dl_4_x 79 rfl
theorem dM_976 : decode code 976 = .ok (.i2l, 1) := dl_4_x 80 rfl
theorem dM_977 : decode code 977 = .ok (.lcmp, 1) := dl_4_x 81 rfl
theorem dM_978 : decode code 978 = .ok (.ifCond .eq 5, 3) := dl_4_x 82 rfl
theorem dM_981 : decode code 981 = .ok (.iconst 0, 1) := dl_4_x 83 rfl
theorem dM_982 : decode code 982 = .ok (.ireturn, 1) := dl_4_x 84 rfl
theorem dM_983 : decode code 983 = .ok (.goto 2273, 3) := dl_4_x 85 rfl
theorem dM_986 : decode code 986 = .ok (.aload_n 1, 1) := dl_4_x 86 rfl
theorem dM_987 : decode code 987 = .ok (.aload_n 0, 1) := dl_4_x 87 rfl
theorem dM_988 : decode code 988 = .ok (.iload 4, 2) := dl_4_x 88 rfl
theorem dM_990 : decode code 990 = .ok (.iconst 1, 1) := dl_4_x 89 rfl
theorem dM_991 : decode code 991 = .ok (.iadd, 1) := dl_4_x 90 rfl
theorem dM_992 : decode code 992 = .ok (.iaload, 1) := dl_4_x 91 rfl
theorem dM_993 : decode code 993 = .ok (.aload_n 3, 1) := dl_4_x 92 rfl
theorem dM_994 : decode code 994 = .ok (.invokestatic 208, 3) := dl_4_x 93 rfl
theorem dM_997 : decode code 997 = .ok (.istore 5, 2) := dl_4_x 94 rfl
theorem dM_999 : decode code 999 = .ok (.aload_n 2, 1) := dl_4_x 95 rfl
theorem dM_1000 : decode code 1000 = .ok (.aload_n 0, 1) := dl_4_x 96 rfl
theorem dM_1001 : decode code 1001 = .ok (.iload 4, 2) := dl_4_x 97 rfl
theorem dM_1003 : decode code 1003 = .ok (.iconst 1, 1) := dl_4_x 98 rfl
theorem dM_1004 : decode code 1004 = .ok (.iadd, 1) := dl_4_x 99 rfl
