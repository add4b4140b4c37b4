theorem BX6_plain_0 : bsegs (ByteArray.data cX6_plain |>.toList.drop 0) 0 [(0, [3]), (1, [61]), (2, [3]), (3, [62]), (4, [29]), (5, [17, 1, 144]), (8, [163, 0, 28]), (11, [42]), (12, [18, 129]), (14, [182, 0, 84]), (17, [153, 0, 19]), (20, [28]), (21, [154, 0, 7]), (24, [4]), (25, [167, 0, 4]), (28, [3]), (29, [61]), (30, [132, 3, 1]), (33, [167, 255, 227]), (36, [42]), (37, [180, 0, 12]), (40, [180, 0, 54]), (43, [16, 40]), (45, [160, 0, 52])] = true := by decide +kernel
theorem dX6_plain_0 : decode cX6_plain 0 = .ok (.iconst 0, 1) := dk_3 (bs_at BX6_plain_0 0 rfl)
theorem dX6_plain_1 : decode cX6_plain 1 = .ok (.istore_n 2, 1) := dk_61 (bs_at BX6_plain_0 1 rfl)
theorem dX6_plain_2 : decode cX6_plain 2 = .ok (.iconst 0, 1) := dk_3 (bs_at BX6_plain_0 2 rfl)
theorem dX6_plain_3 : decode cX6_plain 3 = .ok (.istore_n 3, 1) := dk_62 (bs_at BX6_plain_0 3 rfl)
theorem dX6_plain_4 : decode cX6_plain 4 = .ok (.iload_n 3, 1) := dk_29 (bs_at BX6_plain_0 4 rfl)
theorem dX6_plain_5 : decode cX6_plain 5 = .ok (.sipush 400, 3) := dk_17 1 144 (bs_at BX6_plain_0 5 rfl) rfl
theorem dX6_plain_8 : decode cX6_plain 8 = .ok (.if_icmp .gt 28, 3) := dk_163 0 28 (bs_at BX6_plain_0 6 rfl) rfl
theorem dX6_plain_11 : decode cX6_plain 11 = .ok (.aload_n 0, 1) := dk_42 (bs_at BX6_plain_0 7 rfl)
theorem dX6_plain_12 : decode cX6_plain 12 = .ok (.ldc 129, 2) := dk_18 129 (bs_at BX6_plain_0 8 rfl)
theorem dX6_plain_14 : decode cX6_plain 14 = .ok (.invokevirtual 84, 3) := dk_182 0 84 (bs_at BX6_plain_0 9 rfl) rfl
theorem dX6_plain_17 : decode cX6_plain 17 = .ok (.ifCond .eq 19, 3) := dk_153 0 19 (bs_at BX6_plain_0 10 rfl) rfl
theorem dX6_plain_20 : decode cX6_plain 20 = .ok (.iload_n 2, 1) := dk_28 (bs_at BX6_plain_0 11 rfl)
theorem dX6_plain_21 : decode cX6_plain 21 = .ok (.ifCond .ne 7, 3) := dk_154 0 7 (bs_at BX6_plain_0 12 rfl) rfl
theorem dX6_plain_24 : decode cX6_plain 24 = .ok (.iconst 1, 1) := dk_4 (bs_at BX6_plain_0 13 rfl)
theorem dX6_plain_25 : decode cX6_plain 25 = .ok (.goto 4, 3) := dk_167 0 4 (bs_at BX6_plain_0 14 rfl) rfl
theorem dX6_plain_28 : decode cX6_plain 28 = .ok (.iconst 0, 1) := dk_3 (bs_at BX6_plain_0 15 rfl)
theorem dX6_plain_29 : decode cX6_plain 29 = .ok (.istore_n 2, 1) := dk_61 (bs_at BX6_plain_0 16 rfl)
theorem dX6_plain_30 : decode cX6_plain 30 = .ok (.iinc 3 1, 3) := dk_132 3 1 (bs_at BX6_plain_0 17 rfl) rfl
theorem dX6_plain_33 : decode cX6_plain 33 = .ok (.goto (-29), 3) := dk_167 255 227 (bs_at BX6_plain_0 18 rfl) rfl
theorem dX6_plain_36 : decode cX6_plain 36 = .ok (.aload_n 0, 1) := dk_42 (bs_at BX6_plain_0 19 rfl)
theorem dX6_plain_37 : decode cX6_plain 37 = .ok (.getfield 12, 3) := dk_180 0 12 (bs_at BX6_plain_0 20 rfl) rfl
theorem dX6_plain_40 : decode cX6_plain 40 = .ok (.getfield 54, 3) := dk_180 0 54 (bs_at BX6_plain_0 21 rfl) rfl
theorem dX6_plain_43 : decode cX6_plain 43 = .ok (.bipush 40, 2) := dk_16 40 (bs_at BX6_plain_0 22 rfl) rfl
theorem dX6_plain_45 : decode cX6_plain 45 = .ok (.if_icmp .ne 52, 3) := dk_160 0 52 (bs_at BX6_plain_0 23 rfl) rfl
theorem BX6_plain_48 : bsegs (ByteArray.data cX6_plain |>.toList.drop 48) 48 [(48, [27]), (49, [16, 8]), (51, [161, 0, 5]), (54, [3]), (55, [172]), (56, [42]), (57, [180, 0, 12]), (60, [182, 0, 47]), (63, [42]), (64, [27]), (65, [4]), (66, [96]), (67, [182, 0, 106]), (70, [153, 0, 15]), (73, [42]), (74, [180, 0, 12]), (77, [180, 0, 54]), (80, [16, 41]), (82, [159, 0, 5]), (85, [3]), (86, [172]), (87, [42]), (88, [180, 0, 12]), (91, [182, 0, 47])] = true := by decide +kernel
theorem dX6_plain_48 : decode cX6_plain 48 = .ok (.iload_n 1, 1) := dk_27 (bs_at BX6_plain_48 0 rfl)
theorem dX6_plain_49 : decode cX6_plain 49 = .ok (.bipush 8, 2) := dk_16 8 (bs_at BX6_plain_48 1 rfl) rfl
theorem dX6_plain_51 : decode cX6_plain 51 = .ok (.if_icmp .lt 5, 3) := dk_161 0 5 (bs_at BX6_plain_48 2 rfl) rfl
theorem dX6_plain_54 : decode cX6_plain 54 = .ok (.iconst 0, 1) := dk_3 (bs_at BX6_plain_48 3 rfl)
theorem dX6_plain_55 : decode cX6_plain 55 = .ok (.ireturn, 1) := dk_172 (bs_at BX6_plain_48 4 rfl)
theorem dX6_plain_56 : decode cX6_plain 56 = .ok (.aload_n 0, 1) := dk_42 (bs_at BX6_plain_48 5 rfl)
theorem dX6_plain_57 : decode cX6_plain 57 = .ok (.getfield 12, 3) := dk_180 0 12 (bs_at BX6_plain_48 6 rfl) rfl
theorem dX6_plain_60 : decode cX6_plain 60 = .ok (.invokevirtual 47, 3) := dk_182 0 47 (bs_at BX6_plain_48 7 rfl) rfl
theorem dX6_plain_63 : decode cX6_plain 63 = .ok (.aload_n 0, 1) := dk_42 (bs_at BX6_plain_48 8 rfl)
theorem dX6_plain_64 : decode cX6_plain 64 = .ok (.iload_n 1, 1) := dk_27 (bs_at BX6_plain_48 9 rfl)
theorem dX6_plain_65 : decode cX6_plain 65 = .ok (.iconst 1, 1) := dk_4 (bs_at BX6_plain_48 10 rfl)
theorem dX6_plain_66 : decode cX6_plain 66 = .ok (.iadd, 1) := dk_96 (bs_at BX6_plain_48 11 rfl)
theorem dX6_plain_67 : decode cX6_plain 67 = .ok (.invokevirtual 106, 3) := dk_182 0 106 (bs_at BX6_plain_48 12 rfl) rfl
theorem dX6_plain_70 : decode cX6_plain 70 = .ok (.ifCond .eq 15, 3) := dk_153 0 15 (bs_at BX6_plain_48 13 rfl) rfl
theorem dX6_plain_73 : decode cX6_plain 73 = .ok (.aload_n 0, 1) := dk_42 (bs_at BX6_plain_48 14 rfl)
theorem dX6_plain_74 : decode cX6_plain 74 = .ok (.getfield 12, 3) := dk_180 0 12 (bs_at BX6_plain_48 15 rfl) rfl
theorem dX6_plain_77 : decode cX6_plain 77 = .ok (.getfield 54, 3) := dk_180 0 54 (bs_at BX6_plain_48 16 rfl) rfl
theorem dX6_plain_80 : decode cX6_plain 80 = .ok (.bipush 41, 2) := dk_16 41 (bs_at BX6_plain_48 17 rfl) rfl
theorem dX6_plain_82 : decode cX6_plain 82 = .ok (.if_icmp .eq 5, 3) := dk_159 0 5 (bs_at BX6_plain_48 18 rfl) rfl
theorem dX6_plain_85 : decode cX6_plain 85 = .ok (.iconst 0, 1) := dk_3 (bs_at BX6_plain_48 19 rfl)
theorem dX6_plain_86 : decode cX6_plain 86 = .ok (.ireturn, 1) := dk_172 (bs_at BX6_plain_48 20 rfl)
theorem dX6_plain_87 : decode cX6_plain 87 = .ok (.aload_n 0, 1) := dk_42 (bs_at BX6_plain_48 21 rfl)
theorem dX6_plain_88 : decode cX6_plain 88 = .ok (.getfield 12, 3) := dk_180 0 12 (bs_at BX6_plain_48 22 rfl) rfl
theorem dX6_plain_91 : decode cX6_plain 91 = .ok (.invokevirtual 47, 3) := dk_182 0 47 (bs_at BX6_plain_48 23 rfl) rfl
theorem BX6_plain_94 : bsegs (ByteArray.data cX6_plain |>.toList.drop 94) 94 [(94, [167, 0, 49]), (97, [42]), (98, [27]), (99, [182, 0, 92]), (102, [153, 0, 14]), (105, [42]), (106, [18, 131]), (108, [16, 8]), (110, [182, 0, 133]), (113, [167, 0, 4]), (116, [2]), (117, [62]), (118, [29]), (119, [2]), (120, [159, 0, 11]), (123, [42]), (124, [27]), (125, [182, 0, 92]), (128, [154, 0, 5]), (131, [3]), (132, [172]), (133, [42]), (134, [180, 0, 23]), (137, [29])] = true := by decide +kernel
theorem dX6_plain_94 : decode cX6_plain 94 = .ok (.goto 49, 3) := dk_167 0 49 (bs_at BX6_plain_94 0 rfl) rfl
theorem dX6_plain_97 : decode cX6_plain 97 = .ok (.aload_n 0, 1) := dk_42 (bs_at BX6_plain_94 1 rfl)
theorem dX6_plain_98 : decode cX6_plain 98 = .ok (.iload_n 1, 1) := dk_27 (bs_at BX6_plain_94 2 rfl)
theorem dX6_plain_99 : decode cX6_plain 99 = .ok (.invokevirtual 92, 3) := dk_182 0 92 (bs_at BX6_plain_94 3 rfl) rfl
theorem dX6_plain_102 : decode cX6_plain 102 = .ok (.ifCond .eq 14, 3) := dk_153 0 14 (bs_at BX6_plain_94 4 rfl) rfl
theorem dX6_plain_105 : decode cX6_plain 105 = .ok (.aload_n 0, 1) := dk_42 (bs_at BX6_plain_94 5 rfl)
theorem dX6_plain_106 : decode cX6_plain 106 = .ok (.ldc 131, 2) := dk_18 131 (bs_at BX6_plain_94 6 rfl)
theorem dX6_plain_108 : decode cX6_plain 108 = .ok (.bipush 8, 2) := dk_16 8 (bs_at BX6_plain_94 7 rfl) rfl
theorem dX6_plain_110 : decode cX6_plain 110 = .ok (.invokevirtual 133, 3) := dk_182 0 133 (bs_at BX6_plain_94 8 rfl) rfl
theorem dX6_plain_113 : decode cX6_plain 113 = .ok (.goto 4, 3) := dk_167 0 4 (bs_at BX6_plain_94 9 rfl) rfl
theorem dX6_plain_116 : decode cX6_plain 116 = .ok (.iconst (-1), 1) := dk_2 (bs_at BX6_plain_94 10 rfl)
theorem dX6_plain_117 : decode cX6_plain 117 = .ok (.istore_n 3, 1) := dk_62 (bs_at BX6_plain_94 11 rfl)
theorem dX6_plain_118 : decode cX6_plain 118 = .ok (.iload_n 3, 1) := dk_29 (bs_at BX6_plain_94 12 rfl)
theorem dX6_plain_119 : decode cX6_plain 119 = .ok (.iconst (-1), 1) := dk_2 (bs_at BX6_plain_94 13 rfl)
theorem dX6_plain_120 : decode cX6_plain 120 = .ok (.if_icmp .eq 11, 3) := dk_159 0 11 (bs_at BX6_plain_94 14 rfl) rfl
theorem dX6_plain_123 : decode cX6_plain 123 = .ok (.aload_n 0, 1) := dk_42 (bs_at BX6_plain_94 15 rfl)
theorem dX6_plain_124 : decode cX6_plain 124 = .ok (.iload_n 1, 1) := dk_27 (bs_at BX6_plain_94 16 rfl)
theorem dX6_plain_125 : decode cX6_plain 125 = .ok (.invokevirtual 92, 3) := dk_182 0 92 (bs_at BX6_plain_94 17 rfl) rfl
theorem dX6_plain_128 : decode cX6_plain 128 = .ok (.ifCond .ne 5, 3) := dk_154 0 5 (bs_at BX6_plain_94 18 rfl) rfl
theorem dX6_plain_131 : decode cX6_plain 131 = .ok (.iconst 0, 1) := dk_3 (bs_at BX6_plain_94 19 rfl)
theorem dX6_plain_132 : decode cX6_plain 132 = .ok (.ireturn, 1) := dk_172 (bs_at BX6_plain_94 20 rfl)
theorem dX6_plain_133 : decode cX6_plain 133 = .ok (.aload_n 0, 1) := dk_42 (bs_at BX6_plain_94 21 rfl)
theorem dX6_plain_134 : decode cX6_plain 134 = .ok (.getfield 23, 3) := dk_180 0 23 (bs_at BX6_plain_94 22 rfl) rfl
theorem dX6_plain_137 : decode cX6_plain 137 = .ok (.iload_n 3, 1) := dk_29 (bs_at BX6_plain_94 23 rfl)
theorem BX6_plain_138 : bsegs (ByteArray.data cX6_plain |>.toList.drop 138) 138 [(138, [3]), (139, [182, 0, 95]), (142, [87]), (143, [28]), (144, [153, 0, 14]), (147, [42]), (148, [180, 0, 23]), (151, [16, 11]), (153, [3]), (154, [182, 0, 95]), (157, [87]), (158, [4]), (159, [172])] = true := by decide +kernel
theorem dX6_plain_138 : decode cX6_plain 138 = .ok (.iconst 0, 1) := dk_3 (bs_at BX6_plain_138 0 rfl)
theorem dX6_plain_139 : decode cX6_plain 139 = .ok (.invokevirtual 95, 3) := dk_182 0 95 (bs_at BX6_plain_138 1 rfl) rfl
theorem dX6_plain_142 : decode cX6_plain 142 = .ok (.pop, 1) := dk_87 (bs_at BX6_plain_138 2 rfl)
theorem dX6_plain_143 : decode cX6_plain 143 = .ok (.iload_n 2, 1) := dk_28 (bs_at BX6_plain_138 3 rfl)
theorem dX6_plain_144 : decode cX6_plain 144 = .ok (.ifCond .eq 14, 3) := dk_153 0 14 (bs_at BX6_plain_138 4 rfl) rfl
theorem dX6_plain_147 : decode cX6_plain 147 = .ok (.aload_n 0, 1) := dk_42 (bs_at BX6_plain_138 5 rfl)
theorem dX6_plain_148 : decode cX6_plain 148 = .ok (.getfield 23, 3) := dk_180 0 23 (bs_at BX6_plain_138 6 rfl) rfl
theorem dX6_plain_151 : decode cX6_plain 151 = .ok (.bipush 11, 2) := dk_16 11 (bs_at BX6_plain_138 7 rfl) rfl
theorem dX6_plain_153 : decode cX6_plain 153 = .ok (.iconst 0, 1) := dk_3 (bs_at BX6_plain_138 8 rfl)
theorem dX6_plain_154 : decode cX6_plain 154 = .ok (.invokevirtual 95, 3) := dk_182 0 95 (bs_at BX6_plain_138 9 rfl) rfl
theorem dX6_plain_157 : decode cX6_plain 157 = .ok (.pop, 1) := dk_87 (bs_at BX6_plain_138 10 rfl)
theorem dX6_plain_158 : decode cX6_plain 158 = .ok (.iconst 1, 1) := dk_4 (bs_at BX6_plain_138 11 rfl)
theorem dX6_plain_159 : decode cX6_plain 159 = .ok (.ireturn, 1) := dk_172 (bs_at BX6_plain_138 12 rfl)
theorem BX6_test_0 : bsegs (ByteArray.data cX6_test |>.toList.drop 0) 0 [(0, [2]), (1, [61]), (2, [2]), (3, [62]), (4, [3]), (5, [54, 4]), (7, [21, 4]), (9, [17, 1, 144]), (12, [163, 0, 82]), (15, [42]), (16, [27]), (17, [182, 0, 118]), (20, [154, 0, 5]), (23, [3]), (24, [172]), (25, [42]), (26, [180, 0, 23]), (29, [28]), (30, [182, 0, 121]), (33, [2]), (34, [61]), (35, [42]), (36, [18, 125]), (38, [182, 0, 84])] = true := by decide +kernel
theorem dX6_test_0 : decode cX6_test 0 = .ok (.iconst (-1), 1) := dk_2 (bs_at BX6_test_0 0 rfl)
theorem dX6_test_1 : decode cX6_test 1 = .ok (.istore_n 2, 1) := dk_61 (bs_at BX6_test_0 1 rfl)
theorem dX6_test_2 : decode cX6_test 2 = .ok (.iconst (-1), 1) := dk_2 (bs_at BX6_test_0 2 rfl)
theorem dX6_test_3 : decode cX6_test 3 = .ok (.istore_n 3, 1) := dk_62 (bs_at BX6_test_0 3 rfl)
theorem dX6_test_4 : decode cX6_test 4 = .ok (.iconst 0, 1) := dk_3 (bs_at BX6_test_0 4 rfl)
theorem dX6_test_5 : decode cX6_test 5 = .ok (.istore 4, 2) := dk_54 4 (bs_at BX6_test_0 5 rfl)
theorem dX6_test_7 : decode cX6_test 7 = .ok (.iload 4, 2) := dk_21 4 (bs_at BX6_test_0 6 rfl)
theorem dX6_test_9 : decode cX6_test 9 = .ok (.sipush 400, 3) := dk_17 1 144 (bs_at BX6_test_0 7 rfl) rfl
theorem dX6_test_12 : decode cX6_test 12 = .ok (.if_icmp .gt 82, 3) := dk_163 0 82 (bs_at BX6_test_0 8 rfl) rfl
theorem dX6_test_15 : decode cX6_test 15 = .ok (.aload_n 0, 1) := dk_42 (bs_at BX6_test_0 9 rfl)
theorem dX6_test_16 : decode cX6_test 16 = .ok (.iload_n 1, 1) := dk_27 (bs_at BX6_test_0 10 rfl)
theorem dX6_test_17 : decode cX6_test 17 = .ok (.invokevirtual 118, 3) := dk_182 0 118 (bs_at BX6_test_0 11 rfl) rfl
theorem dX6_test_20 : decode cX6_test 20 = .ok (.ifCond .ne 5, 3) := dk_154 0 5 (bs_at BX6_test_0 12 rfl) rfl
theorem dX6_test_23 : decode cX6_test 23 = .ok (.iconst 0, 1) := dk_3 (bs_at BX6_test_0 13 rfl)
theorem dX6_test_24 : decode cX6_test 24 = .ok (.ireturn, 1) := dk_172 (bs_at BX6_test_0 14 rfl)
theorem dX6_test_25 : decode cX6_test 25 = .ok (.aload_n 0, 1) := dk_42 (bs_at BX6_test_0 15 rfl)
theorem dX6_test_26 : decode cX6_test 26 = .ok (.getfield 23, 3) := dk_180 0 23 (bs_at BX6_test_0 16 rfl) rfl
theorem dX6_test_29 : decode cX6_test 29 = .ok (.iload_n 2, 1) := dk_28 (bs_at BX6_test_0 17 rfl)
theorem dX6_test_30 : decode cX6_test 30 = .ok (.invokevirtual 121, 3) := dk_182 0 121 (bs_at BX6_test_0 18 rfl) rfl
theorem dX6_test_33 : decode cX6_test 33 = .ok (.iconst (-1), 1) := dk_2 (bs_at BX6_test_0 19 rfl)
theorem dX6_test_34 : decode cX6_test 34 = .ok (.istore_n 2, 1) := dk_61 (bs_at BX6_test_0 20 rfl)
theorem dX6_test_35 : decode cX6_test 35 = .ok (.aload_n 0, 1) := dk_42 (bs_at BX6_test_0 21 rfl)
theorem dX6_test_36 : decode cX6_test 36 = .ok (.ldc 125, 2) := dk_18 125 (bs_at BX6_test_0 22 rfl)
theorem dX6_test_38 : decode cX6_test 38 = .ok (.invokevirtual 84, 3) := dk_182 0 84 (bs_at BX6_test_0 23 rfl) rfl
theorem BX6_test_41 : bsegs (ByteArray.data cX6_test |>.toList.drop 41) 41 [(41, [153, 0, 17]), (44, [42]), (45, [180, 0, 23]), (48, [16, 13]), (50, [3]), (51, [182, 0, 95]), (54, [61]), (55, [167, 0, 33]), (58, [42]), (59, [180, 0, 23]), (62, [29]), (63, [182, 0, 121]), (66, [42]), (67, [18, 127]), (69, [182, 0, 84]), (72, [154, 0, 5]), (75, [4]), (76, [172]), (77, [42]), (78, [180, 0, 23]), (81, [16, 12]), (83, [3]), (84, [182, 0, 95]), (87, [62])] = true := by decide +kernel
theorem dX6_test_41 : decode cX6_test 41 = .ok (.ifCond .eq 17, 3) := dk_153 0 17 (bs_at BX6_test_41 0 rfl) rfl
theorem dX6_test_44 : decode cX6_test 44 = .ok (.aload_n 0, 1) := dk_42 (bs_at BX6_test_41 1 rfl)
theorem dX6_test_45 : decode cX6_test 45 = .ok (.getfield 23, 3) := dk_180 0 23 (bs_at BX6_test_41 2 rfl) rfl
theorem dX6_test_48 : decode cX6_test 48 = .ok (.bipush 13, 2) := dk_16 13 (bs_at BX6_test_41 3 rfl) rfl
theorem dX6_test_50 : decode cX6_test 50 = .ok (.iconst 0, 1) := dk_3 (bs_at BX6_test_41 4 rfl)
theorem dX6_test_51 : decode cX6_test 51 = .ok (.invokevirtual 95, 3) := dk_182 0 95 (bs_at BX6_test_41 5 rfl) rfl
theorem dX6_test_54 : decode cX6_test 54 = .ok (.istore_n 2, 1) := dk_61 (bs_at BX6_test_41 6 rfl)
theorem dX6_test_55 : decode cX6_test 55 = .ok (.goto 33, 3) := dk_167 0 33 (bs_at BX6_test_41 7 rfl) rfl
theorem dX6_test_58 : decode cX6_test 58 = .ok (.aload_n 0, 1) := dk_42 (bs_at BX6_test_41 8 rfl)
theorem dX6_test_59 : decode cX6_test 59 = .ok (.getfield 23, 3) := dk_180 0 23 (bs_at BX6_test_41 9 rfl) rfl
theorem dX6_test_62 : decode cX6_test 62 = .ok (.iload_n 3, 1) := dk_29 (bs_at BX6_test_41 10 rfl)
theorem dX6_test_63 : decode cX6_test 63 = .ok (.invokevirtual 121, 3) := dk_182 0 121 (bs_at BX6_test_41 11 rfl) rfl
theorem dX6_test_66 : decode cX6_test 66 = .ok (.aload_n 0, 1) := dk_42 (bs_at BX6_test_41 12 rfl)
theorem dX6_test_67 : decode cX6_test 67 = .ok (.ldc 127, 2) := dk_18 127 (bs_at BX6_test_41 13 rfl)
theorem dX6_test_69 : decode cX6_test 69 = .ok (.invokevirtual 84, 3) := dk_182 0 84 (bs_at BX6_test_41 14 rfl) rfl
theorem dX6_test_72 : decode cX6_test 72 = .ok (.ifCond .ne 5, 3) := dk_154 0 5 (bs_at BX6_test_41 15 rfl) rfl
theorem dX6_test_75 : decode cX6_test 75 = .ok (.iconst 1, 1) := dk_4 (bs_at BX6_test_41 16 rfl)
theorem dX6_test_76 : decode cX6_test 76 = .ok (.ireturn, 1) := dk_172 (bs_at BX6_test_41 17 rfl)
theorem dX6_test_77 : decode cX6_test 77 = .ok (.aload_n 0, 1) := dk_42 (bs_at BX6_test_41 18 rfl)
theorem dX6_test_78 : decode cX6_test 78 = .ok (.getfield 23, 3) := dk_180 0 23 (bs_at BX6_test_41 19 rfl) rfl
theorem dX6_test_81 : decode cX6_test 81 = .ok (.bipush 12, 2) := dk_16 12 (bs_at BX6_test_41 20 rfl) rfl
theorem dX6_test_83 : decode cX6_test 83 = .ok (.iconst 0, 1) := dk_3 (bs_at BX6_test_41 21 rfl)
theorem dX6_test_84 : decode cX6_test 84 = .ok (.invokevirtual 95, 3) := dk_182 0 95 (bs_at BX6_test_41 22 rfl) rfl
theorem dX6_test_87 : decode cX6_test 87 = .ok (.istore_n 3, 1) := dk_62 (bs_at BX6_test_41 23 rfl)
theorem BX6_test_88 : bsegs (ByteArray.data cX6_test |>.toList.drop 88) 88 [(88, [132, 4, 1]), (91, [167, 255, 172]), (94, [3]), (95, [172])] = true := by decide +kernel
theorem dX6_test_88 : decode cX6_test 88 = .ok (.iinc 4 1, 3) := dk_132 4 1 (bs_at BX6_test_88 0 rfl) rfl
theorem dX6_test_91 : decode cX6_test 91 = .ok (.goto (-84), 3) := dk_167 255 172 (bs_at BX6_test_88 1 rfl) rfl
theorem dX6_test_94 : decode cX6_test 94 = .ok (.iconst 0, 1) := dk_3 (bs_at BX6_test_88 2 rfl)
theorem dX6_test_95 : decode cX6_test 95 = .ok (.ireturn, 1) := dk_172 (bs_at BX6_test_88 3 rfl)
theorem ggX6_plain_X7_emit : GoodIn wsX6_plain wsX7_emit := gi_ch ch_X6_plain ch_X7_emit (by decide +kernel)
set_option maxRecDepth 20000 in
theorem gX6_plain_X7_emit_n95 : GoodIn wsX6_plain (wsX7_emit) := ggX6_plain_X7_emit
theorem ggX6_plain_X6_sum : GoodIn wsX6_plain wsX6_sum := gi_ch ch_X6_plain ch_X6_sum (by decide +kernel)
theorem gX6_plain_X6_sum : GoodIn wsX6_plain (wsV RX6 92 RX6 yX6_sum wsX6_sum) := gi_ch ch_X6_plain (ch_v [533, 534, 27, 146] rfl ch_X6_sum) (by decide +kernel)
theorem ggX6_plain_X6_operator : GoodIn wsX6_plain wsX6_operator := gi_ch ch_X6_plain ch_X6_operator (by decide +kernel)
theorem gX6_plain_X6_operator : GoodIn wsX6_plain (wsV RX6 133 RX6 yX6_operator wsX6_operator) := gi_ch ch_X6_plain (ch_v [543, 544, 30, 146] rfl ch_X6_operator) (by decide +kernel)
theorem ggX6_plain_X8_step : GoodIn wsX6_plain wsX8_step := gi_ch ch_X6_plain ch_X8_step (by decide +kernel)
set_option maxRecDepth 20000 in
theorem gX6_plain_X8_step_n47 : GoodIn wsX6_plain (wsX8_step) := ggX6_plain_X8_step
theorem ggX6_plain_X6_test : GoodIn wsX6_plain wsX6_test := gi_ch ch_X6_plain ch_X6_test (by decide +kernel)
theorem gX6_plain_X6_test : GoodIn wsX6_plain (wsV RX6 106 RX6 yX6_test wsX6_test) := gi_ch ch_X6_plain (ch_v [548, 549, 31, 146] rfl ch_X6_test) (by decide +kernel)
theorem ggX6_plain_X6_passed : GoodIn wsX6_plain wsX6_passed := gi_ch ch_X6_plain ch_X6_passed (by decide +kernel)
theorem gX6_plain_X6_passed : GoodIn wsX6_plain (wsV RX6 84 RX6 yX6_passed wsX6_passed) := gi_ch ch_X6_plain (ch_v [530, 531, 26, 146] rfl ch_X6_passed) (by decide +kernel)
theorem ggX6_test_X6_plain : GoodIn wsX6_test wsX6_plain := gi_ch ch_X6_test ch_X6_plain (by decide +kernel)
theorem gX6_test_X6_plain : GoodIn wsX6_test (wsV RX6 118 RX6 yX6_plain wsX6_plain) := gi_ch ch_X6_test (ch_v [551, 552, 32, 146] rfl ch_X6_plain) (by decide +kernel)
theorem ggX6_test_X7_land : GoodIn wsX6_test wsX7_land := gi_ch ch_X6_test ch_X7_land (by decide +kernel)
set_option maxRecDepth 20000 in
theorem gX6_test_X7_land_n121 : GoodIn wsX6_test (wsX7_land) := ggX6_test_X7_land
theorem ggX6_test_X6_passed : GoodIn wsX6_test wsX6_passed := gi_ch ch_X6_test ch_X6_passed (by decide +kernel)
theorem gX6_test_X6_passed : GoodIn wsX6_test (wsV RX6 84 RX6 yX6_passed wsX6_passed) := gi_ch ch_X6_test (ch_v [530, 531, 26, 146] rfl ch_X6_passed) (by decide +kernel)
theorem ggX6_test_X7_emit : GoodIn wsX6_test wsX7_emit := gi_ch ch_X6_test ch_X7_emit (by decide +kernel)
set_option maxRecDepth 20000 in
theorem gX6_test_X7_emit_n95 : GoodIn wsX6_test (wsX7_emit) := ggX6_test_X7_emit
set_option maxRecDepth 100000 in
noncomputable def E_w_plain_j158 (v_2120 : Int32) (v_2121 : Int32) (v_2122 : Int32) (v_2123 : Int32) (v_2124 : Int32) (v_2152 : Int32) (f_2153 : Nat → Int32) : Int32 × Int32 × Int32 × Int32 × Int32 × Int32 × Int32 × (Nat → Int32) :=
  ((1, v_2120, v_2121, v_2122, v_2123, v_2124, v_2152, f_2153) : Int32 × Int32 × Int32 × Int32 × Int32 × Int32 × Int32 × (Nat → Int32))
set_option maxRecDepth 100000 in
noncomputable def E_w_plain_j143 (v_1664 : Int32) (v_2120 : Int32) (v_2121 : Int32) (v_2122 : Int32) (v_2123 : Int32) (v_2124 : Int32) (v_2125 : Int32) (f_2126 : Nat → Int32) : Int32 × Int32 × Int32 × Int32 × Int32 × Int32 × Int32 × (Nat → Int32) :=
  if v_1664 = 0 then (E_w_plain_j158 v_2120 v_2121 v_2122 v_2123 v_2124 v_2125 f_2126) else (Lt2 (E_w_emit 11 0 v_2125 f_2126) (fun r_2156 q0_r_2156 => Lt2 q0_r_2156 (fun u_2157_2_2_2_1_0 u_2157_2_1_0 => E_w_plain_j158 v_2120 v_2121 v_2122 v_2123 v_2124 u_2157_2_2_2_1_0 u_2157_2_1_0)))
set_option maxRecDepth 100000 in
noncomputable def E_w_plain_j131 (v_2200 : Int32) (v_2201 : Int32) (v_2202 : Int32) (v_2203 : Int32) (v_2204 : Int32) (v_2205 : Int32) (f_2206 : Nat → Int32) : Int32 × Int32 × Int32 × Int32 × Int32 × Int32 × Int32 × (Nat → Int32) :=
  ((0, v_2200, v_2201, v_2202, v_2203, v_2204, v_2205, f_2206) : Int32 × Int32 × Int32 × Int32 × Int32 × Int32 × Int32 × (Nat → Int32))
set_option maxRecDepth 100000 in
noncomputable def E_w_plain_j85 (u_2244_2_2_2_1_0 : Int32) (u_2244_2_2_2_1_1 : Int32) (u_2244_2_2_2_1_2 : Int32) (u_2244_2_2_2_1_3 : Int32) (u_2244_2_2_2_1_4 : Int32) (u_2244_2_2_2_1_5 : Int32) (u_2244_2_1_0 : Nat → Int32) : Int32 × Int32 × Int32 × Int32 × Int32 × Int32 × Int32 × (Nat → Int32) :=
  ((0, u_2244_2_2_2_1_0, u_2244_2_2_2_1_1, u_2244_2_2_2_1_2, u_2244_2_2_2_1_3, u_2244_2_2_2_1_4, u_2244_2_2_2_1_5, u_2244_2_1_0) : Int32 × Int32 × Int32 × Int32 × Int32 × Int32 × Int32 × (Nat → Int32))
set_option maxRecDepth 100000 in
noncomputable def E_w_plain_j36 (Es : Int32 → Int32 → Int32 → Int32 → Int32 → Int32 → Int32 → Int32 → (Nat → Int32) → Int32 → (Nat → Int32) → (Int32 × Int32 × Int32 × Int32 × Int32 × Int32 × Int32 × (Nat → Int32))) (Et : Int32 → Int32 → Int32 → Int32 → Int32 → Int32 → Int32 → Int32 → (Nat → Int32) → Int32 → (Nat → Int32) → (Int32 × Int32 × Int32 × Int32 × Int32 × Int32 × Int32 × (Nat → Int32))) (d : Int32) (lw : Int32) (pa : Int32) (ln : Int32) (fb : Nat → Int32) (us : Int32) (fc : Nat → Int32) (v_1664 : Int32) (v_1749 : Int32) (v_1750 : Int32) (v_1751 : Int32) (v_1752 : Int32) : Int32 × Int32 × Int32 × Int32 × Int32 × Int32 × Int32 × (Nat → Int32) :=
  if v_1751 = 40 then (if d < 8 then (Lt2 (E_w_step ln v_1749 v_1750 v_1751 v_1752 fb) (fun u_2237_2_2_2_1_0 q0_u_2237_2_2_2_1_0 => Lt2 q0_u_2237_2_2_2_1_0 (fun u_2237_2_2_2_1_1 q1_u_2237_2_2_2_1_1 => Lt2 q1_u_2237_2_2_2_1_1 (fun u_2237_2_2_2_1_2 u_2237_2_2_2_1_3 => Lt (d + 1 : Int32) (fun x_2242 => Lt2 (Et x_2242 lw pa ln u_2237_2_2_2_1_0 u_2237_2_2_2_1_1 u_2237_2_2_2_1_2 u_2237_2_2_2_1_3 fb us fc) (fun r_2243 q0_r_2243 => Lt2 q0_r_2243 (fun u_2244_2_2_2_1_0 q1_u_2244_2_2_2_1_0 => Lt2 q1_u_2244_2_2_2_1_0 (fun u_2244_2_2_2_1_1 q2_u_2244_2_2_2_1_1 => Lt2 q2_u_2244_2_2_2_1_1 (fun u_2244_2_2_2_1_2 q3_u_2244_2_2_2_1_2 => Lt2 q3_u_2244_2_2_2_1_2 (fun u_2244_2_2_2_1_3 q4_u_2244_2_2_2_1_3 => Lt2 q4_u_2244_2_2_2_1_3 (fun u_2244_2_2_2_1_4 q5_u_2244_2_2_2_1_4 => Lt2 q5_u_2244_2_2_2_1_4 (fun u_2244_2_2_2_1_5 u_2244_2_1_0 => if r_2243 = 0 then (E_w_plain_j85 u_2244_2_2_2_1_0 u_2244_2_2_2_1_1 u_2244_2_2_2_1_2 u_2244_2_2_2_1_3 u_2244_2_2_2_1_4 u_2244_2_2_2_1_5 u_2244_2_1_0) else (if u_2244_2_2_2_1_3 = 41 then (Lt2 (E_w_step ln u_2244_2_2_2_1_1 u_2244_2_2_2_1_2 u_2244_2_2_2_1_3 u_2244_2_2_2_1_4 fb) (fun u_2265_2_2_2_1_0 q0_u_2265_2_2_2_1_0 => Lt2 q0_u_2265_2_2_2_1_0 (fun u_2265_2_2_2_1_1 q1_u_2265_2_2_2_1_1 => Lt2 q1_u_2265_2_2_2_1_1 (fun u_2265_2_2_2_1_2 u_2265_2_2_2_1_3 => E_w_plain_j143 v_1664 u_2244_2_2_2_1_0 u_2265_2_2_2_1_0 u_2265_2_2_2_1_1 u_2265_2_2_2_1_2 u_2265_2_2_2_1_3 u_2244_2_2_2_1_5 u_2244_2_1_0)))) else (E_w_plain_j85 u_2244_2_2_2_1_0 u_2244_2_2_2_1_1 u_2244_2_2_2_1_2 u_2244_2_2_2_1_3 u_2244_2_2_2_1_4 u_2244_2_2_2_1_5 u_2244_2_1_0)))))))))))))) else (((0, pa, v_1749, v_1750, v_1751, v_1752, us, fc) : Int32 × Int32 × Int32 × Int32 × Int32 × Int32 × Int32 × (Nat → Int32)))) else (Lt2 (Es d lw pa ln v_1749 v_1750 v_1751 v_1752 fb us fc) (fun r_2163 q0_r_2163 => Lt2 q0_r_2163 (fun u_2164_2_2_2_1_0 q1_u_2164_2_2_2_1_0 => Lt2 q1_u_2164_2_2_2_1_0 (fun u_2164_2_2_2_1_1 q2_u_2164_2_2_2_1_1 => Lt2 q2_u_2164_2_2_2_1_1 (fun u_2164_2_2_2_1_2 q3_u_2164_2_2_2_1_2 => Lt2 q3_u_2164_2_2_2_1_2 (fun u_2164_2_2_2_1_3 q4_u_2164_2_2_2_1_3 => Lt2 q4_u_2164_2_2_2_1_3 (fun u_2164_2_2_2_1_4 q5_u_2164_2_2_2_1_4 => Lt2 q5_u_2164_2_2_2_1_4 (fun u_2164_2_2_2_1_5 u_2164_2_1_0 => if r_2163 = 0 then (E_w_plain_j131 u_2164_2_2_2_1_0 u_2164_2_2_2_1_1 u_2164_2_2_2_1_2 u_2164_2_2_2_1_3 u_2164_2_2_2_1_4 u_2164_2_2_2_1_5 u_2164_2_1_0) else (Lt2 (E_w_operator 8 8 lw u_2164_2_2_2_1_0 ln u_2164_2_2_2_1_1 u_2164_2_2_2_1_2 u_2164_2_2_2_1_3 u_2164_2_2_2_1_4 fb) (fun r_2210 q0_r_2210 => Lt2 q0_r_2210 (fun u_2211_2_2_2_1_0 q1_u_2211_2_2_2_1_0 => Lt2 q1_u_2211_2_2_2_1_0 (fun u_2211_2_2_2_1_1 q2_u_2211_2_2_2_1_1 => Lt2 q2_u_2211_2_2_2_1_1 (fun u_2211_2_2_2_1_2 u_2211_2_2_2_1_3 => if r_2210 = (-1) then (E_w_plain_j131 u_2164_2_2_2_1_0 u_2211_2_2_2_1_0 u_2211_2_2_2_1_1 u_2211_2_2_2_1_2 u_2211_2_2_2_1_3 u_2164_2_2_2_1_5 u_2164_2_1_0) else (Lt2 (Es d lw u_2164_2_2_2_1_0 ln u_2211_2_2_2_1_0 u_2211_2_2_2_1_1 u_2211_2_2_2_1_2 u_2211_2_2_2_1_3 fb u_2164_2_2_2_1_5 u_2164_2_1_0) (fun r_2218 q0_r_2218 => Lt2 q0_r_2218 (fun u_2219_2_2_2_1_0 q1_u_2219_2_2_2_1_0 => Lt2 q1_u_2219_2_2_2_1_0 (fun u_2219_2_2_2_1_1 q2_u_2219_2_2_2_1_1 => Lt2 q2_u_2219_2_2_2_1_1 (fun u_2219_2_2_2_1_2 q3_u_2219_2_2_2_1_2 => Lt2 q3_u_2219_2_2_2_1_2 (fun u_2219_2_2_2_1_3 q4_u_2219_2_2_2_1_3 => Lt2 q4_u_2219_2_2_2_1_3 (fun u_2219_2_2_2_1_4 q5_u_2219_2_2_2_1_4 => Lt2 q5_u_2219_2_2_2_1_4 (fun u_2219_2_2_2_1_5 u_2219_2_1_0 => if r_2218 = 0 then (E_w_plain_j131 u_2219_2_2_2_1_0 u_2219_2_2_2_1_1 u_2219_2_2_2_1_2 u_2219_2_2_2_1_3 u_2219_2_2_2_1_4 u_2219_2_2_2_1_5 u_2219_2_1_0) else (Lt2 (E_w_emit r_2210 0 u_2219_2_2_2_1_5 u_2219_2_1_0) (fun r_2229 q0_r_2229 => Lt2 q0_r_2229 (fun u_2230_2_2_2_1_0 u_2230_2_1_0 => E_w_plain_j143 v_1664 u_2219_2_2_2_1_0 u_2219_2_2_2_1_1 u_2219_2_2_2_1_2 u_2219_2_2_2_1_3 u_2219_2_2_2_1_4 u_2230_2_2_2_1_0 u_2230_2_1_0))))))))))))))))))))))))
set_option maxRecDepth 100000 in
noncomputable def E_w_plain_l4 (Es : Int32 → Int32 → Int32 → Int32 → Int32 → Int32 → Int32 → Int32 → (Nat → Int32) → Int32 → (Nat → Int32) → (Int32 × Int32 × Int32 × Int32 × Int32 × Int32 × Int32 × (Nat → Int32))) (Et : Int32 → Int32 → Int32 → Int32 → Int32 → Int32 → Int32 → Int32 → (Nat → Int32) → Int32 → (Nat → Int32) → (Int32 × Int32 × Int32 × Int32 × Int32 × Int32 × Int32 × (Nat → Int32))) (d : Int32) (lw : Int32) (pa : Int32) (ln : Int32) (fb : Nat → Int32) (us : Int32) (fc : Nat → Int32) (rec_1733 : Int32 → Int32 → Int32 → Int32 → Int32 → Int32 → (Int32 × Int32 × Int32 × Int32 × Int32 × Int32 × Int32 × (Nat → Int32))) (v_1663 : Int32) (v_1664 : Int32) (v_1665 : Int32) (v_1666 : Int32) (v_1667 : Int32) (v_1668 : Int32) : Int32 × Int32 × Int32 × Int32 × Int32 × Int32 × Int32 × (Nat → Int32) :=
  if 400 < v_1663 then (E_w_plain_j36 Es Et d lw pa ln fb us fc v_1664 v_1665 v_1666 v_1667 v_1668) else (Lt2 (E_w_passed 7 lw pa ln v_1665 v_1666 v_1667 v_1668 fb) (fun r_2271 q0_r_2271 => Lt2 q0_r_2271 (fun u_2272_2_2_2_1_0 q1_u_2272_2_2_2_1_0 => Lt2 q1_u_2272_2_2_2_1_0 (fun u_2272_2_2_2_1_1 q2_u_2272_2_2_2_1_1 => Lt2 q2_u_2272_2_2_2_1_1 (fun u_2272_2_2_2_1_2 u_2272_2_2_2_1_3 => if r_2271 = 0 then (E_w_plain_j36 Es Et d lw pa ln fb us fc v_1664 u_2272_2_2_2_1_0 u_2272_2_2_2_1_1 u_2272_2_2_2_1_2 u_2272_2_2_2_1_3) else (if v_1664 = 0 then (Lt (v_1663 + Int32.ofInt 1 : Int32) (fun x_2282 => rec_1733 x_2282 1 u_2272_2_2_2_1_0 u_2272_2_2_2_1_1 u_2272_2_2_2_1_2 u_2272_2_2_2_1_3)) else (Lt (v_1663 + Int32.ofInt 1 : Int32) (fun x_2280 => rec_1733 x_2280 0 u_2272_2_2_2_1_0 u_2272_2_2_2_1_1 u_2272_2_2_2_1_2 u_2272_2_2_2_1_3))))))))
set_option maxRecDepth 100000 in
noncomputable def E_w_plain (Es : Int32 → Int32 → Int32 → Int32 → Int32 → Int32 → Int32 → Int32 → (Nat → Int32) → Int32 → (Nat → Int32) → (Int32 × Int32 × Int32 × Int32 × Int32 × Int32 × Int32 × (Nat → Int32))) (Et : Int32 → Int32 → Int32 → Int32 → Int32 → Int32 → Int32 → Int32 → (Nat → Int32) → Int32 → (Nat → Int32) → (Int32 × Int32 × Int32 × Int32 × Int32 × Int32 × Int32 × (Nat → Int32))) (d : Int32) (lw : Int32) (pa : Int32) (ln : Int32) (tf : Int32) (tt : Int32) (ti : Int32) (tu : Int32) (fb : Nat → Int32) (us : Int32) (fc : Nat → Int32) : Int32 × Int32 × Int32 × Int32 × Int32 × Int32 × Int32 × (Nat → Int32) :=
  Lp (α := Int32 → Int32 → Int32 → Int32 → Int32 → Int32 → (Int32 × Int32 × Int32 × Int32 × Int32 × Int32 × Int32 × (Nat → Int32))) (E_w_plain_l4 Es Et d lw pa ln fb us fc) (fun _ _ _ _ _ _ => ((0, 0, 0, 0, 0, 0, 0, fun _ => 0) : Int32 × Int32 × Int32 × Int32 × Int32 × Int32 × Int32 × (Nat → Int32))) ((402 - (0 : Int32).toInt : Int).toNat + 1) 0 0 tf tt ti tu
set_option maxHeartbeats 4000000 in
set_option maxRecDepth 100000 in
theorem w_plain (f1 l1 f2 l2 : Nat) (DD : Int) (zDD : 0 ≤ DD ∧ DD ≤ 8) (Es Et : Int32 → Int32 → Int32 → Int32 → Int32 → Int32 → Int32 → Int32 → (Nat → Int32) → Int32 → (Nat → Int32) → (Int32 × Int32 × Int32 × Int32 × Int32 × Int32 × Int32 × (Nat → Int32))) (hsum : SumAt f1 l1 DD Es) (htest : DD < 8 → TestAt f2 l2 (DD + 1) Et) (l : Launch) (D : va_G) (K : Nat → ClassId) (g : Nat → Nat) (L : Nat → Prop) (G : Nat → LC) (a0 : Nat) (d : Int32) (t0 : Nat) (s0 : Nat) (lw : Int32) (pa : Int32) (r_4 : Value) (t1 : Nat) (ln : Int32) (tf : Int32) (tt : Int32) (ti : Int32) (tu : Int32) (fb : Nat → Int32) (s1 : Nat) (s2 : Nat) (s_2 : Value) (us : Int32) (fc : Nat → Int32) (sz : Nat) (zln : 0 ≤ ln.toInt ∧ ln.toInt ≤ 400) (ztf : 0 ≤ tf.toInt ∧ tf.toInt ≤ 400) (ztt : 0 ≤ tt.toInt ∧ tt.toInt ≤ 400) (ztu : (-1) ≤ tu.toInt ∧ tu.toInt ≤ 1000000) (zlw : 0 ≤ lw.toInt ∧ lw.toInt ≤ 1) (zpa : 0 ≤ pa.toInt ∧ pa.toInt ≤ 50) (zd : d.toInt = DD) (zus : 0 ≤ us.toInt ∧ us.toInt ≤ 800) (zfc : Rg 800 0 1000 fc) : Met l yX6_plain wsX6_plain ({ frames := f1 + f2 + 6, cells := 0, slots := 0, locals := l1 + l2 + 131 }) (va_Pc [.ref a0, .int d] (PreY D K [(a0, .inr (6, [.ref t0, .ref s0, .int lw, .int pa, r_4])), (t0, .inr (8, [.ref t1, .int ln, .int tf, .int tt, .int ti, .int tu])), (t1, .inl (K 0, 400, .inl fb)), (s0, .inr (7, [.ref s1, .ref s2, s_2, .int us])), (s2, .inl (K 0, 800, .inl fc))] [] sz g L G (va_A [(a0, .inr (6, [.ref t0, .ref s0, .int lw, .int pa, r_4])), (t0, .inr (8, [.ref t1, .int ln, .int tf, .int tt, .int ti, .int tu])), (t1, .inl (K 0, 400, .inl fb)), (s0, .inr (7, [.ref s1, .ref s2, s_2, .int us])), (s2, .inl (K 0, 800, .inl fc))] sz))) (va_Qi (S := Su) (fun (r : Int32) (u : Su) => (0 ≤ r.toInt ∧ r.toInt ≤ 1) ∧ (0 ≤ (u.2.2.2.1 0).toInt ∧ (u.2.2.2.1 0).toInt ≤ 50) ∧ (0 ≤ (u.2.2.2.1 1).toInt ∧ (u.2.2.2.1 1).toInt ≤ 400) ∧ (0 ≤ (u.2.2.2.1 2).toInt ∧ (u.2.2.2.1 2).toInt ≤ 400) ∧ ((-1) ≤ (u.2.2.2.1 4).toInt ∧ (u.2.2.2.1 4).toInt ≤ 1000000) ∧ (0 ≤ (u.2.2.2.1 5).toInt ∧ (u.2.2.2.1 5).toInt ≤ 800) ∧ (Rg 800 0 1000 (u.2.1 0)) ∧ ((r, (u.2.2.2.1 0), (u.2.2.2.1 1), (u.2.2.2.1 2), (u.2.2.2.1 3), (u.2.2.2.1 4), (u.2.2.2.1 5), (u.2.1 0)) = E_w_plain Es Et d lw pa ln tf tt ti tu fb us fc) ∧ True) (fun u t => Wd D (va_A [(a0, .inr (6, [.ref t0, .ref s0, .int lw, .int pa, r_4])), (t0, .inr (8, [.ref t1, .int ln, .int tf, .int tt, .int ti, .int tu])), (t1, .inl (K 0, 400, .inl fb)), (s0, .inr (7, [.ref s1, .ref s2, s_2, .int us])), (s2, .inl (K 0, 800, .inl fc))] sz) ((fun u => [(a0, .inr (6, [.ref t0, .ref s0, .int lw, .int (u.2.2.2.1 0), r_4])), (t0, .inr (8, [.ref t1, .int ln, .int (u.2.2.2.1 1), .int (u.2.2.2.1 2), .int (u.2.2.2.1 3), .int (u.2.2.2.1 4)])), (t1, .inl (K 0, 400, .inl fb)), (s0, .inr (7, [.ref s1, .ref s2, s_2, .int (u.2.2.2.1 5)])), (s2, .inl (K 0, 800, .inl (u.2.1 0)))]) u) t) (va_A [(a0, .inr (6, [.ref t0, .ref s0, .int lw, .int pa, r_4])), (t0, .inr (8, [.ref t1, .int ln, .int tf, .int tt, .int ti, .int tu])), (t1, .inl (K 0, 400, .inl fb)), (s0, .inr (7, [.ref s1, .ref s2, s_2, .int us])), (s2, .inl (K 0, 800, .inl fc))] sz)) 0 0 (va_A [(a0, .inr (6, [.ref t0, .ref s0, .int lw, .int pa, r_4])), (t0, .inr (8, [.ref t1, .int ln, .int tf, .int tt, .int ti, .int tu])), (t1, .inl (K 0, 400, .inl fb)), (s0, .inr (7, [.ref s1, .ref s2, s_2, .int us])), (s2, .inl (K 0, 800, .inl fc))] sz) := by
  refine Met.ofW (cc := cX6_plain) (maxL := 4) (ret := (some .boolean)) (by decide +kernel) rfl ?_
  intro p e s m args below meth c s₁ B hml hv
  obtain ⟨rfl, ⟨hsz, hP, hK, hD0, hN⟩, hG, hPl, hRo⟩ := hv
  have hx := B.exec
  have hb := B.bytes
  have hr := B.returns
  have hts := atoms_spec (ws := wsX6_plain) B.pre
  have hown : s.vm.findClass RX6 = some m.cls := findClass_of_methodNamed B.named
  have hlocks := B.notSynchronized
  subst hsz
  have hD := hD0.self (sz := s.heap.size)
  generalize hAe : va_A [(a0, .inr (6, [.ref t0, .ref s0, .int lw, .int pa, r_4])), (t0, .inr (8, [.ref t1, .int ln, .int tf, .int tt, .int ti, .int tu])), (t1, .inl (K 0, 400, .inl fb)), (s0, .inr (7, [.ref s1, .ref s2, s_2, .int us])), (s2, .inl (K 0, 800, .inl fc))] s.heap.size = A at hD hG hPl hRo ⊢
  have hA : ∀ q : Nat, s.heap.size ≤ q → A q := fun q h => by rw [← hAe]; exact Or.inr h
  clear hAe
  have hS : va_S A s.heap s.heap [] := va_S.rf
  replace hP : va_P D vwCl [(a0, .inr (6, [.ref t0, .ref s0, .int lw, .int pa, r_4])), (t0, .inr (8, [.ref t1, .int ln, .int tf, .int tt, .int ti, .int tu])), (t1, .inl (K 0, 400, .inl fb)), (s0, .inr (7, [.ref s1, .ref s2, s_2, .int us])), (s2, .inl (K 0, 800, .inl fc))] s.heap := hP
  have hl := lv_entry [.ref a0, .int d] (n := 4) (Nat.le_of_ble_eq_true rfl)
  rw [lg_entry_eq]
  generalize (lg_sl [.ref a0, .int d] ++ List.replicate (4 - (lg_sl [.ref a0, .int d]).length) Slot.unset).toArray = ls at hl ⊢
  have hl : lv_has ls 4 [(0, .ref a0), (1, .int d)] := hl
  have hw6 : ∀ w ∈ wsX60, w ∈ wsX6_plain := fun w h => (List.mem_cons_of_mem _ (List.mem_append_left _ (List.mem_append_left _ (List.mem_append_right _ h))))
  have hw7 : ∀ w ∈ wsX70, w ∈ wsX6_plain := fun w h => (List.mem_cons_of_mem _ (List.mem_append_right _ h))
  have hw8 : ∀ w ∈ wsX80, w ∈ wsX6_plain := fun w h => (List.mem_cons_of_mem _ (List.mem_append_left _ (List.mem_append_right _ h)))
  generalize hQ : MQ below _ _ s _ _ _ = Q
  have hE := E_w_plain.eq_def Es Et d lw pa ln tf tt ti tu fb us fc
  refine lv_iconst (v := 0) hx hb dX6_plain_0 (by decide +kernel) ?_
  refine lv_istore_n (lv' := [(2, .int 0), (0, .ref a0), (1, .int d)]) hx hb dX6_plain_1 rfl hl (by decide +kernel) rfl (fun ls hl => ?_)
  refine lv_iconst (v := 0) hx hb dX6_plain_2 (by decide +kernel) ?_
  refine lv_istore_n (lv' := [(3, .int 0), (2, .int 0), (0, .ref a0), (1, .int d)]) hx hb dX6_plain_3 rfl hl (by decide +kernel) rfl (fun ls hl => ?_)
  have lp_1733 : ∀ (nn_ : Nat) (v_1663 : Int32) (v_1664 : Int32) (v_1665 : Int32) (v_1666 : Int32) (v_1667 : Int32) (v_1668 : Int32) (hv_1663 : 0 ≤ v_1663.toInt ∧ v_1663.toInt ≤ 401) (hv_1664 : 0 ≤ v_1664.toInt ∧ v_1664.toInt ≤ 1) (hv_1665 : 0 ≤ v_1665.toInt ∧ v_1665.toInt ≤ 400) (hv_1666 : 0 ≤ v_1666.toInt ∧ v_1666.toInt ≤ 400) (hv_1668 : (-1) ≤ v_1668.toInt ∧ v_1668.toInt ≤ 1000000) (hn : (402 - v_1663.toInt : Int).toNat < nn_) (hE : E_w_plain Es Et d lw pa ln tf tt ti tu fb us fc = Lp (α := Int32 → Int32 → Int32 → Int32 → Int32 → Int32 → (Int32 × Int32 × Int32 × Int32 × Int32 × Int32 × Int32 × (Nat → Int32))) (E_w_plain_l4 Es Et d lw pa ln fb us fc) (fun _ _ _ _ _ _ => ((0, 0, 0, 0, 0, 0, 0, fun _ => 0) : Int32 × Int32 × Int32 × Int32 × Int32 × Int32 × Int32 × (Nat → Int32))) nn_ v_1663 v_1664 v_1665 v_1666 v_1667 v_1668) (H : Heap) (locs : List Loc) (hP : va_P D vwCl [(a0, .inr (6, [.ref t0, .ref s0, .int lw, .int pa, r_4])), (t0, .inr (8, [.ref t1, .int ln, .int v_1665, .int v_1666, .int v_1667, .int v_1668])), (t1, .inl (K 0, 400, .inl fb)), (s0, .inr (7, [.ref s1, .ref s2, s_2, .int us])), (s2, .inl (K 0, 800, .inl fc))] H) (hD : va_D A [(a0, .inr (6, [.ref t0, .ref s0, .int lw, .int pa, r_4])), (t0, .inr (8, [.ref t1, .int ln, .int v_1665, .int v_1666, .int v_1667, .int v_1668])), (t1, .inl (K 0, 400, .inl fb)), (s0, .inr (7, [.ref s1, .ref s2, s_2, .int us])), (s2, .inl (K 0, 800, .inl fc))]) (hS : va_S A s.heap H locs) (ls : Array Slot) (hl : lv_has ls 4 [(3, .int v_1663), (2, .int v_1664), (0, .ref a0), (1, .int d)]), W p l e ({ frames := f1 + f2 + 6, cells := 0, slots := 0, locals := l1 + l2 + 131 }) s m (([.ref a0, .int d] : List Value).toArray) below meth c H locs 0 0 Q (F0 m 4 ls []) := by
    clear hE hP hD hS hl
    intro nn_
    induction nn_ with
    | zero =>
      intro v_1663 v_1664 v_1665 v_1666 v_1667 v_1668 hv_1663 hv_1664 hv_1665 hv_1666 hv_1668 hn hE H locs hP hD hS ls hl
      exact absurd hn (Nat.not_lt_zero _)
    | succ nn_ ih_1734 =>
      intro v_1663 v_1664 v_1665 v_1666 v_1667 v_1668 hv_1663 hv_1664 hv_1665 hv_1666 hv_1668 hn hE H locs hP hD hS ls hl
      replace hE : E_w_plain Es Et d lw pa ln tf tt ti tu fb us fc = E_w_plain_l4 Es Et d lw pa ln fb us fc (Lp (α := Int32 → Int32 → Int32 → Int32 → Int32 → Int32 → (Int32 × Int32 × Int32 × Int32 × Int32 × Int32 × Int32 × (Nat → Int32))) (E_w_plain_l4 Es Et d lw pa ln fb us fc) (fun _ _ _ _ _ _ => ((0, 0, 0, 0, 0, 0, 0, fun _ => 0) : Int32 × Int32 × Int32 × Int32 × Int32 × Int32 × Int32 × (Nat → Int32))) nn_) v_1663 v_1664 v_1665 v_1666 v_1667 v_1668 := hE
      obtain ⟨rec_1733, hrec_1733⟩ : ∃ z9, z9 = Lp (α := Int32 → Int32 → Int32 → Int32 → Int32 → Int32 → (Int32 × Int32 × Int32 × Int32 × Int32 × Int32 × Int32 × (Nat → Int32))) (E_w_plain_l4 Es Et d lw pa ln fb us fc) (fun _ _ _ _ _ _ => ((0, 0, 0, 0, 0, 0, 0, fun _ => 0) : Int32 × Int32 × Int32 × Int32 × Int32 × Int32 × Int32 × (Nat → Int32))) nn_ := ⟨_, rfl⟩
      rw [← hrec_1733] at hE
      replace hE := hE.trans (E_w_plain_l4.eq_def _ _ _ _ _ _ _ _ _ _ _ _ _ _ _ _)
      refine lv_iload_n hx hb dX6_plain_4 rfl (lv_at hl 0 rfl) ?_
      refine lv_sipush (v := 400) hx hb dX6_plain_5 (by decide +kernel) ?_
      have j_2011 : ∀ (v_1749 : Int32) (v_1750 : Int32) (v_1751 : Int32) (v_1752 : Int32) (hv_1749 : 0 ≤ v_1749.toInt ∧ v_1749.toInt ≤ 400) (hv_1750 : 0 ≤ v_1750.toInt ∧ v_1750.toInt ≤ 400) (hv_1752 : (-1) ≤ v_1752.toInt ∧ v_1752.toInt ≤ 1000000) (hE : E_w_plain Es Et d lw pa ln tf tt ti tu fb us fc = E_w_plain_j36 Es Et d lw pa ln fb us fc v_1664 v_1749 v_1750 v_1751 v_1752) (H : Heap) (locs : List Loc) (hP : va_P D vwCl [(a0, .inr (6, [.ref t0, .ref s0, .int lw, .int pa, r_4])), (t0, .inr (8, [.ref t1, .int ln, .int v_1749, .int v_1750, .int v_1751, .int v_1752])), (t1, .inl (K 0, 400, .inl fb)), (s0, .inr (7, [.ref s1, .ref s2, s_2, .int us])), (s2, .inl (K 0, 800, .inl fc))] H) (hD : va_D A [(a0, .inr (6, [.ref t0, .ref s0, .int lw, .int pa, r_4])), (t0, .inr (8, [.ref t1, .int ln, .int v_1749, .int v_1750, .int v_1751, .int v_1752])), (t1, .inl (K 0, 400, .inl fb)), (s0, .inr (7, [.ref s1, .ref s2, s_2, .int us])), (s2, .inl (K 0, 800, .inl fc))]) (hS : va_S A s.heap H locs) (ls : Array Slot) (hl : lv_has ls 4 [(2, .int v_1664), (0, .ref a0), (1, .int d)]), W p l e ({ frames := f1 + f2 + 6, cells := 0, slots := 0, locals := l1 + l2 + 131 }) s m (([.ref a0, .int d] : List Value).toArray) below meth c H locs 0 0 Q (F0 m 36 ls []) := by
        clear hE hP hD hS hl
        intro v_1749 v_1750 v_1751 v_1752 hv_1749 hv_1750 hv_1752 hE H locs hP hD hS ls hl
        replace hE := hE.trans (E_w_plain_j36.eq_def _ _ _ _ _ _ _ _ _ _ _ _ _ _)
        refine lv_aload_n hx hb dX6_plain_36 rfl (lv_at hl 1 rfl) ?_
        refine va_get (ci := 6) (v := .ref t0) (C := RX6) (T := TX6) (N := 5) hx hb hts hw6 hown hK hP 0 rfl rfl 0 (by decide +kernel) (hts _ mm_X6_plain_231) (fun _ h9 => h9) rfl dX6_plain_37 ?_
        refine va_getN (ci := 8) (v := .int v_1751) (C := RX8) (T := TX8) (N := 6) hx hb hts hw8 hown hK hP 1 rfl rfl 4 (by decide +kernel) (nst_use hN 123 rfl) (fun _ h9 => h9) rfl dX6_plain_40 ?_
        refine lv_bipush (v := 40) hx hb dX6_plain_43 (by decide +kernel) ?_
        have j_2144 : ∀ (v_2120 : Int32) (v_2121 : Int32) (v_2122 : Int32) (v_2123 : Int32) (v_2124 : Int32) (v_2125 : Int32) (f_2126 : Nat → Int32) (hv_2120 : 0 ≤ v_2120.toInt ∧ v_2120.toInt ≤ 50) (hv_2121 : 0 ≤ v_2121.toInt ∧ v_2121.toInt ≤ 400) (hv_2122 : 0 ≤ v_2122.toInt ∧ v_2122.toInt ≤ 400) (hv_2124 : (-1) ≤ v_2124.toInt ∧ v_2124.toInt ≤ 1000000) (hv_2125 : 0 ≤ v_2125.toInt ∧ v_2125.toInt ≤ 800) (hf_2126_0 : Rg 800 0 1000 f_2126) (hE : E_w_plain Es Et d lw pa ln tf tt ti tu fb us fc = E_w_plain_j143 v_1664 v_2120 v_2121 v_2122 v_2123 v_2124 v_2125 f_2126) (H : Heap) (locs : List Loc) (hP : va_P D vwCl [(a0, .inr (6, [.ref t0, .ref s0, .int lw, .int v_2120, r_4])), (t0, .inr (8, [.ref t1, .int ln, .int v_2121, .int v_2122, .int v_2123, .int v_2124])), (t1, .inl (K 0, 400, .inl fb)), (s0, .inr (7, [.ref s1, .ref s2, s_2, .int v_2125])), (s2, .inl (K 0, 800, .inl f_2126))] H) (hD : va_D A [(a0, .inr (6, [.ref t0, .ref s0, .int lw, .int v_2120, r_4])), (t0, .inr (8, [.ref t1, .int ln, .int v_2121, .int v_2122, .int v_2123, .int v_2124])), (t1, .inl (K 0, 400, .inl fb)), (s0, .inr (7, [.ref s1, .ref s2, s_2, .int v_2125])), (s2, .inl (K 0, 800, .inl f_2126))]) (hS : va_S A s.heap H locs) (ls : Array Slot) (hl : lv_has ls 4 [(2, .int v_1664), (0, .ref a0)]), W p l e ({ frames := f1 + f2 + 6, cells := 0, slots := 0, locals := l1 + l2 + 131 }) s m (([.ref a0, .int d] : List Value).toArray) below meth c H locs 0 0 Q (F0 m 143 ls []) := by
          clear hE hP hD hS hl
          intro v_2120 v_2121 v_2122 v_2123 v_2124 v_2125 f_2126 hv_2120 hv_2121 hv_2122 hv_2124 hv_2125 hf_2126_0 hE H locs hP hD hS ls hl
          replace hE := hE.trans (E_w_plain_j143.eq_def _ _ _ _ _ _ _ _)
          refine lv_iload_n hx hb dX6_plain_143 rfl (lv_at hl 0 rfl) ?_
          have j_2154 : ∀ (v_2152 : Int32) (f_2153 : Nat → Int32) (hv_2152 : 0 ≤ v_2152.toInt ∧ v_2152.toInt ≤ 800) (hf_2153_0 : Rg 800 0 1000 f_2153) (hE : E_w_plain Es Et d lw pa ln tf tt ti tu fb us fc = E_w_plain_j158 v_2120 v_2121 v_2122 v_2123 v_2124 v_2152 f_2153) (H : Heap) (locs : List Loc) (hP : va_P D vwCl [(a0, .inr (6, [.ref t0, .ref s0, .int lw, .int v_2120, r_4])), (t0, .inr (8, [.ref t1, .int ln, .int v_2121, .int v_2122, .int v_2123, .int v_2124])), (t1, .inl (K 0, 400, .inl fb)), (s0, .inr (7, [.ref s1, .ref s2, s_2, .int v_2152])), (s2, .inl (K 0, 800, .inl f_2153))] H) (hD : va_D A [(a0, .inr (6, [.ref t0, .ref s0, .int lw, .int v_2120, r_4])), (t0, .inr (8, [.ref t1, .int ln, .int v_2121, .int v_2122, .int v_2123, .int v_2124])), (t1, .inl (K 0, 400, .inl fb)), (s0, .inr (7, [.ref s1, .ref s2, s_2, .int v_2152])), (s2, .inl (K 0, 800, .inl f_2153))]) (hS : va_S A s.heap H locs) (ls : Array Slot) (hl : lv_has ls 4 []), W p l e ({ frames := f1 + f2 + 6, cells := 0, slots := 0, locals := l1 + l2 + 131 }) s m (([.ref a0, .int d] : List Value).toArray) below meth c H locs 0 0 Q (F0 m 158 ls []) := by
            clear hE hP hD hS hl
            intro v_2152 f_2153 hv_2152 hf_2153_0 hE H locs hP hD hS ls hl
            replace hE := hE.trans (E_w_plain_j158.eq_def _ _ _ _ _ _ _)
            refine lv_iconst (v := 1) hx hb dX6_plain_158 (by decide +kernel) ?_
            rw [← hQ]
            have hP9 := hP.sub (ws' := [(a0, .inr (6, [.ref t0, .ref s0, .int lw, .int v_2120, r_4])), (t0, .inr (8, [.ref t1, .int ln, .int v_2121, .int v_2122, .int v_2123, .int v_2124])), (t1, .inl (K 0, 400, .inl fb)), (s0, .inr (7, [.ref s1, .ref s2, s_2, .int v_2152])), (s2, .inl (K 0, 800, .inl f_2153))]) [0, 1, 2, 3, 4] rfl
            have hD9 := hD.sub (ws' := [(a0, .inr (6, [.ref t0, .ref s0, .int lw, .int v_2120, r_4])), (t0, .inr (8, [.ref t1, .int ln, .int v_2121, .int v_2122, .int v_2123, .int v_2124])), (t1, .inl (K 0, 400, .inl fb)), (s0, .inr (7, [.ref s1, .ref s2, s_2, .int v_2152])), (s2, .inl (K 0, 800, .inl f_2153))]) [0, 1, 2, 3, 4] (by decide +kernel) rfl
            exact W.zret (v := 1) hx hb hr (by decide +kernel) (fun t ht hW => ⟨⟨1, ((fun _ => 0, fun i => match i with | _ => f_2153, fun _ => fun _ => 0, fun i => match i with | 0 => v_2120 | 1 => v_2121 | 2 => v_2122 | 3 => v_2123 | 4 => v_2124 | _ => v_2152, fun _ => 0, fun _ => fun _ => none) : Su), rfl, ⟨(show 0 ≤ (1 : Int32).toInt ∧ (1 : Int32).toInt ≤ 1 by decide), (show 0 ≤ (v_2120 : Int32).toInt ∧ (v_2120 : Int32).toInt ≤ 50 by omega), (show 0 ≤ (v_2121 : Int32).toInt ∧ (v_2121 : Int32).toInt ≤ 400 by omega), (show 0 ≤ (v_2122 : Int32).toInt ∧ (v_2122 : Int32).toInt ≤ 400 by omega), (show (-1) ≤ (v_2124 : Int32).toInt ∧ (v_2124 : Int32).toInt ≤ 1000000 by omega), (show 0 ≤ (v_2152 : Int32).toInt ∧ (v_2152 : Int32).toInt ≤ 800 by omega), hf_2153_0, hE.symm, trivial⟩, (⟨by rw [ht]; exact hP9, hD9⟩ : Wd D A _ t)⟩, hS.F ht⟩) hS.2.2 dX6_plain_159
          refine lv_if_eq (tgt := 158) hx hb dX6_plain_144 (by decide +kernel) (fun c_2155 => ?_) (fun c_2155 => ?_)
          · have c_2155i := i_eq (x := v_1664.toInt) (y := 0) rfl rfl c_2155
            replace hE := hE.trans (if_pos c_2155)
            exact j_2154 v_2125 f_2126 (by omega) hf_2126_0 hE _ _ hP hD hS ls (lv_sub hl [] rfl)
          · have c_2155i := i_ne (x := v_1664.toInt) (y := 0) rfl rfl c_2155
            replace hE := hE.trans (if_neg c_2155)
            refine lv_aload_n hx hb dX6_plain_147 rfl (lv_at hl 1 rfl) ?_
            refine va_get (ci := 6) (v := .ref s0) (C := RX6) (T := TX6) (N := 5) hx hb hts hw6 hown hK hP 0 rfl rfl 1 (by decide +kernel) (hts _ mm_X6_plain_232) (fun _ h9 => h9) rfl dX6_plain_148 ?_
            refine lv_bipush (v := 11) hx hb dX6_plain_151 (by decide +kernel) ?_
            refine lv_iconst (v := 0) hx hb dX6_plain_153 (by decide +kernel) ?_
            refine kci (S := Su) (wr := [(a0, .inr (6, [.ref t0, .ref s0, .int lw, .int v_2120, r_4])), (t0, .inr (8, [.ref t1, .int ln, .int v_2121, .int v_2122, .int v_2123, .int v_2124])), (t1, .inl (K 0, 400, .inl fb))]) (va_runVN (As := [.int 11, .int 0]) (rest := []) ⟨hx, hb, hml, hown, hts⟩ (w_emit l D K s0 11 0 s1 s2 s_2 v_2125 f_2126 H.size (by first | omega | decide) (by first | omega | decide) (by first | omega | decide) hf_2126_0) ⟨va_cnB 2 hts gX6_plain_X7_emit_n95 rfl rfl rfl (nst_at hN 36 rfl) (hts _ mm_X6_plain_148) (by decide +kernel) ⟨by show (0) + 1 ≤ f1 + f2 + 6; omega, by show 8 + (3 + 11) + (0) ≤ l1 + l2 + 131; omega⟩, (hts _ mm_X6_plain_539), (hts _ mm_X6_plain_29)⟩ (mkV hK hN (hP.sub [3, 4] rfl) (hD.sub [3, 4] (by decide +kernel) rfl) (ci := 7) (q0 := 0) rfl rfl) rfl rfl hl.1 rfl (lv_room (Nat.le_of_ble_eq_true rfl)) dX6_plain_154 ⟨Nat.le_of_ble_eq_true rfl, Nat.le_of_ble_eq_true rfl⟩) hP hD hS hA [3, 4] [0, 1, 2] rfl rfl (by decide +kernel) (by decide +kernel) (fun r_2156 u_2157 H locs hw hP0 hD0 hS0 => ?_)
            clear hP hD hS
            have hP := hP0
            have hD := hD0
            have hS := hS0
            clear hP0 hD0 hS0
            replace hP : va_P D vwCl [(a0, .inr (6, [.ref t0, .ref s0, .int lw, .int v_2120, r_4])), (t0, .inr (8, [.ref t1, .int ln, .int v_2121, .int v_2122, .int v_2123, .int v_2124])), (t1, .inl (K 0, 400, .inl fb)), (s0, .inr (7, [.ref s1, .ref s2, s_2, .int (u_2157.2.2.2.1 0)])), (s2, .inl (K 0, 800, .inl (u_2157.2.1 0)))] H := hP
            replace hD : va_D A [(a0, .inr (6, [.ref t0, .ref s0, .int lw, .int v_2120, r_4])), (t0, .inr (8, [.ref t1, .int ln, .int v_2121, .int v_2122, .int v_2123, .int v_2124])), (t1, .inl (K 0, 400, .inl fb)), (s0, .inr (7, [.ref s1, .ref s2, s_2, .int (u_2157.2.2.2.1 0)])), (s2, .inl (K 0, 800, .inl (u_2157.2.1 0)))] := hD
            obtain ⟨h_2161, k_2158, k_2159, k_2160, -⟩ := hw
            replace hE := (hE.trans (Lt2_in k_2160)).trans (Lt2_in rfl)
            refine lv_pop hx hb dX6_plain_157 rfl ?_
            exact j_2154 (u_2157.2.2.2.1 0) (u_2157.2.1 0) (by omega) k_2159 hE _ _ hP hD hS ls (lv_sub hl [] rfl)
        refine lv_icmp_ne (tgt := 97) hx hb dX6_plain_45 (by decide +kernel) (fun c_2162 => ?_) (fun c_2162 => ?_)
        · have c_2162i := i_ne (x := v_1751.toInt) (y := 40) rfl rfl c_2162
          replace hE := hE.trans (if_neg c_2162)
          refine lv_aload_n hx hb dX6_plain_97 rfl (lv_at hl 1 rfl) ?_
          refine lv_iload_n hx hb dX6_plain_98 rfl (lv_at hl 2 rfl) ?_
          refine kci (S := Su) (wr := []) (va_runV (As := [.int d]) (rest := []) ⟨hx, hb, hml, hown, hts⟩ (hsum l D K g L G a0 d t0 s0 lw pa r_4 t1 ln v_1749 v_1750 v_1751 v_1752 fb s1 s2 s_2 us fc H.size (by first | omega | decide) (by first | omega | decide) (by first | omega | decide) (by first | omega | decide) (by first | omega | decide) (by first | omega | decide) (by first | omega | decide) (by first | omega | decide) zfc) (cwV 1 hts gX6_plain_X6_sum rfl rfl rfl (by decide +kernel) ⟨by show (f1) + 1 ≤ f1 + f2 + 6; omega, by show 8 + (5 + 11) + (l1) ≤ l1 + l2 + 131; omega⟩) (mkVY hK hN (hP.sub [0, 1, 2, 3, 4] rfl) (hD.sub [0, 1, 2, 3, 4] (by decide +kernel) rfl) (ci := 6) (q0 := 0) rfl rfl (fun U hU hW => ⟨Gl.at hG hS hW hU (fun q h => va_free hD hS hA [0, 1, 2, 3, 4] rfl q h), Pool.at hPl hS hU (fun q h => va_free hD hS hA [0, 1, 2, 3, 4] rfl q h), Ro.heap hU (Ro.nil)⟩)) rfl rfl hl.1 rfl (lv_room (Nat.le_of_ble_eq_true rfl)) dX6_plain_99 ⟨Nat.le_of_ble_eq_true rfl, Nat.le_of_ble_eq_true rfl⟩) hP hD hS hA [0, 1, 2, 3, 4] [] rfl rfl (by decide +kernel) (by decide +kernel) (fun r_2163 u_2164 H locs hw hP0 hD0 hS0 => ?_)
          clear hP hD hS
          have hP := hP0
          have hD := hD0
          have hS := hS0
          clear hP0 hD0 hS0
          replace hP : va_P D vwCl [(a0, .inr (6, [.ref t0, .ref s0, .int lw, .int (u_2164.2.2.2.1 0), r_4])), (t0, .inr (8, [.ref t1, .int ln, .int (u_2164.2.2.2.1 1), .int (u_2164.2.2.2.1 2), .int (u_2164.2.2.2.1 3), .int (u_2164.2.2.2.1 4)])), (t1, .inl (K 0, 400, .inl fb)), (s0, .inr (7, [.ref s1, .ref s2, s_2, .int (u_2164.2.2.2.1 5)])), (s2, .inl (K 0, 800, .inl (u_2164.2.1 0)))] H := hP
          replace hD : va_D A [(a0, .inr (6, [.ref t0, .ref s0, .int lw, .int (u_2164.2.2.2.1 0), r_4])), (t0, .inr (8, [.ref t1, .int ln, .int (u_2164.2.2.2.1 1), .int (u_2164.2.2.2.1 2), .int (u_2164.2.2.2.1 3), .int (u_2164.2.2.2.1 4)])), (t1, .inl (K 0, 400, .inl fb)), (s0, .inr (7, [.ref s1, .ref s2, s_2, .int (u_2164.2.2.2.1 5)])), (s2, .inl (K 0, 800, .inl (u_2164.2.1 0)))] := hD
          obtain ⟨h_2172, k_2165, k_2166, k_2167, k_2168, k_2169, k_2170, k_2171, -⟩ := hw
          replace hE := ((((((hE.trans (Lt2_in k_2171)).trans (Lt2_in rfl)).trans (Lt2_in rfl)).trans (Lt2_in rfl)).trans (Lt2_in rfl)).trans (Lt2_in rfl)).trans (Lt2_in rfl)
          have j_2207 : ∀ (v_2200 : Int32) (v_2201 : Int32) (v_2202 : Int32) (v_2203 : Int32) (v_2204 : Int32) (v_2205 : Int32) (f_2206 : Nat → Int32) (hv_2200 : 0 ≤ v_2200.toInt ∧ v_2200.toInt ≤ 50) (hv_2201 : 0 ≤ v_2201.toInt ∧ v_2201.toInt ≤ 400) (hv_2202 : 0 ≤ v_2202.toInt ∧ v_2202.toInt ≤ 400) (hv_2204 : (-1) ≤ v_2204.toInt ∧ v_2204.toInt ≤ 1000000) (hv_2205 : 0 ≤ v_2205.toInt ∧ v_2205.toInt ≤ 800) (hf_2206_0 : Rg 800 0 1000 f_2206) (hE : E_w_plain Es Et d lw pa ln tf tt ti tu fb us fc = E_w_plain_j131 v_2200 v_2201 v_2202 v_2203 v_2204 v_2205 f_2206) (H : Heap) (locs : List Loc) (hP : va_P D vwCl [(a0, .inr (6, [.ref t0, .ref s0, .int lw, .int v_2200, r_4])), (t0, .inr (8, [.ref t1, .int ln, .int v_2201, .int v_2202, .int v_2203, .int v_2204])), (t1, .inl (K 0, 400, .inl fb)), (s0, .inr (7, [.ref s1, .ref s2, s_2, .int v_2205])), (s2, .inl (K 0, 800, .inl f_2206))] H) (hD : va_D A [(a0, .inr (6, [.ref t0, .ref s0, .int lw, .int v_2200, r_4])), (t0, .inr (8, [.ref t1, .int ln, .int v_2201, .int v_2202, .int v_2203, .int v_2204])), (t1, .inl (K 0, 400, .inl fb)), (s0, .inr (7, [.ref s1, .ref s2, s_2, .int v_2205])), (s2, .inl (K 0, 800, .inl f_2206))]) (hS : va_S A s.heap H locs) (ls : Array Slot) (hl : lv_has ls 4 []), W p l e ({ frames := f1 + f2 + 6, cells := 0, slots := 0, locals := l1 + l2 + 131 }) s m (([.ref a0, .int d] : List Value).toArray) below meth c H locs 0 0 Q (F0 m 131 ls []) := by
            clear hE hP hD hS hl
            intro v_2200 v_2201 v_2202 v_2203 v_2204 v_2205 f_2206 hv_2200 hv_2201 hv_2202 hv_2204 hv_2205 hf_2206_0 hE H locs hP hD hS ls hl
            replace hE := hE.trans (E_w_plain_j131.eq_def _ _ _ _ _ _ _)
            refine lv_iconst (v := 0) hx hb dX6_plain_131 (by decide +kernel) ?_
            rw [← hQ]
            have hP9 := hP.sub (ws' := [(a0, .inr (6, [.ref t0, .ref s0, .int lw, .int v_2200, r_4])), (t0, .inr (8, [.ref t1, .int ln, .int v_2201, .int v_2202, .int v_2203, .int v_2204])), (t1, .inl (K 0, 400, .inl fb)), (s0, .inr (7, [.ref s1, .ref s2, s_2, .int v_2205])), (s2, .inl (K 0, 800, .inl f_2206))]) [0, 1, 2, 3, 4] rfl
            have hD9 := hD.sub (ws' := [(a0, .inr (6, [.ref t0, .ref s0, .int lw, .int v_2200, r_4])), (t0, .inr (8, [.ref t1, .int ln, .int v_2201, .int v_2202, .int v_2203, .int v_2204])), (t1, .inl (K 0, 400, .inl fb)), (s0, .inr (7, [.ref s1, .ref s2, s_2, .int v_2205])), (s2, .inl (K 0, 800, .inl f_2206))]) [0, 1, 2, 3, 4] (by decide +kernel) rfl
            exact W.zret (v := 0) hx hb hr (by decide +kernel) (fun t ht hW => ⟨⟨0, ((fun _ => 0, fun i => match i with | _ => f_2206, fun _ => fun _ => 0, fun i => match i with | 0 => v_2200 | 1 => v_2201 | 2 => v_2202 | 3 => v_2203 | 4 => v_2204 | _ => v_2205, fun _ => 0, fun _ => fun _ => none) : Su), rfl, ⟨(show 0 ≤ (0 : Int32).toInt ∧ (0 : Int32).toInt ≤ 1 by decide), (show 0 ≤ (v_2200 : Int32).toInt ∧ (v_2200 : Int32).toInt ≤ 50 by omega), (show 0 ≤ (v_2201 : Int32).toInt ∧ (v_2201 : Int32).toInt ≤ 400 by omega), (show 0 ≤ (v_2202 : Int32).toInt ∧ (v_2202 : Int32).toInt ≤ 400 by omega), (show (-1) ≤ (v_2204 : Int32).toInt ∧ (v_2204 : Int32).toInt ≤ 1000000 by omega), (show 0 ≤ (v_2205 : Int32).toInt ∧ (v_2205 : Int32).toInt ≤ 800 by omega), hf_2206_0, hE.symm, trivial⟩, (⟨by rw [ht]; exact hP9, hD9⟩ : Wd D A _ t)⟩, hS.F ht⟩) hS.2.2 dX6_plain_132
          refine lv_if_eq (tgt := 116) hx hb dX6_plain_102 (by decide +kernel) (fun c_2208 => ?_) (fun c_2208 => ?_)
          · have c_2208i := i_eq (x := r_2163.toInt) (y := 0) rfl rfl c_2208
            replace hE := hE.trans (if_pos c_2208)
            refine lv_iconst (v := (-1)) hx hb dX6_plain_116 (by decide +kernel) ?_
            refine lv_istore_n (lv' := [(3, .int (-1)), (2, .int v_1664), (0, .ref a0), (1, .int d)]) hx hb dX6_plain_117 rfl hl (by decide +kernel) rfl (fun ls hl => ?_)
            refine lv_iload_n hx hb dX6_plain_118 rfl (lv_at hl 0 rfl) ?_
            refine lv_iconst (v := (-1)) hx hb dX6_plain_119 (by decide +kernel) ?_
            refine lv_icmp_eq (tgt := 131) hx hb dX6_plain_120 (by decide +kernel) (fun c_2209 => ?_) (fun c_2209 => absurd (by decide +kernel) c_2209)
            exact j_2207 (u_2164.2.2.2.1 0) (u_2164.2.2.2.1 1) (u_2164.2.2.2.1 2) (u_2164.2.2.2.1 3) (u_2164.2.2.2.1 4) (u_2164.2.2.2.1 5) (u_2164.2.1 0) (by omega) (by omega) (by omega) (by omega) (by omega) k_2170 hE _ _ hP hD hS ls (lv_sub hl [] rfl)
          · have c_2208i := i_ne (x := r_2163.toInt) (y := 0) rfl rfl c_2208
            replace hE := hE.trans (if_neg c_2208)
            refine lv_aload_n hx hb dX6_plain_105 rfl (lv_at hl 1 rfl) ?_
            refine va_ldcS hx hb hown (hG.str 8 (by decide +kernel)).1 dX6_plain_106 ?_
            refine W.eq (g2 := F0 m 108 ls [.ref (g 24), .ref a0]) rfl ?_
            refine lv_bipush (v := 8) hx hb dX6_plain_108 (by decide +kernel) ?_
            refine kci (S := Su) (wr := [(s0, .inr (7, [.ref s1, .ref s2, s_2, .int (u_2164.2.2.2.1 5)])), (s2, .inl (K 0, 800, .inl (u_2164.2.1 0)))]) (va_runV (As := [.ref (g 24), .int 8]) (rest := []) ⟨hx, hb, hml, hown, hts⟩ (w_operator l D K g L G 8 a0 8 t0 s0 lw (u_2164.2.2.2.1 0) r_4 t1 ln (u_2164.2.2.2.1 1) (u_2164.2.2.2.1 2) (u_2164.2.2.2.1 3) (u_2164.2.2.2.1 4) fb H.size (by decide +kernel) (by first | omega | decide) (by first | omega | decide) (by first | omega | decide) (by first | omega | decide) (by first | omega | decide) (by first | omega | decide) (by first | omega | decide)) (cwV 2 hts gX6_plain_X6_operator rfl rfl rfl (by decide +kernel) ⟨by show (4) + 1 ≤ f1 + f2 + 6; omega, by show 8 + (4 + 11) + (85) ≤ l1 + l2 + 131; omega⟩) (mkVY hK hN (hP.sub [0, 1, 2] rfl) (hD.sub [0, 1, 2] (by decide +kernel) rfl) (ci := 6) (q0 := 0) rfl rfl (fun U hU hW => ⟨Gl.at hG hS hW hU (fun q h => va_free hD hS hA [0, 1, 2] rfl q h), Pool.at hPl hS hU (fun q h => va_free hD hS hA [0, 1, 2] rfl q h), Ro.heap hU (Ro.nil)⟩)) rfl rfl hl.1 rfl (lv_room (Nat.le_of_ble_eq_true rfl)) dX6_plain_110 ⟨Nat.le_of_ble_eq_true rfl, Nat.le_of_ble_eq_true rfl⟩) hP hD hS hA [0, 1, 2] [3, 4] rfl rfl (by decide +kernel) (by decide +kernel) (fun r_2210 u_2211 H locs hw hP0 hD0 hS0 => ?_)
            clear hP hD hS
            have hP := hP0
            have hD := hD0
            have hS := hS0
            clear hP0 hD0 hS0
            replace hP : va_P D vwCl [(s0, .inr (7, [.ref s1, .ref s2, s_2, .int (u_2164.2.2.2.1 5)])), (s2, .inl (K 0, 800, .inl (u_2164.2.1 0))), (a0, .inr (6, [.ref t0, .ref s0, .int lw, .int (u_2164.2.2.2.1 0), r_4])), (t0, .inr (8, [.ref t1, .int ln, .int (u_2211.2.2.2.1 0), .int (u_2211.2.2.2.1 1), .int (u_2211.2.2.2.1 2), .int (u_2211.2.2.2.1 3)])), (t1, .inl (K 0, 400, .inl fb))] H := hP
            replace hD : va_D A [(s0, .inr (7, [.ref s1, .ref s2, s_2, .int (u_2164.2.2.2.1 5)])), (s2, .inl (K 0, 800, .inl (u_2164.2.1 0))), (a0, .inr (6, [.ref t0, .ref s0, .int lw, .int (u_2164.2.2.2.1 0), r_4])), (t0, .inr (8, [.ref t1, .int ln, .int (u_2211.2.2.2.1 0), .int (u_2211.2.2.2.1 1), .int (u_2211.2.2.2.1 2), .int (u_2211.2.2.2.1 3)])), (t1, .inl (K 0, 400, .inl fb))] := hD
            obtain ⟨h_2216, k_2212, k_2213, k_2214, k_2215, -⟩ := hw
            replace hE := (((hE.trans (Lt2_in k_2215)).trans (Lt2_in rfl)).trans (Lt2_in rfl)).trans (Lt2_in rfl)
            refine lv_goto (tgt := 117) hx hb dX6_plain_113 (by decide +kernel) ?_
            refine lv_istore_n (lv' := [(3, .int r_2210), (2, .int v_1664), (0, .ref a0), (1, .int d)]) hx hb dX6_plain_117 rfl hl (by decide +kernel) rfl (fun ls hl => ?_)
            refine lv_iload_n hx hb dX6_plain_118 rfl (lv_at hl 0 rfl) ?_
            refine lv_iconst (v := (-1)) hx hb dX6_plain_119 (by decide +kernel) ?_
            refine lv_icmp_eq (tgt := 131) hx hb dX6_plain_120 (by decide +kernel) (fun c_2217 => ?_) (fun c_2217 => ?_)
            · have c_2217i := i_eq (x := r_2210.toInt) (y := (-1)) rfl rfl c_2217
              replace hE := hE.trans (if_pos c_2217)
              exact j_2207 (u_2164.2.2.2.1 0) (u_2211.2.2.2.1 0) (u_2211.2.2.2.1 1) (u_2211.2.2.2.1 2) (u_2211.2.2.2.1 3) (u_2164.2.2.2.1 5) (u_2164.2.1 0) (by omega) (by omega) (by omega) (by omega) (by omega) k_2170 hE _ _ (hP.sub [2, 3, 4, 0, 1] rfl) (hD.sub [2, 3, 4, 0, 1] (by decide +kernel) rfl) hS ls (lv_sub hl [] rfl)
            · have c_2217i := i_ne (x := r_2210.toInt) (y := (-1)) rfl rfl c_2217
              replace hE := hE.trans (if_neg c_2217)
              refine lv_aload_n hx hb dX6_plain_123 rfl (lv_at hl 2 rfl) ?_
              refine lv_iload_n hx hb dX6_plain_124 rfl (lv_at hl 3 rfl) ?_
              refine kci (S := Su) (wr := []) (va_runV (As := [.int d]) (rest := []) ⟨hx, hb, hml, hown, hts⟩ (hsum l D K g L G a0 d t0 s0 lw (u_2164.2.2.2.1 0) r_4 t1 ln (u_2211.2.2.2.1 0) (u_2211.2.2.2.1 1) (u_2211.2.2.2.1 2) (u_2211.2.2.2.1 3) fb s1 s2 s_2 (u_2164.2.2.2.1 5) (u_2164.2.1 0) H.size (by first | omega | decide) (by first | omega | decide) (by first | omega | decide) (by first | omega | decide) (by first | omega | decide) (by first | omega | decide) (by first | omega | decide) (by first | omega | decide) k_2170) (cwV 1 hts gX6_plain_X6_sum rfl rfl rfl (by decide +kernel) ⟨by show (f1) + 1 ≤ f1 + f2 + 6; omega, by show 8 + (5 + 11) + (l1) ≤ l1 + l2 + 131; omega⟩) (mkVY hK hN (hP.sub [2, 3, 4, 0, 1] rfl) (hD.sub [2, 3, 4, 0, 1] (by decide +kernel) rfl) (ci := 6) (q0 := 0) rfl rfl (fun U hU hW => ⟨Gl.at hG hS hW hU (fun q h => va_free hD hS hA [2, 3, 4, 0, 1] rfl q h), Pool.at hPl hS hU (fun q h => va_free hD hS hA [2, 3, 4, 0, 1] rfl q h), Ro.heap hU (Ro.nil)⟩)) rfl rfl hl.1 rfl (lv_room (Nat.le_of_ble_eq_true rfl)) dX6_plain_125 ⟨Nat.le_of_ble_eq_true rfl, Nat.le_of_ble_eq_true rfl⟩) hP hD hS hA [2, 3, 4, 0, 1] [] rfl rfl (by decide +kernel) (by decide +kernel) (fun r_2218 u_2219 H locs hw hP0 hD0 hS0 => ?_)
              clear hP hD hS
              have hP := hP0
              have hD := hD0
              have hS := hS0
              clear hP0 hD0 hS0
              replace hP : va_P D vwCl [(a0, .inr (6, [.ref t0, .ref s0, .int lw, .int (u_2219.2.2.2.1 0), r_4])), (t0, .inr (8, [.ref t1, .int ln, .int (u_2219.2.2.2.1 1), .int (u_2219.2.2.2.1 2), .int (u_2219.2.2.2.1 3), .int (u_2219.2.2.2.1 4)])), (t1, .inl (K 0, 400, .inl fb)), (s0, .inr (7, [.ref s1, .ref s2, s_2, .int (u_2219.2.2.2.1 5)])), (s2, .inl (K 0, 800, .inl (u_2219.2.1 0)))] H := hP
              replace hD : va_D A [(a0, .inr (6, [.ref t0, .ref s0, .int lw, .int (u_2219.2.2.2.1 0), r_4])), (t0, .inr (8, [.ref t1, .int ln, .int (u_2219.2.2.2.1 1), .int (u_2219.2.2.2.1 2), .int (u_2219.2.2.2.1 3), .int (u_2219.2.2.2.1 4)])), (t1, .inl (K 0, 400, .inl fb)), (s0, .inr (7, [.ref s1, .ref s2, s_2, .int (u_2219.2.2.2.1 5)])), (s2, .inl (K 0, 800, .inl (u_2219.2.1 0)))] := hD
              obtain ⟨h_2227, k_2220, k_2221, k_2222, k_2223, k_2224, k_2225, k_2226, -⟩ := hw
              replace hE := ((((((hE.trans (Lt2_in k_2226)).trans (Lt2_in rfl)).trans (Lt2_in rfl)).trans (Lt2_in rfl)).trans (Lt2_in rfl)).trans (Lt2_in rfl)).trans (Lt2_in rfl)
              refine lv_if_ne (tgt := 133) hx hb dX6_plain_128 (by decide +kernel) (fun c_2228 => ?_) (fun c_2228 => ?_)
              · have c_2228i := i_ne (x := r_2218.toInt) (y := 0) rfl rfl c_2228
                replace hE := hE.trans (if_neg c_2228)
                refine lv_aload_n hx hb dX6_plain_133 rfl (lv_at hl 2 rfl) ?_
                refine va_get (ci := 6) (v := .ref s0) (C := RX6) (T := TX6) (N := 5) hx hb hts hw6 hown hK hP 0 rfl rfl 1 (by decide +kernel) (hts _ mm_X6_plain_232) (fun _ h9 => h9) rfl dX6_plain_134 ?_
                refine lv_iload_n hx hb dX6_plain_137 rfl (lv_at hl 0 rfl) ?_
                refine lv_iconst (v := 0) hx hb dX6_plain_138 (by decide +kernel) ?_
                refine kci (S := Su) (wr := [(a0, .inr (6, [.ref t0, .ref s0, .int lw, .int (u_2219.2.2.2.1 0), r_4])), (t0, .inr (8, [.ref t1, .int ln, .int (u_2219.2.2.2.1 1), .int (u_2219.2.2.2.1 2), .int (u_2219.2.2.2.1 3), .int (u_2219.2.2.2.1 4)])), (t1, .inl (K 0, 400, .inl fb))]) (va_runVN (As := [.int r_2210, .int 0]) (rest := []) ⟨hx, hb, hml, hown, hts⟩ (w_emit l D K s0 r_2210 0 s1 s2 s_2 (u_2219.2.2.2.1 5) (u_2219.2.1 0) H.size (by first | omega | decide) (by first | omega | decide) (by first | omega | decide) k_2225) ⟨va_cnB 2 hts gX6_plain_X7_emit_n95 rfl rfl rfl (nst_at hN 36 rfl) (hts _ mm_X6_plain_148) (by decide +kernel) ⟨by show (0) + 1 ≤ f1 + f2 + 6; omega, by show 8 + (3 + 11) + (0) ≤ l1 + l2 + 131; omega⟩, (hts _ mm_X6_plain_539), (hts _ mm_X6_plain_29)⟩ (mkV hK hN (hP.sub [3, 4] rfl) (hD.sub [3, 4] (by decide +kernel) rfl) (ci := 7) (q0 := 0) rfl rfl) rfl rfl hl.1 rfl (lv_room (Nat.le_of_ble_eq_true rfl)) dX6_plain_139 ⟨Nat.le_of_ble_eq_true rfl, Nat.le_of_ble_eq_true rfl⟩) hP hD hS hA [3, 4] [0, 1, 2] rfl rfl (by decide +kernel) (by decide +kernel) (fun r_2229 u_2230 H locs hw hP0 hD0 hS0 => ?_)
                clear hP hD hS
                have hP := hP0
                have hD := hD0
                have hS := hS0
                clear hP0 hD0 hS0
                replace hP : va_P D vwCl [(a0, .inr (6, [.ref t0, .ref s0, .int lw, .int (u_2219.2.2.2.1 0), r_4])), (t0, .inr (8, [.ref t1, .int ln, .int (u_2219.2.2.2.1 1), .int (u_2219.2.2.2.1 2), .int (u_2219.2.2.2.1 3), .int (u_2219.2.2.2.1 4)])), (t1, .inl (K 0, 400, .inl fb)), (s0, .inr (7, [.ref s1, .ref s2, s_2, .int (u_2230.2.2.2.1 0)])), (s2, .inl (K 0, 800, .inl (u_2230.2.1 0)))] H := hP
                replace hD : va_D A [(a0, .inr (6, [.ref t0, .ref s0, .int lw, .int (u_2219.2.2.2.1 0), r_4])), (t0, .inr (8, [.ref t1, .int ln, .int (u_2219.2.2.2.1 1), .int (u_2219.2.2.2.1 2), .int (u_2219.2.2.2.1 3), .int (u_2219.2.2.2.1 4)])), (t1, .inl (K 0, 400, .inl fb)), (s0, .inr (7, [.ref s1, .ref s2, s_2, .int (u_2230.2.2.2.1 0)])), (s2, .inl (K 0, 800, .inl (u_2230.2.1 0)))] := hD
                obtain ⟨h_2234, k_2231, k_2232, k_2233, -⟩ := hw
                replace hE := (hE.trans (Lt2_in k_2233)).trans (Lt2_in rfl)
                refine lv_pop hx hb dX6_plain_142 rfl ?_
                exact j_2144 (u_2219.2.2.2.1 0) (u_2219.2.2.2.1 1) (u_2219.2.2.2.1 2) (u_2219.2.2.2.1 3) (u_2219.2.2.2.1 4) (u_2230.2.2.2.1 0) (u_2230.2.1 0) (by omega) (by omega) (by omega) (by omega) (by omega) k_2232 hE _ _ hP hD hS ls (lv_sub hl [1, 2] rfl)
              · have c_2228i := i_eq (x := r_2218.toInt) (y := 0) rfl rfl c_2228
                replace hE := hE.trans (if_pos c_2228)
                exact j_2207 (u_2219.2.2.2.1 0) (u_2219.2.2.2.1 1) (u_2219.2.2.2.1 2) (u_2219.2.2.2.1 3) (u_2219.2.2.2.1 4) (u_2219.2.2.2.1 5) (u_2219.2.1 0) (by omega) (by omega) (by omega) (by omega) (by omega) k_2225 hE _ _ hP hD hS ls (lv_sub hl [] rfl)
        · have c_2162i := i_eq (x := v_1751.toInt) (y := 40) rfl rfl c_2162
          replace hE := hE.trans (if_pos c_2162)
          refine lv_iload_n hx hb dX6_plain_48 rfl (lv_at hl 2 rfl) ?_
          refine lv_bipush (v := 8) hx hb dX6_plain_49 (by decide +kernel) ?_
          refine lv_icmp_lt (tgt := 56) hx hb dX6_plain_51 (by decide +kernel) (fun c_2235 => ?_) (fun c_2235 => ?_)
          · have c_2235i := i_lt (x := d.toInt) (y := 8) rfl rfl c_2235
            replace hE := hE.trans (if_pos c_2235)
            refine lv_aload_n hx hb dX6_plain_56 rfl (lv_at hl 1 rfl) ?_
            refine va_get (ci := 6) (v := .ref t0) (C := RX6) (T := TX6) (N := 5) hx hb hts hw6 hown hK hP 0 rfl rfl 0 (by decide +kernel) (hts _ mm_X6_plain_231) (fun _ h9 => h9) rfl dX6_plain_57 ?_
            refine kcv (S := Su) (wr := [(a0, .inr (6, [.ref t0, .ref s0, .int lw, .int pa, r_4])), (s0, .inr (7, [.ref s1, .ref s2, s_2, .int us])), (s2, .inl (K 0, 800, .inl fc))]) (va_runVN (As := []) (rest := []) ⟨hx, hb, hml, hown, hts⟩ (w_step l D K t0 t1 ln v_1749 v_1750 v_1751 v_1752 fb H.size (by first | omega | decide) (by first | omega | decide)) ⟨va_cnB 0 hts gX6_plain_X8_step_n47 rfl rfl rfl (nst_at hN 32 rfl) (hts _ mm_X6_plain_147) (by decide +kernel) ⟨by show (1) + 1 ≤ f1 + f2 + 6; omega, by show 8 + (5 + 11) + (14) ≤ l1 + l2 + 131; omega⟩, (hts _ mm_X6_plain_471), (hts _ mm_X6_plain_21)⟩ (mkV hK hN (hP.sub [1, 2] rfl) (hD.sub [1, 2] (by decide +kernel) rfl) (ci := 8) (q0 := 0) rfl rfl) rfl rfl hl.1 rfl (lv_room (Nat.le_of_ble_eq_true rfl)) dX6_plain_60 ⟨Nat.le_of_ble_eq_true rfl, Nat.le_of_ble_eq_true rfl⟩) hP hD hS hA [1, 2] [0, 3, 4] rfl rfl (by decide +kernel) (by decide +kernel) (fun u_2237 H locs hw hP0 hD0 hS0 => ?_)
            clear hP hD hS
            have hP := hP0
            have hD := hD0
            have hS := hS0
            clear hP0 hD0 hS0
            replace hP : va_P D vwCl [(a0, .inr (6, [.ref t0, .ref s0, .int lw, .int pa, r_4])), (s0, .inr (7, [.ref s1, .ref s2, s_2, .int us])), (s2, .inl (K 0, 800, .inl fc)), (t0, .inr (8, [.ref t1, .int ln, .int (u_2237.2.2.2.1 0), .int (u_2237.2.2.2.1 1), .int (u_2237.2.2.2.1 2), .int (u_2237.2.2.2.1 3)])), (t1, .inl (K 0, 400, .inl fb))] H := hP
            replace hD : va_D A [(a0, .inr (6, [.ref t0, .ref s0, .int lw, .int pa, r_4])), (s0, .inr (7, [.ref s1, .ref s2, s_2, .int us])), (s2, .inl (K 0, 800, .inl fc)), (t0, .inr (8, [.ref t1, .int ln, .int (u_2237.2.2.2.1 0), .int (u_2237.2.2.2.1 1), .int (u_2237.2.2.2.1 2), .int (u_2237.2.2.2.1 3)])), (t1, .inl (K 0, 400, .inl fb))] := hD
            obtain ⟨k_2238, k_2239, k_2240, k_2241, -⟩ := hw
            replace hE := ((hE.trans (Lt2_in k_2241)).trans (Lt2_in rfl)).trans (Lt2_in rfl)
            refine lv_aload_n hx hb dX6_plain_63 rfl (lv_at hl 1 rfl) ?_
            refine lv_iload_n hx hb dX6_plain_64 rfl (lv_at hl 2 rfl) ?_
            refine lv_iconst (v := 1) hx hb dX6_plain_65 (by decide +kernel) ?_
            refine lv_iadd hx hb dX6_plain_66 ?_
            refine lv_topi (fun x_2242 ex_2242 => ?_)
            replace hE := hE.trans (Lt_in ex_2242)
            have hx_2242 : x_2242.toInt = (d.toInt + 1) := by rw [ex_2242]; exact i_add rfl (show (1 : Int32).toInt = 1 from rfl) (by omega)
            refine kci (S := Su) (wr := []) (va_runV (As := [.int x_2242]) (rest := []) ⟨hx, hb, hml, hown, hts⟩ (htest (by omega) l D K g L G a0 x_2242 t0 s0 lw pa r_4 t1 ln (u_2237.2.2.2.1 0) (u_2237.2.2.2.1 1) (u_2237.2.2.2.1 2) (u_2237.2.2.2.1 3) fb s1 s2 s_2 us fc H.size (by first | omega | decide) (by first | omega | decide) (by first | omega | decide) (by first | omega | decide) (by first | omega | decide) (by first | omega | decide) (by first | omega | decide) (by first | omega | decide) zfc) (cwV 1 hts gX6_plain_X6_test rfl rfl rfl (by decide +kernel) ⟨by show (f2) + 1 ≤ f1 + f2 + 6; omega, by show 8 + (5 + 11) + (l2) ≤ l1 + l2 + 131; omega⟩) (mkVY hK hN (hP.sub [0, 3, 4, 1, 2] rfl) (hD.sub [0, 3, 4, 1, 2] (by decide +kernel) rfl) (ci := 6) (q0 := 0) rfl rfl (fun U hU hW => ⟨Gl.at hG hS hW hU (fun q h => va_free hD hS hA [0, 3, 4, 1, 2] rfl q h), Pool.at hPl hS hU (fun q h => va_free hD hS hA [0, 3, 4, 1, 2] rfl q h), Ro.heap hU (Ro.nil)⟩)) rfl rfl hl.1 rfl (lv_room (Nat.le_of_ble_eq_true rfl)) dX6_plain_67 ⟨Nat.le_of_ble_eq_true rfl, Nat.le_of_ble_eq_true rfl⟩) hP hD hS hA [0, 3, 4, 1, 2] [] rfl rfl (by decide +kernel) (by decide +kernel) (fun r_2243 u_2244 H locs hw hP0 hD0 hS0 => ?_)
            clear hP hD hS
            have hP := hP0
            have hD := hD0
            have hS := hS0
            clear hP0 hD0 hS0
            replace hP : va_P D vwCl [(a0, .inr (6, [.ref t0, .ref s0, .int lw, .int (u_2244.2.2.2.1 0), r_4])), (t0, .inr (8, [.ref t1, .int ln, .int (u_2244.2.2.2.1 1), .int (u_2244.2.2.2.1 2), .int (u_2244.2.2.2.1 3), .int (u_2244.2.2.2.1 4)])), (t1, .inl (K 0, 400, .inl fb)), (s0, .inr (7, [.ref s1, .ref s2, s_2, .int (u_2244.2.2.2.1 5)])), (s2, .inl (K 0, 800, .inl (u_2244.2.1 0)))] H := hP
            replace hD : va_D A [(a0, .inr (6, [.ref t0, .ref s0, .int lw, .int (u_2244.2.2.2.1 0), r_4])), (t0, .inr (8, [.ref t1, .int ln, .int (u_2244.2.2.2.1 1), .int (u_2244.2.2.2.1 2), .int (u_2244.2.2.2.1 3), .int (u_2244.2.2.2.1 4)])), (t1, .inl (K 0, 400, .inl fb)), (s0, .inr (7, [.ref s1, .ref s2, s_2, .int (u_2244.2.2.2.1 5)])), (s2, .inl (K 0, 800, .inl (u_2244.2.1 0)))] := hD
            obtain ⟨h_2252, k_2245, k_2246, k_2247, k_2248, k_2249, k_2250, k_2251, -⟩ := hw
            replace hE := ((((((hE.trans (Lt2_in k_2251)).trans (Lt2_in rfl)).trans (Lt2_in rfl)).trans (Lt2_in rfl)).trans (Lt2_in rfl)).trans (Lt2_in rfl)).trans (Lt2_in rfl)
            have j_2261 : ∀ (hE : E_w_plain Es Et d lw pa ln tf tt ti tu fb us fc = E_w_plain_j85 (u_2244.2.2.2.1 0) (u_2244.2.2.2.1 1) (u_2244.2.2.2.1 2) (u_2244.2.2.2.1 3) (u_2244.2.2.2.1 4) (u_2244.2.2.2.1 5) (u_2244.2.1 0)) (H : Heap) (locs : List Loc) (hP : va_P D vwCl [(a0, .inr (6, [.ref t0, .ref s0, .int lw, .int (u_2244.2.2.2.1 0), r_4])), (t0, .inr (8, [.ref t1, .int ln, .int (u_2244.2.2.2.1 1), .int (u_2244.2.2.2.1 2), .int (u_2244.2.2.2.1 3), .int (u_2244.2.2.2.1 4)])), (t1, .inl (K 0, 400, .inl fb)), (s0, .inr (7, [.ref s1, .ref s2, s_2, .int (u_2244.2.2.2.1 5)])), (s2, .inl (K 0, 800, .inl (u_2244.2.1 0)))] H) (hD : va_D A [(a0, .inr (6, [.ref t0, .ref s0, .int lw, .int (u_2244.2.2.2.1 0), r_4])), (t0, .inr (8, [.ref t1, .int ln, .int (u_2244.2.2.2.1 1), .int (u_2244.2.2.2.1 2), .int (u_2244.2.2.2.1 3), .int (u_2244.2.2.2.1 4)])), (t1, .inl (K 0, 400, .inl fb)), (s0, .inr (7, [.ref s1, .ref s2, s_2, .int (u_2244.2.2.2.1 5)])), (s2, .inl (K 0, 800, .inl (u_2244.2.1 0)))]) (hS : va_S A s.heap H locs) (ls : Array Slot) (hl : lv_has ls 4 []), W p l e ({ frames := f1 + f2 + 6, cells := 0, slots := 0, locals := l1 + l2 + 131 }) s m (([.ref a0, .int d] : List Value).toArray) below meth c H locs 0 0 Q (F0 m 85 ls []) := by
              clear hE hP hD hS hl
              intro hE H locs hP hD hS ls hl
              replace hE := hE.trans (E_w_plain_j85.eq_def _ _ _ _ _ _ _)
              refine lv_iconst (v := 0) hx hb dX6_plain_85 (by decide +kernel) ?_
              rw [← hQ]
              have hP9 := hP.sub (ws' := [(a0, .inr (6, [.ref t0, .ref s0, .int lw, .int (u_2244.2.2.2.1 0), r_4])), (t0, .inr (8, [.ref t1, .int ln, .int (u_2244.2.2.2.1 1), .int (u_2244.2.2.2.1 2), .int (u_2244.2.2.2.1 3), .int (u_2244.2.2.2.1 4)])), (t1, .inl (K 0, 400, .inl fb)), (s0, .inr (7, [.ref s1, .ref s2, s_2, .int (u_2244.2.2.2.1 5)])), (s2, .inl (K 0, 800, .inl (u_2244.2.1 0)))]) [0, 1, 2, 3, 4] rfl
              have hD9 := hD.sub (ws' := [(a0, .inr (6, [.ref t0, .ref s0, .int lw, .int (u_2244.2.2.2.1 0), r_4])), (t0, .inr (8, [.ref t1, .int ln, .int (u_2244.2.2.2.1 1), .int (u_2244.2.2.2.1 2), .int (u_2244.2.2.2.1 3), .int (u_2244.2.2.2.1 4)])), (t1, .inl (K 0, 400, .inl fb)), (s0, .inr (7, [.ref s1, .ref s2, s_2, .int (u_2244.2.2.2.1 5)])), (s2, .inl (K 0, 800, .inl (u_2244.2.1 0)))]) [0, 1, 2, 3, 4] (by decide +kernel) rfl
              exact W.zret (v := 0) hx hb hr (by decide +kernel) (fun t ht hW => ⟨⟨0, ((fun _ => 0, fun i => match i with | _ => (u_2244.2.1 0), fun _ => fun _ => 0, fun i => match i with | 0 => (u_2244.2.2.2.1 0) | 1 => (u_2244.2.2.2.1 1) | 2 => (u_2244.2.2.2.1 2) | 3 => (u_2244.2.2.2.1 3) | 4 => (u_2244.2.2.2.1 4) | _ => (u_2244.2.2.2.1 5), fun _ => 0, fun _ => fun _ => none) : Su), rfl, ⟨(show 0 ≤ (0 : Int32).toInt ∧ (0 : Int32).toInt ≤ 1 by decide), (show 0 ≤ ((u_2244.2.2.2.1 0) : Int32).toInt ∧ ((u_2244.2.2.2.1 0) : Int32).toInt ≤ 50 by omega), (show 0 ≤ ((u_2244.2.2.2.1 1) : Int32).toInt ∧ ((u_2244.2.2.2.1 1) : Int32).toInt ≤ 400 by omega), (show 0 ≤ ((u_2244.2.2.2.1 2) : Int32).toInt ∧ ((u_2244.2.2.2.1 2) : Int32).toInt ≤ 400 by omega), (show (-1) ≤ ((u_2244.2.2.2.1 4) : Int32).toInt ∧ ((u_2244.2.2.2.1 4) : Int32).toInt ≤ 1000000 by omega), (show 0 ≤ ((u_2244.2.2.2.1 5) : Int32).toInt ∧ ((u_2244.2.2.2.1 5) : Int32).toInt ≤ 800 by omega), k_2250, hE.symm, trivial⟩, (⟨by rw [ht]; exact hP9, hD9⟩ : Wd D A _ t)⟩, hS.F ht⟩) hS.2.2 dX6_plain_86
            refine lv_if_eq (tgt := 85) hx hb dX6_plain_70 (by decide +kernel) (fun c_2262 => ?_) (fun c_2262 => ?_)
            · have c_2262i := i_eq (x := r_2243.toInt) (y := 0) rfl rfl c_2262
              replace hE := hE.trans (if_pos c_2262)
              exact j_2261   hE _ _ hP hD hS ls (lv_sub hl [] rfl)
            · have c_2262i := i_ne (x := r_2243.toInt) (y := 0) rfl rfl c_2262
              replace hE := hE.trans (if_neg c_2262)
              refine lv_aload_n hx hb dX6_plain_73 rfl (lv_at hl 1 rfl) ?_
              refine va_get (ci := 6) (v := .ref t0) (C := RX6) (T := TX6) (N := 5) hx hb hts hw6 hown hK hP 0 rfl rfl 0 (by decide +kernel) (hts _ mm_X6_plain_231) (fun _ h9 => h9) rfl dX6_plain_74 ?_
              refine va_getN (ci := 8) (v := .int (u_2244.2.2.2.1 3)) (C := RX8) (T := TX8) (N := 6) hx hb hts hw8 hown hK hP 1 rfl rfl 4 (by decide +kernel) (nst_use hN 123 rfl) (fun _ h9 => h9) rfl dX6_plain_77 ?_
              refine lv_bipush (v := 41) hx hb dX6_plain_80 (by decide +kernel) ?_
              refine lv_icmp_eq (tgt := 87) hx hb dX6_plain_82 (by decide +kernel) (fun c_2263 => ?_) (fun c_2263 => ?_)
              · have c_2263i := i_eq (x := (u_2244.2.2.2.1 3).toInt) (y := 41) rfl rfl c_2263
                replace hE := hE.trans (if_pos c_2263)
                refine lv_aload_n hx hb dX6_plain_87 rfl (lv_at hl 1 rfl) ?_
                refine va_get (ci := 6) (v := .ref t0) (C := RX6) (T := TX6) (N := 5) hx hb hts hw6 hown hK hP 0 rfl rfl 0 (by decide +kernel) (hts _ mm_X6_plain_231) (fun _ h9 => h9) rfl dX6_plain_88 ?_
                refine kcv (S := Su) (wr := [(a0, .inr (6, [.ref t0, .ref s0, .int lw, .int (u_2244.2.2.2.1 0), r_4])), (s0, .inr (7, [.ref s1, .ref s2, s_2, .int (u_2244.2.2.2.1 5)])), (s2, .inl (K 0, 800, .inl (u_2244.2.1 0)))]) (va_runVN (As := []) (rest := []) ⟨hx, hb, hml, hown, hts⟩ (w_step l D K t0 t1 ln (u_2244.2.2.2.1 1) (u_2244.2.2.2.1 2) (u_2244.2.2.2.1 3) (u_2244.2.2.2.1 4) fb H.size (by first | omega | decide) (by first | omega | decide)) ⟨va_cnB 0 hts gX6_plain_X8_step_n47 rfl rfl rfl (nst_at hN 32 rfl) (hts _ mm_X6_plain_147) (by decide +kernel) ⟨by show (1) + 1 ≤ f1 + f2 + 6; omega, by show 8 + (5 + 11) + (14) ≤ l1 + l2 + 131; omega⟩, (hts _ mm_X6_plain_471), (hts _ mm_X6_plain_21)⟩ (mkV hK hN (hP.sub [1, 2] rfl) (hD.sub [1, 2] (by decide +kernel) rfl) (ci := 8) (q0 := 0) rfl rfl) rfl rfl hl.1 rfl (lv_room (Nat.le_of_ble_eq_true rfl)) dX6_plain_91 ⟨Nat.le_of_ble_eq_true rfl, Nat.le_of_ble_eq_true rfl⟩) hP hD hS hA [1, 2] [0, 3, 4] rfl rfl (by decide +kernel) (by decide +kernel) (fun u_2265 H locs hw hP0 hD0 hS0 => ?_)
                clear hP hD hS
                have hP := hP0
                have hD := hD0
                have hS := hS0
                clear hP0 hD0 hS0
                replace hP : va_P D vwCl [(a0, .inr (6, [.ref t0, .ref s0, .int lw, .int (u_2244.2.2.2.1 0), r_4])), (s0, .inr (7, [.ref s1, .ref s2, s_2, .int (u_2244.2.2.2.1 5)])), (s2, .inl (K 0, 800, .inl (u_2244.2.1 0))), (t0, .inr (8, [.ref t1, .int ln, .int (u_2265.2.2.2.1 0), .int (u_2265.2.2.2.1 1), .int (u_2265.2.2.2.1 2), .int (u_2265.2.2.2.1 3)])), (t1, .inl (K 0, 400, .inl fb))] H := hP
                replace hD : va_D A [(a0, .inr (6, [.ref t0, .ref s0, .int lw, .int (u_2244.2.2.2.1 0), r_4])), (s0, .inr (7, [.ref s1, .ref s2, s_2, .int (u_2244.2.2.2.1 5)])), (s2, .inl (K 0, 800, .inl (u_2244.2.1 0))), (t0, .inr (8, [.ref t1, .int ln, .int (u_2265.2.2.2.1 0), .int (u_2265.2.2.2.1 1), .int (u_2265.2.2.2.1 2), .int (u_2265.2.2.2.1 3)])), (t1, .inl (K 0, 400, .inl fb))] := hD
                obtain ⟨k_2266, k_2267, k_2268, k_2269, -⟩ := hw
                replace hE := ((hE.trans (Lt2_in k_2269)).trans (Lt2_in rfl)).trans (Lt2_in rfl)
                refine lv_goto (tgt := 143) hx hb dX6_plain_94 (by decide +kernel) ?_
                exact j_2144 (u_2244.2.2.2.1 0) (u_2265.2.2.2.1 0) (u_2265.2.2.2.1 1) (u_2265.2.2.2.1 2) (u_2265.2.2.2.1 3) (u_2244.2.2.2.1 5) (u_2244.2.1 0) (by omega) (by omega) (by omega) (by omega) (by omega) k_2250 hE _ _ (hP.sub [0, 3, 4, 1, 2] rfl) (hD.sub [0, 3, 4, 1, 2] (by decide +kernel) rfl) hS ls (lv_sub hl [0, 1] rfl)
              · have c_2263i := i_ne (x := (u_2244.2.2.2.1 3).toInt) (y := 41) rfl rfl c_2263
                replace hE := hE.trans (if_neg c_2263)
                exact j_2261   hE _ _ hP hD hS ls (lv_sub hl [] rfl)
          · have c_2235i := i_nlt (x := d.toInt) (y := 8) rfl rfl c_2235
            replace hE := hE.trans (if_neg c_2235)
            refine lv_iconst (v := 0) hx hb dX6_plain_54 (by decide +kernel) ?_
            rw [← hQ]
            have hP9 := hP.sub (ws' := [(a0, .inr (6, [.ref t0, .ref s0, .int lw, .int pa, r_4])), (t0, .inr (8, [.ref t1, .int ln, .int v_1749, .int v_1750, .int v_1751, .int v_1752])), (t1, .inl (K 0, 400, .inl fb)), (s0, .inr (7, [.ref s1, .ref s2, s_2, .int us])), (s2, .inl (K 0, 800, .inl fc))]) [0, 1, 2, 3, 4] rfl
            have hD9 := hD.sub (ws' := [(a0, .inr (6, [.ref t0, .ref s0, .int lw, .int pa, r_4])), (t0, .inr (8, [.ref t1, .int ln, .int v_1749, .int v_1750, .int v_1751, .int v_1752])), (t1, .inl (K 0, 400, .inl fb)), (s0, .inr (7, [.ref s1, .ref s2, s_2, .int us])), (s2, .inl (K 0, 800, .inl fc))]) [0, 1, 2, 3, 4] (by decide +kernel) rfl
            exact W.zret (v := 0) hx hb hr (by decide +kernel) (fun t ht hW => ⟨⟨0, ((fun _ => 0, fun i => match i with | _ => fc, fun _ => fun _ => 0, fun i => match i with | 0 => pa | 1 => v_1749 | 2 => v_1750 | 3 => v_1751 | 4 => v_1752 | _ => us, fun _ => 0, fun _ => fun _ => none) : Su), rfl, ⟨(show 0 ≤ (0 : Int32).toInt ∧ (0 : Int32).toInt ≤ 1 by decide), (show 0 ≤ (pa : Int32).toInt ∧ (pa : Int32).toInt ≤ 50 by omega), (show 0 ≤ (v_1749 : Int32).toInt ∧ (v_1749 : Int32).toInt ≤ 400 by omega), (show 0 ≤ (v_1750 : Int32).toInt ∧ (v_1750 : Int32).toInt ≤ 400 by omega), (show (-1) ≤ (v_1752 : Int32).toInt ∧ (v_1752 : Int32).toInt ≤ 1000000 by omega), (show 0 ≤ (us : Int32).toInt ∧ (us : Int32).toInt ≤ 800 by omega), zfc, hE.symm, trivial⟩, (⟨by rw [ht]; exact hP9, hD9⟩ : Wd D A _ t)⟩, hS.F ht⟩) hS.2.2 dX6_plain_55
      refine lv_icmp_gt (tgt := 36) hx hb dX6_plain_8 (by decide +kernel) (fun c_2270 => ?_) (fun c_2270 => ?_)
      · have c_2270i := i_lt (x := 400) (y := v_1663.toInt) rfl rfl c_2270
        replace hE := hE.trans (if_pos c_2270)
        exact j_2011 v_1665 v_1666 v_1667 v_1668 (by omega) (by omega) (by omega) hE _ _ hP hD hS ls (lv_sub hl [1, 2, 3] rfl)
      · have c_2270i := i_nlt (x := 400) (y := v_1663.toInt) rfl rfl c_2270
        replace hE := hE.trans (if_neg c_2270)
        refine lv_aload_n hx hb dX6_plain_11 rfl (lv_at hl 2 rfl) ?_
        refine va_ldcS hx hb hown (hG.str 7 (by decide +kernel)).1 dX6_plain_12 ?_
        refine W.eq (g2 := F0 m 14 ls [.ref (g 22), .ref a0]) rfl ?_
        refine kci (S := Su) (wr := [(s0, .inr (7, [.ref s1, .ref s2, s_2, .int us])), (s2, .inl (K 0, 800, .inl fc))]) (va_runV (As := [.ref (g 22)]) (rest := []) ⟨hx, hb, hml, hown, hts⟩ (w_passed l D K g L G 7 a0 t0 s0 lw pa r_4 t1 ln v_1665 v_1666 v_1667 v_1668 fb H.size (by decide +kernel) (by first | omega | decide) (by first | omega | decide) (by first | omega | decide) (by first | omega | decide) (by first | omega | decide) (by first | omega | decide)) (cwV 1 hts gX6_plain_X6_passed rfl rfl rfl (by decide +kernel) ⟨by show (5) + 1 ≤ f1 + f2 + 6; omega, by show 8 + (2 + 11) + (110) ≤ l1 + l2 + 131; omega⟩) (mkVY hK hN (hP.sub [0, 1, 2] rfl) (hD.sub [0, 1, 2] (by decide +kernel) rfl) (ci := 6) (q0 := 0) rfl rfl (fun U hU hW => ⟨Gl.at hG hS hW hU (fun q h => va_free hD hS hA [0, 1, 2] rfl q h), Pool.at hPl hS hU (fun q h => va_free hD hS hA [0, 1, 2] rfl q h), Ro.heap hU (Ro.nil)⟩)) rfl rfl hl.1 rfl (lv_room (Nat.le_of_ble_eq_true rfl)) dX6_plain_14 ⟨Nat.le_of_ble_eq_true rfl, Nat.le_of_ble_eq_true rfl⟩) hP hD hS hA [0, 1, 2] [3, 4] rfl rfl (by decide +kernel) (by decide +kernel) (fun r_2271 u_2272 H locs hw hP0 hD0 hS0 => ?_)
        clear hP hD hS
        have hP := hP0
        have hD := hD0
        have hS := hS0
        clear hP0 hD0 hS0
        replace hP : va_P D vwCl [(s0, .inr (7, [.ref s1, .ref s2, s_2, .int us])), (s2, .inl (K 0, 800, .inl fc)), (a0, .inr (6, [.ref t0, .ref s0, .int lw, .int pa, r_4])), (t0, .inr (8, [.ref t1, .int ln, .int (u_2272.2.2.2.1 0), .int (u_2272.2.2.2.1 1), .int (u_2272.2.2.2.1 2), .int (u_2272.2.2.2.1 3)])), (t1, .inl (K 0, 400, .inl fb))] H := hP
        replace hD : va_D A [(s0, .inr (7, [.ref s1, .ref s2, s_2, .int us])), (s2, .inl (K 0, 800, .inl fc)), (a0, .inr (6, [.ref t0, .ref s0, .int lw, .int pa, r_4])), (t0, .inr (8, [.ref t1, .int ln, .int (u_2272.2.2.2.1 0), .int (u_2272.2.2.2.1 1), .int (u_2272.2.2.2.1 2), .int (u_2272.2.2.2.1 3)])), (t1, .inl (K 0, 400, .inl fb))] := hD
        obtain ⟨h_2277, k_2273, k_2274, k_2275, k_2276, -⟩ := hw
        replace hE := (((hE.trans (Lt2_in k_2276)).trans (Lt2_in rfl)).trans (Lt2_in rfl)).trans (Lt2_in rfl)
        refine lv_if_eq (tgt := 36) hx hb dX6_plain_17 (by decide +kernel) (fun c_2278 => ?_) (fun c_2278 => ?_)
        · have c_2278i := i_eq (x := r_2271.toInt) (y := 0) rfl rfl c_2278
          replace hE := hE.trans (if_pos c_2278)
          exact j_2011 (u_2272.2.2.2.1 0) (u_2272.2.2.2.1 1) (u_2272.2.2.2.1 2) (u_2272.2.2.2.1 3) (by omega) (by omega) (by omega) hE _ _ (hP.sub [2, 3, 4, 0, 1] rfl) (hD.sub [2, 3, 4, 0, 1] (by decide +kernel) rfl) hS ls (lv_sub hl [1, 2, 3] rfl)
        · have c_2278i := i_ne (x := r_2271.toInt) (y := 0) rfl rfl c_2278
          replace hE := hE.trans (if_neg c_2278)
          refine lv_iload_n hx hb dX6_plain_20 rfl (lv_at hl 1 rfl) ?_
          refine lv_if_ne (tgt := 28) hx hb dX6_plain_21 (by decide +kernel) (fun c_2279 => ?_) (fun c_2279 => ?_)
          · have c_2279i := i_ne (x := v_1664.toInt) (y := 0) rfl rfl c_2279
            replace hE := hE.trans (if_neg c_2279)
            refine lv_iconst (v := 0) hx hb dX6_plain_28 (by decide +kernel) ?_
            refine lv_istore_n (lv' := [(2, .int 0), (3, .int v_1663), (0, .ref a0), (1, .int d)]) hx hb dX6_plain_29 rfl hl (by decide +kernel) rfl (fun ls hl => ?_)
            obtain ⟨x_2280, ex_2280⟩ : ∃ y : Int32, y = v_1663 + Int32.ofInt 1 := ⟨_, rfl⟩
            replace hE := hE.trans (Lt_in ex_2280)
            have hx_2280 : x_2280.toInt = (v_1663.toInt + 1) := by rw [ex_2280]; exact i_add rfl (show (Int32.ofInt 1).toInt = 1 from rfl) (by omega)
            refine lv_iinc (v := x_2280) (lv' := [(3, .int x_2280), (2, .int 0), (0, .ref a0), (1, .int d)]) hx hb dX6_plain_30 hl (k := 1) rfl (by rw [ex_2280]) (by decide +kernel) rfl (fun ls hl => ?_)
            refine lv_goto (tgt := 4) hx hb dX6_plain_33 (by decide +kernel) ?_
            have hz_2281 : (0 : Int32).toInt = 0 := rfl
            exact ih_1734 x_2280 0 (u_2272.2.2.2.1 0) (u_2272.2.2.2.1 1) (u_2272.2.2.2.1 2) (u_2272.2.2.2.1 3) (by rw [hx_2280]; omega) (by decide +kernel) (by omega) (by omega) (by omega) (by omega) (hE.trans (by rw [hrec_1733])) _ _ (hP.sub [2, 3, 4, 0, 1] rfl) (hD.sub [2, 3, 4, 0, 1] (by decide +kernel) rfl) hS ls (lv_sub hl [0, 1, 2, 3] rfl)
          · have c_2279i := i_eq (x := v_1664.toInt) (y := 0) rfl rfl c_2279
            replace hE := hE.trans (if_pos c_2279)
            refine lv_iconst (v := 1) hx hb dX6_plain_24 (by decide +kernel) ?_
            refine lv_goto (tgt := 29) hx hb dX6_plain_25 (by decide +kernel) ?_
            refine lv_istore_n (lv' := [(2, .int 1), (3, .int v_1663), (0, .ref a0), (1, .int d)]) hx hb dX6_plain_29 rfl hl (by decide +kernel) rfl (fun ls hl => ?_)
            obtain ⟨x_2282, ex_2282⟩ : ∃ y : Int32, y = v_1663 + Int32.ofInt 1 := ⟨_, rfl⟩
            replace hE := hE.trans (Lt_in ex_2282)
            have hx_2282 : x_2282.toInt = (v_1663.toInt + 1) := by rw [ex_2282]; exact i_add rfl (show (Int32.ofInt 1).toInt = 1 from rfl) (by omega)
            refine lv_iinc (v := x_2282) (lv' := [(3, .int x_2282), (2, .int 1), (0, .ref a0), (1, .int d)]) hx hb dX6_plain_30 hl (k := 1) rfl (by rw [ex_2282]) (by decide +kernel) rfl (fun ls hl => ?_)
            refine lv_goto (tgt := 4) hx hb dX6_plain_33 (by decide +kernel) ?_
            have hz_2283 : (1 : Int32).toInt = 1 := rfl
            exact ih_1734 x_2282 1 (u_2272.2.2.2.1 0) (u_2272.2.2.2.1 1) (u_2272.2.2.2.1 2) (u_2272.2.2.2.1 3) (by rw [hx_2282]; omega) (by decide +kernel) (by omega) (by omega) (by omega) (by omega) (hE.trans (by rw [hrec_1733])) _ _ (hP.sub [2, 3, 4, 0, 1] rfl) (hD.sub [2, 3, 4, 0, 1] (by decide +kernel) rfl) hS ls (lv_sub hl [0, 1, 2, 3] rfl)
  exact lp_1733 ((402 - (0 : Int32).toInt : Int).toNat + 1) 0 0 tf tt ti tu (by decide +kernel) (by decide +kernel) (by omega) (by omega) (by omega) (Nat.lt_succ_self _) hE _ _ hP hD hS ls (lv_sub hl [0, 1, 2, 3] rfl)
set_option maxRecDepth 100000 in
noncomputable def E_w_test_j88 (v_1701 : Int32) (rec_1889 : Int32 → Int32 → Int32 → Int32 → Int32 → Int32 → Int32 → Int32 → Int32 → (Nat → Int32) → (Int32 × Int32 × Int32 × Int32 × Int32 × Int32 × Int32 × (Nat → Int32))) (u_1893_2_2_2_1_0 : Int32) (v_1939 : Int32) (v_1940 : Int32) (v_1941 : Int32) (v_1942 : Int32) (v_1943 : Int32) (v_1944 : Int32) (v_1945 : Int32) (f_1946 : Nat → Int32) : Int32 × Int32 × Int32 × Int32 × Int32 × Int32 × Int32 × (Nat → Int32) :=
  Lt (v_1701 + Int32.ofInt 1 : Int32) (fun x_1949 => rec_1889 x_1949 v_1939 v_1940 u_1893_2_2_2_1_0 v_1941 v_1942 v_1943 v_1944 v_1945 f_1946)
set_option maxRecDepth 100000 in
noncomputable def E_w_test_l7 (Es : Int32 → Int32 → Int32 → Int32 → Int32 → Int32 → Int32 → Int32 → (Nat → Int32) → Int32 → (Nat → Int32) → (Int32 × Int32 × Int32 × Int32 × Int32 × Int32 × Int32 × (Nat → Int32))) (Et : Int32 → Int32 → Int32 → Int32 → Int32 → Int32 → Int32 → Int32 → (Nat → Int32) → Int32 → (Nat → Int32) → (Int32 × Int32 × Int32 × Int32 × Int32 × Int32 × Int32 × (Nat → Int32))) (d : Int32) (lw : Int32) (ln : Int32) (fb : Nat → Int32) (rec_1889 : Int32 → Int32 → Int32 → Int32 → Int32 → Int32 → Int32 → Int32 → Int32 → (Nat → Int32) → (Int32 × Int32 × Int32 × Int32 × Int32 × Int32 × Int32 × (Nat → Int32))) (v_1701 : Int32) (v_1702 : Int32) (v_1703 : Int32) (v_1704 : Int32) (v_1705 : Int32) (v_1706 : Int32) (v_1707 : Int32) (v_1708 : Int32) (v_1709 : Int32) (f_1710 : Nat → Int32) : Int32 × Int32 × Int32 × Int32 × Int32 × Int32 × Int32 × (Nat → Int32) :=
  if 400 < v_1701 then (((0, v_1704, v_1705, v_1706, v_1707, v_1708, v_1709, f_1710) : Int32 × Int32 × Int32 × Int32 × Int32 × Int32 × Int32 × (Nat → Int32))) else (Lt2 (E_w_plain Es Et d lw v_1704 ln v_1705 v_1706 v_1707 v_1708 fb v_1709 f_1710) (fun r_1892 q0_r_1892 => Lt2 q0_r_1892 (fun u_1893_2_2_2_1_0 q1_u_1893_2_2_2_1_0 => Lt2 q1_u_1893_2_2_2_1_0 (fun u_1893_2_2_2_1_1 q2_u_1893_2_2_2_1_1 => Lt2 q2_u_1893_2_2_2_1_1 (fun u_1893_2_2_2_1_2 q3_u_1893_2_2_2_1_2 => Lt2 q3_u_1893_2_2_2_1_2 (fun u_1893_2_2_2_1_3 q4_u_1893_2_2_2_1_3 => Lt2 q4_u_1893_2_2_2_1_3 (fun u_1893_2_2_2_1_4 q5_u_1893_2_2_2_1_4 => Lt2 q5_u_1893_2_2_2_1_4 (fun u_1893_2_2_2_1_5 u_1893_2_1_0 => if r_1892 = 0 then (((0, u_1893_2_2_2_1_0, u_1893_2_2_2_1_1, u_1893_2_2_2_1_2, u_1893_2_2_2_1_3, u_1893_2_2_2_1_4, u_1893_2_2_2_1_5, u_1893_2_1_0) : Int32 × Int32 × Int32 × Int32 × Int32 × Int32 × Int32 × (Nat → Int32))) else (Lt (E_w_land v_1703 u_1893_2_2_2_1_5 u_1893_2_1_0) (fun u_1904_2_1_0 => Lt2 (E_w_passed 5 lw u_1893_2_2_2_1_0 ln u_1893_2_2_2_1_1 u_1893_2_2_2_1_2 u_1893_2_2_2_1_3 u_1893_2_2_2_1_4 fb) (fun r_1907 q0_r_1907 => Lt2 q0_r_1907 (fun u_1908_2_2_2_1_0 q1_u_1908_2_2_2_1_0 => Lt2 q1_u_1908_2_2_2_1_0 (fun u_1908_2_2_2_1_1 q2_u_1908_2_2_2_1_1 => Lt2 q2_u_1908_2_2_2_1_1 (fun u_1908_2_2_2_1_2 u_1908_2_2_2_1_3 => if r_1907 = 0 then (Lt (E_w_land v_1702 u_1893_2_2_2_1_5 u_1904_2_1_0) (fun u_1952_2_1_0 => Lt2 (E_w_passed 6 lw u_1893_2_2_2_1_0 ln u_1908_2_2_2_1_0 u_1908_2_2_2_1_1 u_1908_2_2_2_1_2 u_1908_2_2_2_1_3 fb) (fun r_1955 q0_r_1955 => Lt2 q0_r_1955 (fun u_1956_2_2_2_1_0 q1_u_1956_2_2_2_1_0 => Lt2 q1_u_1956_2_2_2_1_0 (fun u_1956_2_2_2_1_1 q2_u_1956_2_2_2_1_1 => Lt2 q2_u_1956_2_2_2_1_1 (fun u_1956_2_2_2_1_2 u_1956_2_2_2_1_3 => if r_1955 = 0 then (((1, u_1893_2_2_2_1_0, u_1956_2_2_2_1_0, u_1956_2_2_2_1_1, u_1956_2_2_2_1_2, u_1956_2_2_2_1_3, u_1893_2_2_2_1_5, u_1952_2_1_0) : Int32 × Int32 × Int32 × Int32 × Int32 × Int32 × Int32 × (Nat → Int32))) else (Lt2 (E_w_emit 12 0 u_1893_2_2_2_1_5 u_1952_2_1_0) (fun r_1963 q0_r_1963 => Lt2 q0_r_1963 (fun u_1964_2_2_2_1_0 u_1964_2_1_0 => E_w_test_j88 v_1701 rec_1889 u_1893_2_2_2_1_0 r_1963 (-1) u_1956_2_2_2_1_0 u_1956_2_2_2_1_1 u_1956_2_2_2_1_2 u_1956_2_2_2_1_3 u_1964_2_2_2_1_0 u_1964_2_1_0))))))))) else (Lt2 (E_w_emit 13 0 u_1893_2_2_2_1_5 u_1904_2_1_0) (fun r_1969 q0_r_1969 => Lt2 q0_r_1969 (fun u_1970_2_2_2_1_0 u_1970_2_1_0 => E_w_test_j88 v_1701 rec_1889 u_1893_2_2_2_1_0 v_1702 r_1969 u_1908_2_2_2_1_0 u_1908_2_2_2_1_1 u_1908_2_2_2_1_2 u_1908_2_2_2_1_3 u_1970_2_2_2_1_0 u_1970_2_1_0)))))))))))))))))
set_option maxRecDepth 100000 in
noncomputable def E_w_test (Es : Int32 → Int32 → Int32 → Int32 → Int32 → Int32 → Int32 → Int32 → (Nat → Int32) → Int32 → (Nat → Int32) → (Int32 × Int32 × Int32 × Int32 × Int32 × Int32 × Int32 × (Nat → Int32))) (Et : Int32 → Int32 → Int32 → Int32 → Int32 → Int32 → Int32 → Int32 → (Nat → Int32) → Int32 → (Nat → Int32) → (Int32 × Int32 × Int32 × Int32 × Int32 × Int32 × Int32 × (Nat → Int32))) (d : Int32) (lw : Int32) (pa : Int32) (ln : Int32) (tf : Int32) (tt : Int32) (ti : Int32) (tu : Int32) (fb : Nat → Int32) (us : Int32) (fc : Nat → Int32) : Int32 × Int32 × Int32 × Int32 × Int32 × Int32 × Int32 × (Nat → Int32) :=
  Lp (α := Int32 → Int32 → Int32 → Int32 → Int32 → Int32 → Int32 → Int32 → Int32 → (Nat → Int32) → (Int32 × Int32 × Int32 × Int32 × Int32 × Int32 × Int32 × (Nat → Int32))) (E_w_test_l7 Es Et d lw ln fb) (fun _ _ _ _ _ _ _ _ _ _ => ((0, 0, 0, 0, 0, 0, 0, fun _ => 0) : Int32 × Int32 × Int32 × Int32 × Int32 × Int32 × Int32 × (Nat → Int32))) ((402 - (0 : Int32).toInt : Int).toNat + 1) 0 (-1) (-1) pa tf tt ti tu us fc
set_option maxHeartbeats 4000000 in
set_option maxRecDepth 100000 in
theorem w_test (f1 l1 f2 l2 : Nat) (DD : Int) (zDD : 0 ≤ DD ∧ DD ≤ 8) (Es Et : Int32 → Int32 → Int32 → Int32 → Int32 → Int32 → Int32 → Int32 → (Nat → Int32) → Int32 → (Nat → Int32) → (Int32 × Int32 × Int32 × Int32 × Int32 × Int32 × Int32 × (Nat → Int32))) (hsum : SumAt f1 l1 DD Es) (htest : DD < 8 → TestAt f2 l2 (DD + 1) Et) (l : Launch) (D : va_G) (K : Nat → ClassId) (g : Nat → Nat) (L : Nat → Prop) (G : Nat → LC) (a0 : Nat) (d : Int32) (t0 : Nat) (s0 : Nat) (lw : Int32) (pa : Int32) (r_4 : Value) (t1 : Nat) (ln : Int32) (tf : Int32) (tt : Int32) (ti : Int32) (tu : Int32) (fb : Nat → Int32) (s1 : Nat) (s2 : Nat) (s_2 : Value) (us : Int32) (fc : Nat → Int32) (sz : Nat) (zln : 0 ≤ ln.toInt ∧ ln.toInt ≤ 400) (ztf : 0 ≤ tf.toInt ∧ tf.toInt ≤ 400) (ztt : 0 ≤ tt.toInt ∧ tt.toInt ≤ 400) (ztu : (-1) ≤ tu.toInt ∧ tu.toInt ≤ 1000000) (zlw : 0 ≤ lw.toInt ∧ lw.toInt ≤ 1) (zpa : 0 ≤ pa.toInt ∧ pa.toInt ≤ 50) (zd : d.toInt = DD) (zus : 0 ≤ us.toInt ∧ us.toInt ≤ 800) (zfc : Rg 800 0 1000 fc) : Met l yX6_test wsX6_test ({ frames := f1 + f2 + 7, cells := 0, slots := 0, locals := l1 + l2 + 154 }) (va_Pc [.ref a0, .int d] (PreY D K [(a0, .inr (6, [.ref t0, .ref s0, .int lw, .int pa, r_4])), (t0, .inr (8, [.ref t1, .int ln, .int tf, .int tt, .int ti, .int tu])), (t1, .inl (K 0, 400, .inl fb)), (s0, .inr (7, [.ref s1, .ref s2, s_2, .int us])), (s2, .inl (K 0, 800, .inl fc))] [] sz g L G (va_A [(a0, .inr (6, [.ref t0, .ref s0, .int lw, .int pa, r_4])), (t0, .inr (8, [.ref t1, .int ln, .int tf, .int tt, .int ti, .int tu])), (t1, .inl (K 0, 400, .inl fb)), (s0, .inr (7, [.ref s1, .ref s2, s_2, .int us])), (s2, .inl (K 0, 800, .inl fc))] sz))) (va_Qi (S := Su) (fun (r : Int32) (u : Su) => (0 ≤ r.toInt ∧ r.toInt ≤ 1) ∧ (0 ≤ (u.2.2.2.1 0).toInt ∧ (u.2.2.2.1 0).toInt ≤ 50) ∧ (0 ≤ (u.2.2.2.1 1).toInt ∧ (u.2.2.2.1 1).toInt ≤ 400) ∧ (0 ≤ (u.2.2.2.1 2).toInt ∧ (u.2.2.2.1 2).toInt ≤ 400) ∧ ((-1) ≤ (u.2.2.2.1 4).toInt ∧ (u.2.2.2.1 4).toInt ≤ 1000000) ∧ (0 ≤ (u.2.2.2.1 5).toInt ∧ (u.2.2.2.1 5).toInt ≤ 800) ∧ (Rg 800 0 1000 (u.2.1 0)) ∧ ((r, (u.2.2.2.1 0), (u.2.2.2.1 1), (u.2.2.2.1 2), (u.2.2.2.1 3), (u.2.2.2.1 4), (u.2.2.2.1 5), (u.2.1 0)) = E_w_test Es Et d lw pa ln tf tt ti tu fb us fc) ∧ True) (fun u t => Wd D (va_A [(a0, .inr (6, [.ref t0, .ref s0, .int lw, .int pa, r_4])), (t0, .inr (8, [.ref t1, .int ln, .int tf, .int tt, .int ti, .int tu])), (t1, .inl (K 0, 400, .inl fb)), (s0, .inr (7, [.ref s1, .ref s2, s_2, .int us])), (s2, .inl (K 0, 800, .inl fc))] sz) ((fun u => [(a0, .inr (6, [.ref t0, .ref s0, .int lw, .int (u.2.2.2.1 0), r_4])), (t0, .inr (8, [.ref t1, .int ln, .int (u.2.2.2.1 1), .int (u.2.2.2.1 2), .int (u.2.2.2.1 3), .int (u.2.2.2.1 4)])), (t1, .inl (K 0, 400, .inl fb)), (s0, .inr (7, [.ref s1, .ref s2, s_2, .int (u.2.2.2.1 5)])), (s2, .inl (K 0, 800, .inl (u.2.1 0)))]) u) t) (va_A [(a0, .inr (6, [.ref t0, .ref s0, .int lw, .int pa, r_4])), (t0, .inr (8, [.ref t1, .int ln, .int tf, .int tt, .int ti, .int tu])), (t1, .inl (K 0, 400, .inl fb)), (s0, .inr (7, [.ref s1, .ref s2, s_2, .int us])), (s2, .inl (K 0, 800, .inl fc))] sz)) 0 0 (va_A [(a0, .inr (6, [.ref t0, .ref s0, .int lw, .int pa, r_4])), (t0, .inr (8, [.ref t1, .int ln, .int tf, .int tt, .int ti, .int tu])), (t1, .inl (K 0, 400, .inl fb)), (s0, .inr (7, [.ref s1, .ref s2, s_2, .int us])), (s2, .inl (K 0, 800, .inl fc))] sz) := by
  refine Met.ofW (cc := cX6_test) (maxL := 5) (ret := (some .boolean)) (by decide +kernel) rfl ?_
  intro p e s m args below meth c s₁ B hml hv
  obtain ⟨rfl, ⟨hsz, hP, hK, hD0, hN⟩, hG, hPl, hRo⟩ := hv
  have hx := B.exec
  have hb := B.bytes
  have hr := B.returns
  have hts := atoms_spec (ws := wsX6_test) B.pre
  have hown : s.vm.findClass RX6 = some m.cls := findClass_of_methodNamed B.named
  have hlocks := B.notSynchronized
  subst hsz
  have hD := hD0.self (sz := s.heap.size)
  generalize hAe : va_A [(a0, .inr (6, [.ref t0, .ref s0, .int lw, .int pa, r_4])), (t0, .inr (8, [.ref t1, .int ln, .int tf, .int tt, .int ti, .int tu])), (t1, .inl (K 0, 400, .inl fb)), (s0, .inr (7, [.ref s1, .ref s2, s_2, .int us])), (s2, .inl (K 0, 800, .inl fc))] s.heap.size = A at hD hG hPl hRo ⊢
  have hA : ∀ q : Nat, s.heap.size ≤ q → A q := fun q h => by rw [← hAe]; exact Or.inr h
  clear hAe
  have hS : va_S A s.heap s.heap [] := va_S.rf
  replace hP : va_P D vwCl [(a0, .inr (6, [.ref t0, .ref s0, .int lw, .int pa, r_4])), (t0, .inr (8, [.ref t1, .int ln, .int tf, .int tt, .int ti, .int tu])), (t1, .inl (K 0, 400, .inl fb)), (s0, .inr (7, [.ref s1, .ref s2, s_2, .int us])), (s2, .inl (K 0, 800, .inl fc))] s.heap := hP
  have hl := lv_entry [.ref a0, .int d] (n := 5) (Nat.le_of_ble_eq_true rfl)
  rw [lg_entry_eq]
  generalize (lg_sl [.ref a0, .int d] ++ List.replicate (5 - (lg_sl [.ref a0, .int d]).length) Slot.unset).toArray = ls at hl ⊢
  have hl : lv_has ls 5 [(0, .ref a0), (1, .int d)] := hl
  have hw6 : ∀ w ∈ wsX60, w ∈ wsX6_test := fun w h => (List.mem_cons_of_mem _ (List.mem_append_left _ (List.mem_append_left _ (List.mem_append_right _ h))))
  have hw7 : ∀ w ∈ wsX70, w ∈ wsX6_test := fun w h => (List.mem_cons_of_mem _ (List.mem_append_right _ h))
  have hw8 : ∀ w ∈ wsX80, w ∈ wsX6_test := fun w h => (List.mem_cons_of_mem _ (List.mem_append_left _ (List.mem_append_right _ h)))
  generalize hQ : MQ below _ _ s _ _ _ = Q
  have hE := E_w_test.eq_def Es Et d lw pa ln tf tt ti tu fb us fc
  refine lv_iconst (v := (-1)) hx hb dX6_test_0 (by decide +kernel) ?_
  refine lv_istore_n (lv' := [(2, .int (-1)), (0, .ref a0), (1, .int d)]) hx hb dX6_test_1 rfl hl (by decide +kernel) rfl (fun ls hl => ?_)
  refine lv_iconst (v := (-1)) hx hb dX6_test_2 (by decide +kernel) ?_
  refine lv_istore_n (lv' := [(3, .int (-1)), (2, .int (-1)), (0, .ref a0), (1, .int d)]) hx hb dX6_test_3 rfl hl (by decide +kernel) rfl (fun ls hl => ?_)
  refine lv_iconst (v := 0) hx hb dX6_test_4 (by decide +kernel) ?_
  refine lv_istore (lv' := [(4, .int 0), (3, .int (-1)), (2, .int (-1)), (0, .ref a0), (1, .int d)]) hx hb dX6_test_5 hl (by decide +kernel) rfl (fun ls hl => ?_)
  have lp_1889 : ∀ (nn_ : Nat) (v_1701 : Int32) (v_1702 : Int32) (v_1703 : Int32) (v_1704 : Int32) (v_1705 : Int32) (v_1706 : Int32) (v_1707 : Int32) (v_1708 : Int32) (v_1709 : Int32) (f_1710 : Nat → Int32) (hv_1701 : 0 ≤ v_1701.toInt ∧ v_1701.toInt ≤ 401) (hv_1702 : (-1) ≤ v_1702.toInt ∧ v_1702.toInt ≤ 798) (hv_1703 : (-1) ≤ v_1703.toInt ∧ v_1703.toInt ≤ 798) (hv_1704 : 0 ≤ v_1704.toInt ∧ v_1704.toInt ≤ 50) (hv_1705 : 0 ≤ v_1705.toInt ∧ v_1705.toInt ≤ 400) (hv_1706 : 0 ≤ v_1706.toInt ∧ v_1706.toInt ≤ 400) (hv_1708 : (-1) ≤ v_1708.toInt ∧ v_1708.toInt ≤ 1000000) (hv_1709 : 0 ≤ v_1709.toInt ∧ v_1709.toInt ≤ 800) (hf_1710_0 : Rg 800 0 1000 f_1710) (hn : (402 - v_1701.toInt : Int).toNat < nn_) (hE : E_w_test Es Et d lw pa ln tf tt ti tu fb us fc = Lp (α := Int32 → Int32 → Int32 → Int32 → Int32 → Int32 → Int32 → Int32 → Int32 → (Nat → Int32) → (Int32 × Int32 × Int32 × Int32 × Int32 × Int32 × Int32 × (Nat → Int32))) (E_w_test_l7 Es Et d lw ln fb) (fun _ _ _ _ _ _ _ _ _ _ => ((0, 0, 0, 0, 0, 0, 0, fun _ => 0) : Int32 × Int32 × Int32 × Int32 × Int32 × Int32 × Int32 × (Nat → Int32))) nn_ v_1701 v_1702 v_1703 v_1704 v_1705 v_1706 v_1707 v_1708 v_1709 f_1710) (H : Heap) (locs : List Loc) (hP : va_P D vwCl [(a0, .inr (6, [.ref t0, .ref s0, .int lw, .int v_1704, r_4])), (t0, .inr (8, [.ref t1, .int ln, .int v_1705, .int v_1706, .int v_1707, .int v_1708])), (t1, .inl (K 0, 400, .inl fb)), (s0, .inr (7, [.ref s1, .ref s2, s_2, .int v_1709])), (s2, .inl (K 0, 800, .inl f_1710))] H) (hD : va_D A [(a0, .inr (6, [.ref t0, .ref s0, .int lw, .int v_1704, r_4])), (t0, .inr (8, [.ref t1, .int ln, .int v_1705, .int v_1706, .int v_1707, .int v_1708])), (t1, .inl (K 0, 400, .inl fb)), (s0, .inr (7, [.ref s1, .ref s2, s_2, .int v_1709])), (s2, .inl (K 0, 800, .inl f_1710))]) (hS : va_S A s.heap H locs) (ls : Array Slot) (hl : lv_has ls 5 [(4, .int v_1701), (3, .int v_1702), (2, .int v_1703), (0, .ref a0), (1, .int d)]), W p l e ({ frames := f1 + f2 + 7, cells := 0, slots := 0, locals := l1 + l2 + 154 }) s m (([.ref a0, .int d] : List Value).toArray) below meth c H locs 0 0 Q (F0 m 7 ls []) := by
    clear hE hP hD hS hl
    intro nn_
    induction nn_ with
    | zero =>
      intro v_1701 v_1702 v_1703 v_1704 v_1705 v_1706 v_1707 v_1708 v_1709 f_1710 hv_1701 hv_1702 hv_1703 hv_1704 hv_1705 hv_1706 hv_1708 hv_1709 hf_1710_0 hn hE H locs hP hD hS ls hl
      exact absurd hn (Nat.not_lt_zero _)
    | succ nn_ ih_1890 =>
      intro v_1701 v_1702 v_1703 v_1704 v_1705 v_1706 v_1707 v_1708 v_1709 f_1710 hv_1701 hv_1702 hv_1703 hv_1704 hv_1705 hv_1706 hv_1708 hv_1709 hf_1710_0 hn hE H locs hP hD hS ls hl
      replace hE : E_w_test Es Et d lw pa ln tf tt ti tu fb us fc = E_w_test_l7 Es Et d lw ln fb (Lp (α := Int32 → Int32 → Int32 → Int32 → Int32 → Int32 → Int32 → Int32 → Int32 → (Nat → Int32) → (Int32 × Int32 × Int32 × Int32 × Int32 × Int32 × Int32 × (Nat → Int32))) (E_w_test_l7 Es Et d lw ln fb) (fun _ _ _ _ _ _ _ _ _ _ => ((0, 0, 0, 0, 0, 0, 0, fun _ => 0) : Int32 × Int32 × Int32 × Int32 × Int32 × Int32 × Int32 × (Nat → Int32))) nn_) v_1701 v_1702 v_1703 v_1704 v_1705 v_1706 v_1707 v_1708 v_1709 f_1710 := hE
      obtain ⟨rec_1889, hrec_1889⟩ : ∃ z9, z9 = Lp (α := Int32 → Int32 → Int32 → Int32 → Int32 → Int32 → Int32 → Int32 → Int32 → (Nat → Int32) → (Int32 × Int32 × Int32 × Int32 × Int32 × Int32 × Int32 × (Nat → Int32))) (E_w_test_l7 Es Et d lw ln fb) (fun _ _ _ _ _ _ _ _ _ _ => ((0, 0, 0, 0, 0, 0, 0, fun _ => 0) : Int32 × Int32 × Int32 × Int32 × Int32 × Int32 × Int32 × (Nat → Int32))) nn_ := ⟨_, rfl⟩
      rw [← hrec_1889] at hE
      replace hE := hE.trans (E_w_test_l7.eq_def _ _ _ _ _ _ _ _ _ _ _ _ _ _ _ _ _)
      refine lv_iload hx hb dX6_test_7 (lv_at hl 0 rfl) ?_
      refine lv_sipush (v := 400) hx hb dX6_test_9 (by decide +kernel) ?_
      refine lv_icmp_gt (tgt := 94) hx hb dX6_test_12 (by decide +kernel) (fun c_1891 => ?_) (fun c_1891 => ?_)
      · have c_1891i := i_lt (x := 400) (y := v_1701.toInt) rfl rfl c_1891
        replace hE := hE.trans (if_pos c_1891)
        refine lv_iconst (v := 0) hx hb dX6_test_94 (by decide +kernel) ?_
        rw [← hQ]
        have hP9 := hP.sub (ws' := [(a0, .inr (6, [.ref t0, .ref s0, .int lw, .int v_1704, r_4])), (t0, .inr (8, [.ref t1, .int ln, .int v_1705, .int v_1706, .int v_1707, .int v_1708])), (t1, .inl (K 0, 400, .inl fb)), (s0, .inr (7, [.ref s1, .ref s2, s_2, .int v_1709])), (s2, .inl (K 0, 800, .inl f_1710))]) [0, 1, 2, 3, 4] rfl
        have hD9 := hD.sub (ws' := [(a0, .inr (6, [.ref t0, .ref s0, .int lw, .int v_1704, r_4])), (t0, .inr (8, [.ref t1, .int ln, .int v_1705, .int v_1706, .int v_1707, .int v_1708])), (t1, .inl (K 0, 400, .inl fb)), (s0, .inr (7, [.ref s1, .ref s2, s_2, .int v_1709])), (s2, .inl (K 0, 800, .inl f_1710))]) [0, 1, 2, 3, 4] (by decide +kernel) rfl
        exact W.zret (v := 0) hx hb hr (by decide +kernel) (fun t ht hW => ⟨⟨0, ((fun _ => 0, fun i => match i with | _ => f_1710, fun _ => fun _ => 0, fun i => match i with | 0 => v_1704 | 1 => v_1705 | 2 => v_1706 | 3 => v_1707 | 4 => v_1708 | _ => v_1709, fun _ => 0, fun _ => fun _ => none) : Su), rfl, ⟨(show 0 ≤ (0 : Int32).toInt ∧ (0 : Int32).toInt ≤ 1 by decide), (show 0 ≤ (v_1704 : Int32).toInt ∧ (v_1704 : Int32).toInt ≤ 50 by omega), (show 0 ≤ (v_1705 : Int32).toInt ∧ (v_1705 : Int32).toInt ≤ 400 by omega), (show 0 ≤ (v_1706 : Int32).toInt ∧ (v_1706 : Int32).toInt ≤ 400 by omega), (show (-1) ≤ (v_1708 : Int32).toInt ∧ (v_1708 : Int32).toInt ≤ 1000000 by omega), (show 0 ≤ (v_1709 : Int32).toInt ∧ (v_1709 : Int32).toInt ≤ 800 by omega), hf_1710_0, hE.symm, trivial⟩, (⟨by rw [ht]; exact hP9, hD9⟩ : Wd D A _ t)⟩, hS.F ht⟩) hS.2.2 dX6_test_95
      · have c_1891i := i_nlt (x := 400) (y := v_1701.toInt) rfl rfl c_1891
        replace hE := hE.trans (if_neg c_1891)
        refine lv_aload_n hx hb dX6_test_15 rfl (lv_at hl 3 rfl) ?_
        refine lv_iload_n hx hb dX6_test_16 rfl (lv_at hl 4 rfl) ?_
        refine kci (S := Su) (wr := []) (va_runV (As := [.int d]) (rest := []) ⟨hx, hb, hml, hown, hts⟩ (w_plain f1 l1 f2 l2 DD zDD Es Et hsum htest l D K g L G a0 d t0 s0 lw v_1704 r_4 t1 ln v_1705 v_1706 v_1707 v_1708 fb s1 s2 s_2 v_1709 f_1710 H.size (by first | omega | decide) (by first | omega | decide) (by first | omega | decide) (by first | omega | decide) (by first | omega | decide) (by first | omega | decide) (by first | omega | decide) (by first | omega | decide) hf_1710_0) (cwV 1 hts gX6_test_X6_plain rfl rfl rfl (by decide +kernel) ⟨by show (f1 + f2 + 6) + 1 ≤ f1 + f2 + 7; omega, by show 8 + (4 + 11) + (l1 + l2 + 131) ≤ l1 + l2 + 154; omega⟩) (mkVY hK hN (hP.sub [0, 1, 2, 3, 4] rfl) (hD.sub [0, 1, 2, 3, 4] (by decide +kernel) rfl) (ci := 6) (q0 := 0) rfl rfl (fun U hU hW => ⟨Gl.at hG hS hW hU (fun q h => va_free hD hS hA [0, 1, 2, 3, 4] rfl q h), Pool.at hPl hS hU (fun q h => va_free hD hS hA [0, 1, 2, 3, 4] rfl q h), Ro.heap hU (Ro.nil)⟩)) rfl rfl hl.1 rfl (lv_room (Nat.le_of_ble_eq_true rfl)) dX6_test_17 ⟨Nat.le_of_ble_eq_true rfl, Nat.le_of_ble_eq_true rfl⟩) hP hD hS hA [0, 1, 2, 3, 4] [] rfl rfl (by decide +kernel) (by decide +kernel) (fun r_1892 u_1893 H locs hw hP0 hD0 hS0 => ?_)
        clear hP hD hS
        have hP := hP0
        have hD := hD0
        have hS := hS0
        clear hP0 hD0 hS0
        replace hP : va_P D vwCl [(a0, .inr (6, [.ref t0, .ref s0, .int lw, .int (u_1893.2.2.2.1 0), r_4])), (t0, .inr (8, [.ref t1, .int ln, .int (u_1893.2.2.2.1 1), .int (u_1893.2.2.2.1 2), .int (u_1893.2.2.2.1 3), .int (u_1893.2.2.2.1 4)])), (t1, .inl (K 0, 400, .inl fb)), (s0, .inr (7, [.ref s1, .ref s2, s_2, .int (u_1893.2.2.2.1 5)])), (s2, .inl (K 0, 800, .inl (u_1893.2.1 0)))] H := hP
        replace hD : va_D A [(a0, .inr (6, [.ref t0, .ref s0, .int lw, .int (u_1893.2.2.2.1 0), r_4])), (t0, .inr (8, [.ref t1, .int ln, .int (u_1893.2.2.2.1 1), .int (u_1893.2.2.2.1 2), .int (u_1893.2.2.2.1 3), .int (u_1893.2.2.2.1 4)])), (t1, .inl (K 0, 400, .inl fb)), (s0, .inr (7, [.ref s1, .ref s2, s_2, .int (u_1893.2.2.2.1 5)])), (s2, .inl (K 0, 800, .inl (u_1893.2.1 0)))] := hD
        obtain ⟨h_1901, k_1894, k_1895, k_1896, k_1897, k_1898, k_1899, k_1900, -⟩ := hw
        replace hE := ((((((hE.trans (Lt2_in k_1900)).trans (Lt2_in rfl)).trans (Lt2_in rfl)).trans (Lt2_in rfl)).trans (Lt2_in rfl)).trans (Lt2_in rfl)).trans (Lt2_in rfl)
        refine lv_if_ne (tgt := 25) hx hb dX6_test_20 (by decide +kernel) (fun c_1902 => ?_) (fun c_1902 => ?_)
        · have c_1902i := i_ne (x := r_1892.toInt) (y := 0) rfl rfl c_1902
          replace hE := hE.trans (if_neg c_1902)
          refine lv_aload_n hx hb dX6_test_25 rfl (lv_at hl 3 rfl) ?_
          refine va_get (ci := 6) (v := .ref s0) (C := RX6) (T := TX6) (N := 5) hx hb hts hw6 hown hK hP 0 rfl rfl 1 (by decide +kernel) (hts _ mm_X6_test_232) (fun _ h9 => h9) rfl dX6_test_26 ?_
          refine lv_iload_n hx hb dX6_test_29 rfl (lv_at hl 2 rfl) ?_
          refine kcv (S := Su) (wr := [(a0, .inr (6, [.ref t0, .ref s0, .int lw, .int (u_1893.2.2.2.1 0), r_4])), (t0, .inr (8, [.ref t1, .int ln, .int (u_1893.2.2.2.1 1), .int (u_1893.2.2.2.1 2), .int (u_1893.2.2.2.1 3), .int (u_1893.2.2.2.1 4)])), (t1, .inl (K 0, 400, .inl fb))]) (va_runVN (As := [.int v_1703]) (rest := []) ⟨hx, hb, hml, hown, hts⟩ (w_land l D K s0 v_1703 s1 s2 s_2 (u_1893.2.2.2.1 5) (u_1893.2.1 0) H.size (by first | omega | decide) (by first | omega | decide) k_1899) ⟨va_cnB 1 hts gX6_test_X7_land_n121 rfl rfl rfl (nst_at hN 37 rfl) (hts _ mm_X6_test_148) (by decide +kernel) ⟨by show (0) + 1 ≤ f1 + f2 + 7; omega, by show 8 + (2 + 11) + (0) ≤ l1 + l2 + 154; omega⟩, (hts _ mm_X6_test_554), (hts _ mm_X6_test_33)⟩ (mkV hK hN (hP.sub [3, 4] rfl) (hD.sub [3, 4] (by decide +kernel) rfl) (ci := 7) (q0 := 0) rfl rfl) rfl rfl hl.1 rfl (lv_room (Nat.le_of_ble_eq_true rfl)) dX6_test_30 ⟨Nat.le_of_ble_eq_true rfl, Nat.le_of_ble_eq_true rfl⟩) hP hD hS hA [3, 4] [0, 1, 2] rfl rfl (by decide +kernel) (by decide +kernel) (fun u_1904 H locs hw hP0 hD0 hS0 => ?_)
          clear hP hD hS
          have hP := hP0
          have hD := hD0
          have hS := hS0
          clear hP0 hD0 hS0
          replace hP : va_P D vwCl [(a0, .inr (6, [.ref t0, .ref s0, .int lw, .int (u_1893.2.2.2.1 0), r_4])), (t0, .inr (8, [.ref t1, .int ln, .int (u_1893.2.2.2.1 1), .int (u_1893.2.2.2.1 2), .int (u_1893.2.2.2.1 3), .int (u_1893.2.2.2.1 4)])), (t1, .inl (K 0, 400, .inl fb)), (s0, .inr (7, [.ref s1, .ref s2, s_2, .int (u_1893.2.2.2.1 5)])), (s2, .inl (K 0, 800, .inl (u_1904.2.1 0)))] H := hP
          replace hD : va_D A [(a0, .inr (6, [.ref t0, .ref s0, .int lw, .int (u_1893.2.2.2.1 0), r_4])), (t0, .inr (8, [.ref t1, .int ln, .int (u_1893.2.2.2.1 1), .int (u_1893.2.2.2.1 2), .int (u_1893.2.2.2.1 3), .int (u_1893.2.2.2.1 4)])), (t1, .inl (K 0, 400, .inl fb)), (s0, .inr (7, [.ref s1, .ref s2, s_2, .int (u_1893.2.2.2.1 5)])), (s2, .inl (K 0, 800, .inl (u_1904.2.1 0)))] := hD
          obtain ⟨k_1905, k_1906, -⟩ := hw
          replace hE := hE.trans (Lt_in k_1906)
          refine lv_iconst (v := (-1)) hx hb dX6_test_33 (by decide +kernel) ?_
          refine lv_istore_n (lv' := [(2, .int (-1)), (4, .int v_1701), (3, .int v_1702), (0, .ref a0), (1, .int d)]) hx hb dX6_test_34 rfl hl (by decide +kernel) rfl (fun ls hl => ?_)
          refine lv_aload_n hx hb dX6_test_35 rfl (lv_at hl 3 rfl) ?_
          refine va_ldcS hx hb hown (hG.str 5 (by decide +kernel)).1 dX6_test_36 ?_
          refine W.eq (g2 := F0 m 38 ls [.ref (g 18), .ref a0]) rfl ?_
          refine kci (S := Su) (wr := [(s0, .inr (7, [.ref s1, .ref s2, s_2, .int (u_1893.2.2.2.1 5)])), (s2, .inl (K 0, 800, .inl (u_1904.2.1 0)))]) (va_runV (As := [.ref (g 18)]) (rest := []) ⟨hx, hb, hml, hown, hts⟩ (w_passed l D K g L G 5 a0 t0 s0 lw (u_1893.2.2.2.1 0) r_4 t1 ln (u_1893.2.2.2.1 1) (u_1893.2.2.2.1 2) (u_1893.2.2.2.1 3) (u_1893.2.2.2.1 4) fb H.size (by decide +kernel) (by first | omega | decide) (by first | omega | decide) (by first | omega | decide) (by first | omega | decide) (by first | omega | decide) (by first | omega | decide)) (cwV 1 hts gX6_test_X6_passed rfl rfl rfl (by decide +kernel) ⟨by show (5) + 1 ≤ f1 + f2 + 7; omega, by show 8 + (2 + 11) + (110) ≤ l1 + l2 + 154; omega⟩) (mkVY hK hN (hP.sub [0, 1, 2] rfl) (hD.sub [0, 1, 2] (by decide +kernel) rfl) (ci := 6) (q0 := 0) rfl rfl (fun U hU hW => ⟨Gl.at hG hS hW hU (fun q h => va_free hD hS hA [0, 1, 2] rfl q h), Pool.at hPl hS hU (fun q h => va_free hD hS hA [0, 1, 2] rfl q h), Ro.heap hU (Ro.nil)⟩)) rfl rfl hl.1 rfl (lv_room (Nat.le_of_ble_eq_true rfl)) dX6_test_38 ⟨Nat.le_of_ble_eq_true rfl, Nat.le_of_ble_eq_true rfl⟩) hP hD hS hA [0, 1, 2] [3, 4] rfl rfl (by decide +kernel) (by decide +kernel) (fun r_1907 u_1908 H locs hw hP0 hD0 hS0 => ?_)
          clear hP hD hS
          have hP := hP0
          have hD := hD0
          have hS := hS0
          clear hP0 hD0 hS0
          replace hP : va_P D vwCl [(s0, .inr (7, [.ref s1, .ref s2, s_2, .int (u_1893.2.2.2.1 5)])), (s2, .inl (K 0, 800, .inl (u_1904.2.1 0))), (a0, .inr (6, [.ref t0, .ref s0, .int lw, .int (u_1893.2.2.2.1 0), r_4])), (t0, .inr (8, [.ref t1, .int ln, .int (u_1908.2.2.2.1 0), .int (u_1908.2.2.2.1 1), .int (u_1908.2.2.2.1 2), .int (u_1908.2.2.2.1 3)])), (t1, .inl (K 0, 400, .inl fb))] H := hP
          replace hD : va_D A [(s0, .inr (7, [.ref s1, .ref s2, s_2, .int (u_1893.2.2.2.1 5)])), (s2, .inl (K 0, 800, .inl (u_1904.2.1 0))), (a0, .inr (6, [.ref t0, .ref s0, .int lw, .int (u_1893.2.2.2.1 0), r_4])), (t0, .inr (8, [.ref t1, .int ln, .int (u_1908.2.2.2.1 0), .int (u_1908.2.2.2.1 1), .int (u_1908.2.2.2.1 2), .int (u_1908.2.2.2.1 3)])), (t1, .inl (K 0, 400, .inl fb))] := hD
          obtain ⟨h_1913, k_1909, k_1910, k_1911, k_1912, -⟩ := hw
          replace hE := (((hE.trans (Lt2_in k_1912)).trans (Lt2_in rfl)).trans (Lt2_in rfl)).trans (Lt2_in rfl)
          have j_1948 : ∀ (v_1939 : Int32) (v_1940 : Int32) (v_1941 : Int32) (v_1942 : Int32) (v_1943 : Int32) (v_1944 : Int32) (v_1945 : Int32) (f_1946 : Nat → Int32) (hv_1939 : (-1) ≤ v_1939.toInt ∧ v_1939.toInt ≤ 798) (hv_1940 : (-1) ≤ v_1940.toInt ∧ v_1940.toInt ≤ 798) (hv_1941 : 0 ≤ v_1941.toInt ∧ v_1941.toInt ≤ 400) (hv_1942 : 0 ≤ v_1942.toInt ∧ v_1942.toInt ≤ 400) (hv_1944 : (-1) ≤ v_1944.toInt ∧ v_1944.toInt ≤ 1000000) (hv_1945 : 2 ≤ v_1945.toInt ∧ v_1945.toInt ≤ 800) (hf_1946_0 : Rg 800 0 1000 f_1946) (hE : E_w_test Es Et d lw pa ln tf tt ti tu fb us fc = E_w_test_j88 v_1701 rec_1889 (u_1893.2.2.2.1 0) v_1939 v_1940 v_1941 v_1942 v_1943 v_1944 v_1945 f_1946) (H : Heap) (locs : List Loc) (hP : va_P D vwCl [(a0, .inr (6, [.ref t0, .ref s0, .int lw, .int (u_1893.2.2.2.1 0), r_4])), (t0, .inr (8, [.ref t1, .int ln, .int v_1941, .int v_1942, .int v_1943, .int v_1944])), (t1, .inl (K 0, 400, .inl fb)), (s0, .inr (7, [.ref s1, .ref s2, s_2, .int v_1945])), (s2, .inl (K 0, 800, .inl f_1946))] H) (hD : va_D A [(a0, .inr (6, [.ref t0, .ref s0, .int lw, .int (u_1893.2.2.2.1 0), r_4])), (t0, .inr (8, [.ref t1, .int ln, .int v_1941, .int v_1942, .int v_1943, .int v_1944])), (t1, .inl (K 0, 400, .inl fb)), (s0, .inr (7, [.ref s1, .ref s2, s_2, .int v_1945])), (s2, .inl (K 0, 800, .inl f_1946))]) (hS : va_S A s.heap H locs) (ls : Array Slot) (hl : lv_has ls 5 [(3, .int v_1939), (2, .int v_1940), (4, .int v_1701), (0, .ref a0), (1, .int d)]), W p l e ({ frames := f1 + f2 + 7, cells := 0, slots := 0, locals := l1 + l2 + 154 }) s m (([.ref a0, .int d] : List Value).toArray) below meth c H locs 0 0 Q (F0 m 88 ls []) := by
            clear hE hP hD hS hl
            intro v_1939 v_1940 v_1941 v_1942 v_1943 v_1944 v_1945 f_1946 hv_1939 hv_1940 hv_1941 hv_1942 hv_1944 hv_1945 hf_1946_0 hE H locs hP hD hS ls hl
            replace hE := hE.trans (E_w_test_j88.eq_def _ _ _ _ _ _ _ _ _ _ _)
            obtain ⟨x_1949, ex_1949⟩ : ∃ y : Int32, y = v_1701 + Int32.ofInt 1 := ⟨_, rfl⟩
            replace hE := hE.trans (Lt_in ex_1949)
            have hx_1949 : x_1949.toInt = (v_1701.toInt + 1) := by rw [ex_1949]; exact i_add rfl (show (Int32.ofInt 1).toInt = 1 from rfl) (by omega)
            refine lv_iinc (v := x_1949) (lv' := [(4, .int x_1949), (3, .int v_1939), (2, .int v_1940), (0, .ref a0), (1, .int d)]) hx hb dX6_test_88 hl (k := 2) rfl (by rw [ex_1949]) (by decide +kernel) rfl (fun ls hl => ?_)
            refine lv_goto (tgt := 7) hx hb dX6_test_91 (by decide +kernel) ?_
            exact ih_1890 x_1949 v_1939 v_1940 (u_1893.2.2.2.1 0) v_1941 v_1942 v_1943 v_1944 v_1945 f_1946 (by rw [hx_1949]; omega) (by omega) (by omega) (by omega) (by omega) (by omega) (by omega) (by omega) hf_1946_0 (by omega) (hE.trans (by rw [hrec_1889])) _ _ hP hD hS ls (lv_sub hl [0, 1, 2, 3, 4] rfl)
          refine lv_if_eq (tgt := 58) hx hb dX6_test_41 (by decide +kernel) (fun c_1950 => ?_) (fun c_1950 => ?_)
          · have c_1950i := i_eq (x := r_1907.toInt) (y := 0) rfl rfl c_1950
            replace hE := hE.trans (if_pos c_1950)
            refine lv_aload_n hx hb dX6_test_58 rfl (lv_at hl 3 rfl) ?_
            refine va_get (ci := 6) (v := .ref s0) (C := RX6) (T := TX6) (N := 5) hx hb hts hw6 hown hK hP 2 rfl rfl 1 (by decide +kernel) (hts _ mm_X6_test_232) (fun _ h9 => h9) rfl dX6_test_59 ?_
            refine lv_iload_n hx hb dX6_test_62 rfl (lv_at hl 2 rfl) ?_
            refine kcv (S := Su) (wr := [(a0, .inr (6, [.ref t0, .ref s0, .int lw, .int (u_1893.2.2.2.1 0), r_4])), (t0, .inr (8, [.ref t1, .int ln, .int (u_1908.2.2.2.1 0), .int (u_1908.2.2.2.1 1), .int (u_1908.2.2.2.1 2), .int (u_1908.2.2.2.1 3)])), (t1, .inl (K 0, 400, .inl fb))]) (va_runVN (As := [.int v_1702]) (rest := []) ⟨hx, hb, hml, hown, hts⟩ (w_land l D K s0 v_1702 s1 s2 s_2 (u_1893.2.2.2.1 5) (u_1904.2.1 0) H.size (by first | omega | decide) (by first | omega | decide) k_1905) ⟨va_cnB 1 hts gX6_test_X7_land_n121 rfl rfl rfl (nst_at hN 37 rfl) (hts _ mm_X6_test_148) (by decide +kernel) ⟨by show (0) + 1 ≤ f1 + f2 + 7; omega, by show 8 + (2 + 11) + (0) ≤ l1 + l2 + 154; omega⟩, (hts _ mm_X6_test_554), (hts _ mm_X6_test_33)⟩ (mkV hK hN (hP.sub [0, 1] rfl) (hD.sub [0, 1] (by decide +kernel) rfl) (ci := 7) (q0 := 0) rfl rfl) rfl rfl hl.1 rfl (lv_room (Nat.le_of_ble_eq_true rfl)) dX6_test_63 ⟨Nat.le_of_ble_eq_true rfl, Nat.le_of_ble_eq_true rfl⟩) hP hD hS hA [0, 1] [2, 3, 4] rfl rfl (by decide +kernel) (by decide +kernel) (fun u_1952 H locs hw hP0 hD0 hS0 => ?_)
            clear hP hD hS
            have hP := hP0
            have hD := hD0
            have hS := hS0
            clear hP0 hD0 hS0
            replace hP : va_P D vwCl [(a0, .inr (6, [.ref t0, .ref s0, .int lw, .int (u_1893.2.2.2.1 0), r_4])), (t0, .inr (8, [.ref t1, .int ln, .int (u_1908.2.2.2.1 0), .int (u_1908.2.2.2.1 1), .int (u_1908.2.2.2.1 2), .int (u_1908.2.2.2.1 3)])), (t1, .inl (K 0, 400, .inl fb)), (s0, .inr (7, [.ref s1, .ref s2, s_2, .int (u_1893.2.2.2.1 5)])), (s2, .inl (K 0, 800, .inl (u_1952.2.1 0)))] H := hP
            replace hD : va_D A [(a0, .inr (6, [.ref t0, .ref s0, .int lw, .int (u_1893.2.2.2.1 0), r_4])), (t0, .inr (8, [.ref t1, .int ln, .int (u_1908.2.2.2.1 0), .int (u_1908.2.2.2.1 1), .int (u_1908.2.2.2.1 2), .int (u_1908.2.2.2.1 3)])), (t1, .inl (K 0, 400, .inl fb)), (s0, .inr (7, [.ref s1, .ref s2, s_2, .int (u_1893.2.2.2.1 5)])), (s2, .inl (K 0, 800, .inl (u_1952.2.1 0)))] := hD
            obtain ⟨k_1953, k_1954, -⟩ := hw
            replace hE := hE.trans (Lt_in k_1954)
            refine lv_aload_n hx hb dX6_test_66 rfl (lv_at hl 3 rfl) ?_
            refine va_ldcS hx hb hown (hG.str 6 (by decide +kernel)).1 dX6_test_67 ?_
            refine W.eq (g2 := F0 m 69 ls [.ref (g 20), .ref a0]) rfl ?_
            refine kci (S := Su) (wr := [(s0, .inr (7, [.ref s1, .ref s2, s_2, .int (u_1893.2.2.2.1 5)])), (s2, .inl (K 0, 800, .inl (u_1952.2.1 0)))]) (va_runV (As := [.ref (g 20)]) (rest := []) ⟨hx, hb, hml, hown, hts⟩ (w_passed l D K g L G 6 a0 t0 s0 lw (u_1893.2.2.2.1 0) r_4 t1 ln (u_1908.2.2.2.1 0) (u_1908.2.2.2.1 1) (u_1908.2.2.2.1 2) (u_1908.2.2.2.1 3) fb H.size (by decide +kernel) (by first | omega | decide) (by first | omega | decide) (by first | omega | decide) (by first | omega | decide) (by first | omega | decide) (by first | omega | decide)) (cwV 1 hts gX6_test_X6_passed rfl rfl rfl (by decide +kernel) ⟨by show (5) + 1 ≤ f1 + f2 + 7; omega, by show 8 + (2 + 11) + (110) ≤ l1 + l2 + 154; omega⟩) (mkVY hK hN (hP.sub [0, 1, 2] rfl) (hD.sub [0, 1, 2] (by decide +kernel) rfl) (ci := 6) (q0 := 0) rfl rfl (fun U hU hW => ⟨Gl.at hG hS hW hU (fun q h => va_free hD hS hA [0, 1, 2] rfl q h), Pool.at hPl hS hU (fun q h => va_free hD hS hA [0, 1, 2] rfl q h), Ro.heap hU (Ro.nil)⟩)) rfl rfl hl.1 rfl (lv_room (Nat.le_of_ble_eq_true rfl)) dX6_test_69 ⟨Nat.le_of_ble_eq_true rfl, Nat.le_of_ble_eq_true rfl⟩) hP hD hS hA [0, 1, 2] [3, 4] rfl rfl (by decide +kernel) (by decide +kernel) (fun r_1955 u_1956 H locs hw hP0 hD0 hS0 => ?_)
            clear hP hD hS
            have hP := hP0
            have hD := hD0
            have hS := hS0
            clear hP0 hD0 hS0
            replace hP : va_P D vwCl [(s0, .inr (7, [.ref s1, .ref s2, s_2, .int (u_1893.2.2.2.1 5)])), (s2, .inl (K 0, 800, .inl (u_1952.2.1 0))), (a0, .inr (6, [.ref t0, .ref s0, .int lw, .int (u_1893.2.2.2.1 0), r_4])), (t0, .inr (8, [.ref t1, .int ln, .int (u_1956.2.2.2.1 0), .int (u_1956.2.2.2.1 1), .int (u_1956.2.2.2.1 2), .int (u_1956.2.2.2.1 3)])), (t1, .inl (K 0, 400, .inl fb))] H := hP
            replace hD : va_D A [(s0, .inr (7, [.ref s1, .ref s2, s_2, .int (u_1893.2.2.2.1 5)])), (s2, .inl (K 0, 800, .inl (u_1952.2.1 0))), (a0, .inr (6, [.ref t0, .ref s0, .int lw, .int (u_1893.2.2.2.1 0), r_4])), (t0, .inr (8, [.ref t1, .int ln, .int (u_1956.2.2.2.1 0), .int (u_1956.2.2.2.1 1), .int (u_1956.2.2.2.1 2), .int (u_1956.2.2.2.1 3)])), (t1, .inl (K 0, 400, .inl fb))] := hD
            obtain ⟨h_1961, k_1957, k_1958, k_1959, k_1960, -⟩ := hw
            replace hE := (((hE.trans (Lt2_in k_1960)).trans (Lt2_in rfl)).trans (Lt2_in rfl)).trans (Lt2_in rfl)
            refine lv_if_ne (tgt := 77) hx hb dX6_test_72 (by decide +kernel) (fun c_1962 => ?_) (fun c_1962 => ?_)
            · have c_1962i := i_ne (x := r_1955.toInt) (y := 0) rfl rfl c_1962
              replace hE := hE.trans (if_neg c_1962)
              refine lv_aload_n hx hb dX6_test_77 rfl (lv_at hl 3 rfl) ?_
              refine va_get (ci := 6) (v := .ref s0) (C := RX6) (T := TX6) (N := 5) hx hb hts hw6 hown hK hP 2 rfl rfl 1 (by decide +kernel) (hts _ mm_X6_test_232) (fun _ h9 => h9) rfl dX6_test_78 ?_
              refine lv_bipush (v := 12) hx hb dX6_test_81 (by decide +kernel) ?_
              refine lv_iconst (v := 0) hx hb dX6_test_83 (by decide +kernel) ?_
              refine kci (S := Su) (wr := [(a0, .inr (6, [.ref t0, .ref s0, .int lw, .int (u_1893.2.2.2.1 0), r_4])), (t0, .inr (8, [.ref t1, .int ln, .int (u_1956.2.2.2.1 0), .int (u_1956.2.2.2.1 1), .int (u_1956.2.2.2.1 2), .int (u_1956.2.2.2.1 3)])), (t1, .inl (K 0, 400, .inl fb))]) (va_runVN (As := [.int 12, .int 0]) (rest := []) ⟨hx, hb, hml, hown, hts⟩ (w_emit l D K s0 12 0 s1 s2 s_2 (u_1893.2.2.2.1 5) (u_1952.2.1 0) H.size (by first | omega | decide) (by first | omega | decide) (by first | omega | decide) k_1953) ⟨va_cnB 2 hts gX6_test_X7_emit_n95 rfl rfl rfl (nst_at hN 36 rfl) (hts _ mm_X6_test_148) (by decide +kernel) ⟨by show (0) + 1 ≤ f1 + f2 + 7; omega, by show 8 + (3 + 11) + (0) ≤ l1 + l2 + 154; omega⟩, (hts _ mm_X6_test_539), (hts _ mm_X6_test_29)⟩ (mkV hK hN (hP.sub [0, 1] rfl) (hD.sub [0, 1] (by decide +kernel) rfl) (ci := 7) (q0 := 0) rfl rfl) rfl rfl hl.1 rfl (lv_room (Nat.le_of_ble_eq_true rfl)) dX6_test_84 ⟨Nat.le_of_ble_eq_true rfl, Nat.le_of_ble_eq_true rfl⟩) hP hD hS hA [0, 1] [2, 3, 4] rfl rfl (by decide +kernel) (by decide +kernel) (fun r_1963 u_1964 H locs hw hP0 hD0 hS0 => ?_)
              clear hP hD hS
              have hP := hP0
              have hD := hD0
              have hS := hS0
              clear hP0 hD0 hS0
              replace hP : va_P D vwCl [(a0, .inr (6, [.ref t0, .ref s0, .int lw, .int (u_1893.2.2.2.1 0), r_4])), (t0, .inr (8, [.ref t1, .int ln, .int (u_1956.2.2.2.1 0), .int (u_1956.2.2.2.1 1), .int (u_1956.2.2.2.1 2), .int (u_1956.2.2.2.1 3)])), (t1, .inl (K 0, 400, .inl fb)), (s0, .inr (7, [.ref s1, .ref s2, s_2, .int (u_1964.2.2.2.1 0)])), (s2, .inl (K 0, 800, .inl (u_1964.2.1 0)))] H := hP
              replace hD : va_D A [(a0, .inr (6, [.ref t0, .ref s0, .int lw, .int (u_1893.2.2.2.1 0), r_4])), (t0, .inr (8, [.ref t1, .int ln, .int (u_1956.2.2.2.1 0), .int (u_1956.2.2.2.1 1), .int (u_1956.2.2.2.1 2), .int (u_1956.2.2.2.1 3)])), (t1, .inl (K 0, 400, .inl fb)), (s0, .inr (7, [.ref s1, .ref s2, s_2, .int (u_1964.2.2.2.1 0)])), (s2, .inl (K 0, 800, .inl (u_1964.2.1 0)))] := hD
              obtain ⟨h_1968, k_1965, k_1966, k_1967, -⟩ := hw
              replace hE := (hE.trans (Lt2_in k_1967)).trans (Lt2_in rfl)
              refine lv_istore_n (lv' := [(3, .int r_1963), (2, .int (-1)), (4, .int v_1701), (0, .ref a0), (1, .int d)]) hx hb dX6_test_87 rfl hl (by decide +kernel) rfl (fun ls hl => ?_)
              exact j_1948 r_1963 (-1) (u_1956.2.2.2.1 0) (u_1956.2.2.2.1 1) (u_1956.2.2.2.1 2) (u_1956.2.2.2.1 3) (u_1964.2.2.2.1 0) (u_1964.2.1 0) (by omega) (by decide +kernel) (by omega) (by omega) (by omega) (by omega) k_1966 hE _ _ hP hD hS ls (lv_sub hl [0, 1, 2, 3, 4] rfl)
            · have c_1962i := i_eq (x := r_1955.toInt) (y := 0) rfl rfl c_1962
              replace hE := hE.trans (if_pos c_1962)
              refine lv_iconst (v := 1) hx hb dX6_test_75 (by decide +kernel) ?_
              rw [← hQ]
              have hP9 := hP.sub (ws' := [(a0, .inr (6, [.ref t0, .ref s0, .int lw, .int (u_1893.2.2.2.1 0), r_4])), (t0, .inr (8, [.ref t1, .int ln, .int (u_1956.2.2.2.1 0), .int (u_1956.2.2.2.1 1), .int (u_1956.2.2.2.1 2), .int (u_1956.2.2.2.1 3)])), (t1, .inl (K 0, 400, .inl fb)), (s0, .inr (7, [.ref s1, .ref s2, s_2, .int (u_1893.2.2.2.1 5)])), (s2, .inl (K 0, 800, .inl (u_1952.2.1 0)))]) [2, 3, 4, 0, 1] rfl
              have hD9 := hD.sub (ws' := [(a0, .inr (6, [.ref t0, .ref s0, .int lw, .int (u_1893.2.2.2.1 0), r_4])), (t0, .inr (8, [.ref t1, .int ln, .int (u_1956.2.2.2.1 0), .int (u_1956.2.2.2.1 1), .int (u_1956.2.2.2.1 2), .int (u_1956.2.2.2.1 3)])), (t1, .inl (K 0, 400, .inl fb)), (s0, .inr (7, [.ref s1, .ref s2, s_2, .int (u_1893.2.2.2.1 5)])), (s2, .inl (K 0, 800, .inl (u_1952.2.1 0)))]) [2, 3, 4, 0, 1] (by decide +kernel) rfl
              exact W.zret (v := 1) hx hb hr (by decide +kernel) (fun t ht hW => ⟨⟨1, ((fun _ => 0, fun i => match i with | _ => (u_1952.2.1 0), fun _ => fun _ => 0, fun i => match i with | 0 => (u_1893.2.2.2.1 0) | 1 => (u_1956.2.2.2.1 0) | 2 => (u_1956.2.2.2.1 1) | 3 => (u_1956.2.2.2.1 2) | 4 => (u_1956.2.2.2.1 3) | _ => (u_1893.2.2.2.1 5), fun _ => 0, fun _ => fun _ => none) : Su), rfl, ⟨(show 0 ≤ (1 : Int32).toInt ∧ (1 : Int32).toInt ≤ 1 by decide), (show 0 ≤ ((u_1893.2.2.2.1 0) : Int32).toInt ∧ ((u_1893.2.2.2.1 0) : Int32).toInt ≤ 50 by omega), (show 0 ≤ ((u_1956.2.2.2.1 0) : Int32).toInt ∧ ((u_1956.2.2.2.1 0) : Int32).toInt ≤ 400 by omega), (show 0 ≤ ((u_1956.2.2.2.1 1) : Int32).toInt ∧ ((u_1956.2.2.2.1 1) : Int32).toInt ≤ 400 by omega), (show (-1) ≤ ((u_1956.2.2.2.1 3) : Int32).toInt ∧ ((u_1956.2.2.2.1 3) : Int32).toInt ≤ 1000000 by omega), (show 0 ≤ ((u_1893.2.2.2.1 5) : Int32).toInt ∧ ((u_1893.2.2.2.1 5) : Int32).toInt ≤ 800 by omega), k_1953, hE.symm, trivial⟩, (⟨by rw [ht]; exact hP9, hD9⟩ : Wd D A _ t)⟩, hS.F ht⟩) hS.2.2 dX6_test_76
          · have c_1950i := i_ne (x := r_1907.toInt) (y := 0) rfl rfl c_1950
            replace hE := hE.trans (if_neg c_1950)
            refine lv_aload_n hx hb dX6_test_44 rfl (lv_at hl 3 rfl) ?_
            refine va_get (ci := 6) (v := .ref s0) (C := RX6) (T := TX6) (N := 5) hx hb hts hw6 hown hK hP 2 rfl rfl 1 (by decide +kernel) (hts _ mm_X6_test_232) (fun _ h9 => h9) rfl dX6_test_45 ?_
            refine lv_bipush (v := 13) hx hb dX6_test_48 (by decide +kernel) ?_
            refine lv_iconst (v := 0) hx hb dX6_test_50 (by decide +kernel) ?_
            refine kci (S := Su) (wr := [(a0, .inr (6, [.ref t0, .ref s0, .int lw, .int (u_1893.2.2.2.1 0), r_4])), (t0, .inr (8, [.ref t1, .int ln, .int (u_1908.2.2.2.1 0), .int (u_1908.2.2.2.1 1), .int (u_1908.2.2.2.1 2), .int (u_1908.2.2.2.1 3)])), (t1, .inl (K 0, 400, .inl fb))]) (va_runVN (As := [.int 13, .int 0]) (rest := []) ⟨hx, hb, hml, hown, hts⟩ (w_emit l D K s0 13 0 s1 s2 s_2 (u_1893.2.2.2.1 5) (u_1904.2.1 0) H.size (by first | omega | decide) (by first | omega | decide) (by first | omega | decide) k_1905) ⟨va_cnB 2 hts gX6_test_X7_emit_n95 rfl rfl rfl (nst_at hN 36 rfl) (hts _ mm_X6_test_148) (by decide +kernel) ⟨by show (0) + 1 ≤ f1 + f2 + 7; omega, by show 8 + (3 + 11) + (0) ≤ l1 + l2 + 154; omega⟩, (hts _ mm_X6_test_539), (hts _ mm_X6_test_29)⟩ (mkV hK hN (hP.sub [0, 1] rfl) (hD.sub [0, 1] (by decide +kernel) rfl) (ci := 7) (q0 := 0) rfl rfl) rfl rfl hl.1 rfl (lv_room (Nat.le_of_ble_eq_true rfl)) dX6_test_51 ⟨Nat.le_of_ble_eq_true rfl, Nat.le_of_ble_eq_true rfl⟩) hP hD hS hA [0, 1] [2, 3, 4] rfl rfl (by decide +kernel) (by decide +kernel) (fun r_1969 u_1970 H locs hw hP0 hD0 hS0 => ?_)
            clear hP hD hS
            have hP := hP0
            have hD := hD0
            have hS := hS0
            clear hP0 hD0 hS0
            replace hP : va_P D vwCl [(a0, .inr (6, [.ref t0, .ref s0, .int lw, .int (u_1893.2.2.2.1 0), r_4])), (t0, .inr (8, [.ref t1, .int ln, .int (u_1908.2.2.2.1 0), .int (u_1908.2.2.2.1 1), .int (u_1908.2.2.2.1 2), .int (u_1908.2.2.2.1 3)])), (t1, .inl (K 0, 400, .inl fb)), (s0, .inr (7, [.ref s1, .ref s2, s_2, .int (u_1970.2.2.2.1 0)])), (s2, .inl (K 0, 800, .inl (u_1970.2.1 0)))] H := hP
            replace hD : va_D A [(a0, .inr (6, [.ref t0, .ref s0, .int lw, .int (u_1893.2.2.2.1 0), r_4])), (t0, .inr (8, [.ref t1, .int ln, .int (u_1908.2.2.2.1 0), .int (u_1908.2.2.2.1 1), .int (u_1908.2.2.2.1 2), .int (u_1908.2.2.2.1 3)])), (t1, .inl (K 0, 400, .inl fb)), (s0, .inr (7, [.ref s1, .ref s2, s_2, .int (u_1970.2.2.2.1 0)])), (s2, .inl (K 0, 800, .inl (u_1970.2.1 0)))] := hD
            obtain ⟨h_1974, k_1971, k_1972, k_1973, -⟩ := hw
            replace hE := (hE.trans (Lt2_in k_1973)).trans (Lt2_in rfl)
            refine lv_istore_n (lv' := [(2, .int r_1969), (4, .int v_1701), (3, .int v_1702), (0, .ref a0), (1, .int d)]) hx hb dX6_test_54 rfl hl (by decide +kernel) rfl (fun ls hl => ?_)
            refine lv_goto (tgt := 88) hx hb dX6_test_55 (by decide +kernel) ?_
            exact j_1948 v_1702 r_1969 (u_1908.2.2.2.1 0) (u_1908.2.2.2.1 1) (u_1908.2.2.2.1 2) (u_1908.2.2.2.1 3) (u_1970.2.2.2.1 0) (u_1970.2.1 0) (by omega) (by omega) (by omega) (by omega) (by omega) (by omega) k_1972 hE _ _ hP hD hS ls (lv_sub hl [2, 0, 1, 3, 4] rfl)
        · have c_1902i := i_eq (x := r_1892.toInt) (y := 0) rfl rfl c_1902
          replace hE := hE.trans (if_pos c_1902)
          refine lv_iconst (v := 0) hx hb dX6_test_23 (by decide +kernel) ?_
          rw [← hQ]
          have hP9 := hP.sub (ws' := [(a0, .inr (6, [.ref t0, .ref s0, .int lw, .int (u_1893.2.2.2.1 0), r_4])), (t0, .inr (8, [.ref t1, .int ln, .int (u_1893.2.2.2.1 1), .int (u_1893.2.2.2.1 2), .int (u_1893.2.2.2.1 3), .int (u_1893.2.2.2.1 4)])), (t1, .inl (K 0, 400, .inl fb)), (s0, .inr (7, [.ref s1, .ref s2, s_2, .int (u_1893.2.2.2.1 5)])), (s2, .inl (K 0, 800, .inl (u_1893.2.1 0)))]) [0, 1, 2, 3, 4] rfl
          have hD9 := hD.sub (ws' := [(a0, .inr (6, [.ref t0, .ref s0, .int lw, .int (u_1893.2.2.2.1 0), r_4])), (t0, .inr (8, [.ref t1, .int ln, .int (u_1893.2.2.2.1 1), .int (u_1893.2.2.2.1 2), .int (u_1893.2.2.2.1 3), .int (u_1893.2.2.2.1 4)])), (t1, .inl (K 0, 400, .inl fb)), (s0, .inr (7, [.ref s1, .ref s2, s_2, .int (u_1893.2.2.2.1 5)])), (s2, .inl (K 0, 800, .inl (u_1893.2.1 0)))]) [0, 1, 2, 3, 4] (by decide +kernel) rfl
          exact W.zret (v := 0) hx hb hr (by decide +kernel) (fun t ht hW => ⟨⟨0, ((fun _ => 0, fun i => match i with | _ => (u_1893.2.1 0), fun _ => fun _ => 0, fun i => match i with | 0 => (u_1893.2.2.2.1 0) | 1 => (u_1893.2.2.2.1 1) | 2 => (u_1893.2.2.2.1 2) | 3 => (u_1893.2.2.2.1 3) | 4 => (u_1893.2.2.2.1 4) | _ => (u_1893.2.2.2.1 5), fun _ => 0, fun _ => fun _ => none) : Su), rfl, ⟨(show 0 ≤ (0 : Int32).toInt ∧ (0 : Int32).toInt ≤ 1 by decide), (show 0 ≤ ((u_1893.2.2.2.1 0) : Int32).toInt ∧ ((u_1893.2.2.2.1 0) : Int32).toInt ≤ 50 by omega), (show 0 ≤ ((u_1893.2.2.2.1 1) : Int32).toInt ∧ ((u_1893.2.2.2.1 1) : Int32).toInt ≤ 400 by omega), (show 0 ≤ ((u_1893.2.2.2.1 2) : Int32).toInt ∧ ((u_1893.2.2.2.1 2) : Int32).toInt ≤ 400 by omega), (show (-1) ≤ ((u_1893.2.2.2.1 4) : Int32).toInt ∧ ((u_1893.2.2.2.1 4) : Int32).toInt ≤ 1000000 by omega), (show 0 ≤ ((u_1893.2.2.2.1 5) : Int32).toInt ∧ ((u_1893.2.2.2.1 5) : Int32).toInt ≤ 800 by omega), k_1899, hE.symm, trivial⟩, (⟨by rw [ht]; exact hP9, hD9⟩ : Wd D A _ t)⟩, hS.F ht⟩) hS.2.2 dX6_test_24
  exact lp_1889 ((402 - (0 : Int32).toInt : Int).toNat + 1) 0 (-1) (-1) pa tf tt ti tu us fc (by decide +kernel) (by decide +kernel) (by decide +kernel) (by omega) (by omega) (by omega) (by omega) (by omega) zfc (Nat.lt_succ_self _) hE _ _ hP hD hS ls (lv_sub hl [0, 1, 2, 3, 4] rfl)
