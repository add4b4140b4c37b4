theorem BX6_passed_0 : bsegs (ByteArray.data cX6_passed |>.toList.drop 0) 0 [(0, [42]), (1, [180, 0, 12]), (4, [43]), (5, [182, 0, 67]), (8, [153, 0, 5]), (11, [3]), (12, [172]), (13, [42]), (14, [180, 0, 12]), (17, [182, 0, 47]), (20, [4]), (21, [172])] = true := by decide +kernel
theorem dX6_passed_0 : decode cX6_passed 0 = .ok (.aload_n 0, 1) := dk_42 (bs_at BX6_passed_0 0 rfl)
theorem dX6_passed_1 : decode cX6_passed 1 = .ok (.getfield 12, 3) := dk_180 0 12 (bs_at BX6_passed_0 1 rfl) rfl
theorem dX6_passed_4 : decode cX6_passed 4 = .ok (.aload_n 1, 1) := dk_43 (bs_at BX6_passed_0 2 rfl)
theorem dX6_passed_5 : decode cX6_passed 5 = .ok (.invokevirtual 67, 3) := dk_182 0 67 (bs_at BX6_passed_0 3 rfl) rfl
theorem dX6_passed_8 : decode cX6_passed 8 = .ok (.ifCond .eq 5, 3) := dk_153 0 5 (bs_at BX6_passed_0 4 rfl) rfl
theorem dX6_passed_11 : decode cX6_passed 11 = .ok (.iconst 0, 1) := dk_3 (bs_at BX6_passed_0 5 rfl)
theorem dX6_passed_12 : decode cX6_passed 12 = .ok (.ireturn, 1) := dk_172 (bs_at BX6_passed_0 6 rfl)
theorem dX6_passed_13 : decode cX6_passed 13 = .ok (.aload_n 0, 1) := dk_42 (bs_at BX6_passed_0 7 rfl)
theorem dX6_passed_14 : decode cX6_passed 14 = .ok (.getfield 12, 3) := dk_180 0 12 (bs_at BX6_passed_0 8 rfl) rfl
theorem dX6_passed_17 : decode cX6_passed 17 = .ok (.invokevirtual 47, 3) := dk_182 0 47 (bs_at BX6_passed_0 9 rfl) rfl
theorem dX6_passed_20 : decode cX6_passed 20 = .ok (.iconst 1, 1) := dk_4 (bs_at BX6_passed_0 10 rfl)
theorem dX6_passed_21 : decode cX6_passed 21 = .ok (.ireturn, 1) := dk_172 (bs_at BX6_passed_0 11 rfl)
theorem BX6_operator_0 : bsegs (ByteArray.data cX6_operator |>.toList.drop 0) 0 [(0, [3]), (1, [62]), (2, [29]), (3, [43]), (4, [182, 0, 109]), (7, [162, 0, 35]), (10, [42]), (11, [180, 0, 12]), (14, [180, 0, 54]), (17, [43]), (18, [29]), (19, [182, 0, 114]), (22, [160, 0, 14]), (25, [42]), (26, [180, 0, 12]), (29, [182, 0, 47]), (32, [28]), (33, [29]), (34, [96]), (35, [172]), (36, [132, 3, 1]), (39, [167, 255, 219]), (42, [2]), (43, [172])] = true := by decide +kernel
theorem dX6_operator_0 : decode cX6_operator 0 = .ok (.iconst 0, 1) := dk_3 (bs_at BX6_operator_0 0 rfl)
theorem dX6_operator_1 : decode cX6_operator 1 = .ok (.istore_n 3, 1) := dk_62 (bs_at BX6_operator_0 1 rfl)
theorem dX6_operator_2 : decode cX6_operator 2 = .ok (.iload_n 3, 1) := dk_29 (bs_at BX6_operator_0 2 rfl)
theorem dX6_operator_3 : decode cX6_operator 3 = .ok (.aload_n 1, 1) := dk_43 (bs_at BX6_operator_0 3 rfl)
theorem dX6_operator_4 : decode cX6_operator 4 = .ok (.invokevirtual 109, 3) := dk_182 0 109 (bs_at BX6_operator_0 4 rfl) rfl
theorem dX6_operator_7 : decode cX6_operator 7 = .ok (.if_icmp .ge 35, 3) := dk_162 0 35 (bs_at BX6_operator_0 5 rfl) rfl
theorem dX6_operator_10 : decode cX6_operator 10 = .ok (.aload_n 0, 1) := dk_42 (bs_at BX6_operator_0 6 rfl)
theorem dX6_operator_11 : decode cX6_operator 11 = .ok (.getfield 12, 3) := dk_180 0 12 (bs_at BX6_operator_0 7 rfl) rfl
theorem dX6_operator_14 : decode cX6_operator 14 = .ok (.getfield 54, 3) := dk_180 0 54 (bs_at BX6_operator_0 8 rfl) rfl
theorem dX6_operator_17 : decode cX6_operator 17 = .ok (.aload_n 1, 1) := dk_43 (bs_at BX6_operator_0 9 rfl)
theorem dX6_operator_18 : decode cX6_operator 18 = .ok (.iload_n 3, 1) := dk_29 (bs_at BX6_operator_0 10 rfl)
theorem dX6_operator_19 : decode cX6_operator 19 = .ok (.invokevirtual 114, 3) := dk_182 0 114 (bs_at BX6_operator_0 11 rfl) rfl
theorem dX6_operator_22 : decode cX6_operator 22 = .ok (.if_icmp .ne 14, 3) := dk_160 0 14 (bs_at BX6_operator_0 12 rfl) rfl
theorem dX6_operator_25 : decode cX6_operator 25 = .ok (.aload_n 0, 1) := dk_42 (bs_at BX6_operator_0 13 rfl)
theorem dX6_operator_26 : decode cX6_operator 26 = .ok (.getfield 12, 3) := dk_180 0 12 (bs_at BX6_operator_0 14 rfl) rfl
theorem dX6_operator_29 : decode cX6_operator 29 = .ok (.invokevirtual 47, 3) := dk_182 0 47 (bs_at BX6_operator_0 15 rfl) rfl
theorem dX6_operator_32 : decode cX6_operator 32 = .ok (.iload_n 2, 1) := dk_28 (bs_at BX6_operator_0 16 rfl)
theorem dX6_operator_33 : decode cX6_operator 33 = .ok (.iload_n 3, 1) := dk_29 (bs_at BX6_operator_0 17 rfl)
theorem dX6_operator_34 : decode cX6_operator 34 = .ok (.iadd, 1) := dk_96 (bs_at BX6_operator_0 18 rfl)
theorem dX6_operator_35 : decode cX6_operator 35 = .ok (.ireturn, 1) := dk_172 (bs_at BX6_operator_0 19 rfl)
theorem dX6_operator_36 : decode cX6_operator 36 = .ok (.iinc 3 1, 3) := dk_132 3 1 (bs_at BX6_operator_0 20 rfl) rfl
theorem dX6_operator_39 : decode cX6_operator 39 = .ok (.goto (-37), 3) := dk_167 255 219 (bs_at BX6_operator_0 21 rfl) rfl
theorem dX6_operator_42 : decode cX6_operator 42 = .ok (.iconst (-1), 1) := dk_2 (bs_at BX6_operator_0 22 rfl)
theorem dX6_operator_43 : decode cX6_operator 43 = .ok (.ireturn, 1) := dk_172 (bs_at BX6_operator_0 23 rfl)
theorem BX6_part_0 : bsegs (ByteArray.data cX6_part |>.toList.drop 0) 0 [(0, [42]), (1, [180, 0, 12]), (4, [180, 0, 54]), (7, [16, 91]), (9, [160, 0, 51]), (12, [27]), (13, [16, 8]), (15, [161, 0, 5]), (18, [3]), (19, [172]), (20, [42]), (21, [180, 0, 12]), (24, [182, 0, 47]), (27, [42]), (28, [27]), (29, [4]), (30, [96]), (31, [182, 0, 92]), (34, [153, 0, 15]), (37, [42]), (38, [180, 0, 12]), (41, [180, 0, 54]), (44, [16, 93]), (46, [159, 0, 5])] = true := by decide +kernel
theorem dX6_part_0 : decode cX6_part 0 = .ok (.aload_n 0, 1) := dk_42 (bs_at BX6_part_0 0 rfl)
theorem dX6_part_1 : decode cX6_part 1 = .ok (.getfield 12, 3) := dk_180 0 12 (bs_at BX6_part_0 1 rfl) rfl
theorem dX6_part_4 : decode cX6_part 4 = .ok (.getfield 54, 3) := dk_180 0 54 (bs_at BX6_part_0 2 rfl) rfl
theorem dX6_part_7 : decode cX6_part 7 = .ok (.bipush 91, 2) := dk_16 91 (bs_at BX6_part_0 3 rfl) rfl
theorem dX6_part_9 : decode cX6_part 9 = .ok (.if_icmp .ne 51, 3) := dk_160 0 51 (bs_at BX6_part_0 4 rfl) rfl
theorem dX6_part_12 : decode cX6_part 12 = .ok (.iload_n 1, 1) := dk_27 (bs_at BX6_part_0 5 rfl)
theorem dX6_part_13 : decode cX6_part 13 = .ok (.bipush 8, 2) := dk_16 8 (bs_at BX6_part_0 6 rfl) rfl
theorem dX6_part_15 : decode cX6_part 15 = .ok (.if_icmp .lt 5, 3) := dk_161 0 5 (bs_at BX6_part_0 7 rfl) rfl
theorem dX6_part_18 : decode cX6_part 18 = .ok (.iconst 0, 1) := dk_3 (bs_at BX6_part_0 8 rfl)
theorem dX6_part_19 : decode cX6_part 19 = .ok (.ireturn, 1) := dk_172 (bs_at BX6_part_0 9 rfl)
theorem dX6_part_20 : decode cX6_part 20 = .ok (.aload_n 0, 1) := dk_42 (bs_at BX6_part_0 10 rfl)
theorem dX6_part_21 : decode cX6_part 21 = .ok (.getfield 12, 3) := dk_180 0 12 (bs_at BX6_part_0 11 rfl) rfl
theorem dX6_part_24 : decode cX6_part 24 = .ok (.invokevirtual 47, 3) := dk_182 0 47 (bs_at BX6_part_0 12 rfl) rfl
theorem dX6_part_27 : decode cX6_part 27 = .ok (.aload_n 0, 1) := dk_42 (bs_at BX6_part_0 13 rfl)
theorem dX6_part_28 : decode cX6_part 28 = .ok (.iload_n 1, 1) := dk_27 (bs_at BX6_part_0 14 rfl)
theorem dX6_part_29 : decode cX6_part 29 = .ok (.iconst 1, 1) := dk_4 (bs_at BX6_part_0 15 rfl)
theorem dX6_part_30 : decode cX6_part 30 = .ok (.iadd, 1) := dk_96 (bs_at BX6_part_0 16 rfl)
theorem dX6_part_31 : decode cX6_part 31 = .ok (.invokevirtual 92, 3) := dk_182 0 92 (bs_at BX6_part_0 17 rfl) rfl
theorem dX6_part_34 : decode cX6_part 34 = .ok (.ifCond .eq 15, 3) := dk_153 0 15 (bs_at BX6_part_0 18 rfl) rfl
theorem dX6_part_37 : decode cX6_part 37 = .ok (.aload_n 0, 1) := dk_42 (bs_at BX6_part_0 19 rfl)
theorem dX6_part_38 : decode cX6_part 38 = .ok (.getfield 12, 3) := dk_180 0 12 (bs_at BX6_part_0 20 rfl) rfl
theorem dX6_part_41 : decode cX6_part 41 = .ok (.getfield 54, 3) := dk_180 0 54 (bs_at BX6_part_0 21 rfl) rfl
theorem dX6_part_44 : decode cX6_part 44 = .ok (.bipush 93, 2) := dk_16 93 (bs_at BX6_part_0 22 rfl) rfl
theorem dX6_part_46 : decode cX6_part 46 = .ok (.if_icmp .eq 5, 3) := dk_159 0 5 (bs_at BX6_part_0 23 rfl) rfl
theorem BX6_part_49 : bsegs (ByteArray.data cX6_part |>.toList.drop 49) 49 [(49, [3]), (50, [172]), (51, [42]), (52, [180, 0, 12]), (55, [182, 0, 47]), (58, [4]), (59, [172]), (60, [42]), (61, [180, 0, 31]), (64, [16, 50]), (66, [162, 0, 16]), (69, [42]), (70, [180, 0, 12]), (73, [180, 0, 101]), (76, [17, 3, 232]), (79, [164, 0, 5]), (82, [3]), (83, [172]), (84, [42]), (85, [89]), (86, [180, 0, 31]), (89, [4]), (90, [96]), (91, [181, 0, 31])] = true := by decide +kernel
theorem dX6_part_49 : decode cX6_part 49 = .ok (.iconst 0, 1) := dk_3 (bs_at BX6_part_49 0 rfl)
theorem dX6_part_50 : decode cX6_part 50 = .ok (.ireturn, 1) := dk_172 (bs_at BX6_part_49 1 rfl)
theorem dX6_part_51 : decode cX6_part 51 = .ok (.aload_n 0, 1) := dk_42 (bs_at BX6_part_49 2 rfl)
theorem dX6_part_52 : decode cX6_part 52 = .ok (.getfield 12, 3) := dk_180 0 12 (bs_at BX6_part_49 3 rfl) rfl
theorem dX6_part_55 : decode cX6_part 55 = .ok (.invokevirtual 47, 3) := dk_182 0 47 (bs_at BX6_part_49 4 rfl) rfl
theorem dX6_part_58 : decode cX6_part 58 = .ok (.iconst 1, 1) := dk_4 (bs_at BX6_part_49 5 rfl)
theorem dX6_part_59 : decode cX6_part 59 = .ok (.ireturn, 1) := dk_172 (bs_at BX6_part_49 6 rfl)
theorem dX6_part_60 : decode cX6_part 60 = .ok (.aload_n 0, 1) := dk_42 (bs_at BX6_part_49 7 rfl)
theorem dX6_part_61 : decode cX6_part 61 = .ok (.getfield 31, 3) := dk_180 0 31 (bs_at BX6_part_49 8 rfl) rfl
theorem dX6_part_64 : decode cX6_part 64 = .ok (.bipush 50, 2) := dk_16 50 (bs_at BX6_part_49 9 rfl) rfl
theorem dX6_part_66 : decode cX6_part 66 = .ok (.if_icmp .ge 16, 3) := dk_162 0 16 (bs_at BX6_part_49 10 rfl) rfl
theorem dX6_part_69 : decode cX6_part 69 = .ok (.aload_n 0, 1) := dk_42 (bs_at BX6_part_49 11 rfl)
theorem dX6_part_70 : decode cX6_part 70 = .ok (.getfield 12, 3) := dk_180 0 12 (bs_at BX6_part_49 12 rfl) rfl
theorem dX6_part_73 : decode cX6_part 73 = .ok (.getfield 101, 3) := dk_180 0 101 (bs_at BX6_part_49 13 rfl) rfl
theorem dX6_part_76 : decode cX6_part 76 = .ok (.sipush 1000, 3) := dk_17 3 232 (bs_at BX6_part_49 14 rfl) rfl
theorem dX6_part_79 : decode cX6_part 79 = .ok (.if_icmp .le 5, 3) := dk_164 0 5 (bs_at BX6_part_49 15 rfl) rfl
theorem dX6_part_82 : decode cX6_part 82 = .ok (.iconst 0, 1) := dk_3 (bs_at BX6_part_49 16 rfl)
theorem dX6_part_83 : decode cX6_part 83 = .ok (.ireturn, 1) := dk_172 (bs_at BX6_part_49 17 rfl)
theorem dX6_part_84 : decode cX6_part 84 = .ok (.aload_n 0, 1) := dk_42 (bs_at BX6_part_49 18 rfl)
theorem dX6_part_85 : decode cX6_part 85 = .ok (.dup, 1) := dk_89 (bs_at BX6_part_49 19 rfl)
theorem dX6_part_86 : decode cX6_part 86 = .ok (.getfield 31, 3) := dk_180 0 31 (bs_at BX6_part_49 20 rfl) rfl
theorem dX6_part_89 : decode cX6_part 89 = .ok (.iconst 1, 1) := dk_4 (bs_at BX6_part_49 21 rfl)
theorem dX6_part_90 : decode cX6_part 90 = .ok (.iadd, 1) := dk_96 (bs_at BX6_part_49 22 rfl)
theorem dX6_part_91 : decode cX6_part 91 = .ok (.putfield 31, 3) := dk_181 0 31 (bs_at BX6_part_49 23 rfl) rfl
theorem BX6_part_94 : bsegs (ByteArray.data cX6_part |>.toList.drop 94) 94 [(94, [42]), (95, [180, 0, 12]), (98, [180, 0, 101]), (101, [2]), (102, [159, 0, 28]), (105, [42]), (106, [180, 0, 23]), (109, [4]), (110, [42]), (111, [180, 0, 12]), (114, [180, 0, 101]), (117, [182, 0, 95]), (120, [87]), (121, [42]), (122, [180, 0, 12]), (125, [182, 0, 47]), (128, [4]), (129, [172]), (130, [42]), (131, [180, 0, 12]), (134, [42]), (135, [180, 0, 27]), (138, [153, 0, 8]), (141, [18, 144])] = true := by decide +kernel
theorem dX6_part_94 : decode cX6_part 94 = .ok (.aload_n 0, 1) := dk_42 (bs_at BX6_part_94 0 rfl)
theorem dX6_part_95 : decode cX6_part 95 = .ok (.getfield 12, 3) := dk_180 0 12 (bs_at BX6_part_94 1 rfl) rfl
theorem dX6_part_98 : decode cX6_part 98 = .ok (.getfield 101, 3) := dk_180 0 101 (bs_at BX6_part_94 2 rfl) rfl
theorem dX6_part_101 : decode cX6_part 101 = .ok (.iconst (-1), 1) := dk_2 (bs_at BX6_part_94 3 rfl)
theorem dX6_part_102 : decode cX6_part 102 = .ok (.if_icmp .eq 28, 3) := dk_159 0 28 (bs_at BX6_part_94 4 rfl) rfl
theorem dX6_part_105 : decode cX6_part 105 = .ok (.aload_n 0, 1) := dk_42 (bs_at BX6_part_94 5 rfl)
theorem dX6_part_106 : decode cX6_part 106 = .ok (.getfield 23, 3) := dk_180 0 23 (bs_at BX6_part_94 6 rfl) rfl
theorem dX6_part_109 : decode cX6_part 109 = .ok (.iconst 1, 1) := dk_4 (bs_at BX6_part_94 7 rfl)
theorem dX6_part_110 : decode cX6_part 110 = .ok (.aload_n 0, 1) := dk_42 (bs_at BX6_part_94 8 rfl)
theorem dX6_part_111 : decode cX6_part 111 = .ok (.getfield 12, 3) := dk_180 0 12 (bs_at BX6_part_94 9 rfl) rfl
theorem dX6_part_114 : decode cX6_part 114 = .ok (.getfield 101, 3) := dk_180 0 101 (bs_at BX6_part_94 10 rfl) rfl
theorem dX6_part_117 : decode cX6_part 117 = .ok (.invokevirtual 95, 3) := dk_182 0 95 (bs_at BX6_part_94 11 rfl) rfl
theorem dX6_part_120 : decode cX6_part 120 = .ok (.pop, 1) := dk_87 (bs_at BX6_part_94 12 rfl)
theorem dX6_part_121 : decode cX6_part 121 = .ok (.aload_n 0, 1) := dk_42 (bs_at BX6_part_94 13 rfl)
theorem dX6_part_122 : decode cX6_part 122 = .ok (.getfield 12, 3) := dk_180 0 12 (bs_at BX6_part_94 14 rfl) rfl
theorem dX6_part_125 : decode cX6_part 125 = .ok (.invokevirtual 47, 3) := dk_182 0 47 (bs_at BX6_part_94 15 rfl) rfl
theorem dX6_part_128 : decode cX6_part 128 = .ok (.iconst 1, 1) := dk_4 (bs_at BX6_part_94 16 rfl)
theorem dX6_part_129 : decode cX6_part 129 = .ok (.ireturn, 1) := dk_172 (bs_at BX6_part_94 17 rfl)
theorem dX6_part_130 : decode cX6_part 130 = .ok (.aload_n 0, 1) := dk_42 (bs_at BX6_part_94 18 rfl)
theorem dX6_part_131 : decode cX6_part 131 = .ok (.getfield 12, 3) := dk_180 0 12 (bs_at BX6_part_94 19 rfl) rfl
theorem dX6_part_134 : decode cX6_part 134 = .ok (.aload_n 0, 1) := dk_42 (bs_at BX6_part_94 20 rfl)
theorem dX6_part_135 : decode cX6_part 135 = .ok (.getfield 27, 3) := dk_180 0 27 (bs_at BX6_part_94 21 rfl) rfl
theorem dX6_part_138 : decode cX6_part 138 = .ok (.ifCond .eq 8, 3) := dk_153 0 8 (bs_at BX6_part_94 22 rfl) rfl
theorem dX6_part_141 : decode cX6_part 141 = .ok (.ldc 144, 2) := dk_18 144 (bs_at BX6_part_94 23 rfl)
theorem BX6_part_143 : bsegs (ByteArray.data cX6_part |>.toList.drop 143) 143 [(143, [167, 0, 5]), (146, [18, 146]), (148, [182, 0, 67]), (151, [61]), (152, [28]), (153, [2]), (154, [160, 0, 5]), (157, [3]), (158, [172]), (159, [42]), (160, [180, 0, 12]), (163, [182, 0, 47]), (166, [42]), (167, [180, 0, 27]), (170, [153, 0, 7]), (173, [2]), (174, [167, 0, 6]), (177, [28]), (178, [8]), (179, [100]), (180, [62]), (181, [29]), (182, [155, 0, 59]), (185, [29])] = true := by decide +kernel
theorem dX6_part_143 : decode cX6_part 143 = .ok (.goto 5, 3) := dk_167 0 5 (bs_at BX6_part_143 0 rfl) rfl
theorem dX6_part_146 : decode cX6_part 146 = .ok (.ldc 146, 2) := dk_18 146 (bs_at BX6_part_143 1 rfl)
theorem dX6_part_148 : decode cX6_part 148 = .ok (.invokevirtual 67, 3) := dk_182 0 67 (bs_at BX6_part_143 2 rfl) rfl
theorem dX6_part_151 : decode cX6_part 151 = .ok (.istore_n 2, 1) := dk_61 (bs_at BX6_part_143 3 rfl)
theorem dX6_part_152 : decode cX6_part 152 = .ok (.iload_n 2, 1) := dk_28 (bs_at BX6_part_143 4 rfl)
theorem dX6_part_153 : decode cX6_part 153 = .ok (.iconst (-1), 1) := dk_2 (bs_at BX6_part_143 5 rfl)
theorem dX6_part_154 : decode cX6_part 154 = .ok (.if_icmp .ne 5, 3) := dk_160 0 5 (bs_at BX6_part_143 6 rfl) rfl
theorem dX6_part_157 : decode cX6_part 157 = .ok (.iconst 0, 1) := dk_3 (bs_at BX6_part_143 7 rfl)
theorem dX6_part_158 : decode cX6_part 158 = .ok (.ireturn, 1) := dk_172 (bs_at BX6_part_143 8 rfl)
theorem dX6_part_159 : decode cX6_part 159 = .ok (.aload_n 0, 1) := dk_42 (bs_at BX6_part_143 9 rfl)
theorem dX6_part_160 : decode cX6_part 160 = .ok (.getfield 12, 3) := dk_180 0 12 (bs_at BX6_part_143 10 rfl) rfl
theorem dX6_part_163 : decode cX6_part 163 = .ok (.invokevirtual 47, 3) := dk_182 0 47 (bs_at BX6_part_143 11 rfl) rfl
theorem dX6_part_166 : decode cX6_part 166 = .ok (.aload_n 0, 1) := dk_42 (bs_at BX6_part_143 12 rfl)
theorem dX6_part_167 : decode cX6_part 167 = .ok (.getfield 27, 3) := dk_180 0 27 (bs_at BX6_part_143 13 rfl) rfl
theorem dX6_part_170 : decode cX6_part 170 = .ok (.ifCond .eq 7, 3) := dk_153 0 7 (bs_at BX6_part_143 14 rfl) rfl
theorem dX6_part_173 : decode cX6_part 173 = .ok (.iconst (-1), 1) := dk_2 (bs_at BX6_part_143 15 rfl)
theorem dX6_part_174 : decode cX6_part 174 = .ok (.goto 6, 3) := dk_167 0 6 (bs_at BX6_part_143 16 rfl) rfl
theorem dX6_part_177 : decode cX6_part 177 = .ok (.iload_n 2, 1) := dk_28 (bs_at BX6_part_143 17 rfl)
theorem dX6_part_178 : decode cX6_part 178 = .ok (.iconst 5, 1) := dk_8 (bs_at BX6_part_143 18 rfl)
theorem dX6_part_179 : decode cX6_part 179 = .ok (.isub, 1) := dk_100 (bs_at BX6_part_143 19 rfl)
theorem dX6_part_180 : decode cX6_part 180 = .ok (.istore_n 3, 1) := dk_62 (bs_at BX6_part_143 20 rfl)
theorem dX6_part_181 : decode cX6_part 181 = .ok (.iload_n 3, 1) := dk_29 (bs_at BX6_part_143 21 rfl)
theorem dX6_part_182 : decode cX6_part 182 = .ok (.ifCond .lt 59, 3) := dk_155 0 59 (bs_at BX6_part_143 22 rfl) rfl
theorem dX6_part_185 : decode cX6_part 185 = .ok (.iload_n 3, 1) := dk_29 (bs_at BX6_part_143 23 rfl)
theorem BX6_part_186 : bsegs (ByteArray.data cX6_part |>.toList.drop 186) 186 [(186, [178, 0, 150]), (189, [190]), (190, [162, 0, 51]), (193, [42]), (194, [180, 0, 12]), (197, [180, 0, 101]), (200, [155, 0, 18]), (203, [42]), (204, [180, 0, 12]), (207, [180, 0, 101]), (210, [178, 0, 153]), (213, [29]), (214, [46]), (215, [164, 0, 5]), (218, [3]), (219, [172]), (220, [178, 0, 150]), (223, [29]), (224, [46]), (225, [42]), (226, [180, 0, 12]), (229, [180, 0, 101]), (232, [96]), (233, [61])] = true := by decide +kernel
theorem dX6_part_186 : decode cX6_part 186 = .ok (.getstatic 150, 3) := dk_178 0 150 (bs_at BX6_part_186 0 rfl) rfl
theorem dX6_part_189 : decode cX6_part 189 = .ok (.arraylength, 1) := dk_190 (bs_at BX6_part_186 1 rfl)
theorem dX6_part_190 : decode cX6_part 190 = .ok (.if_icmp .ge 51, 3) := dk_162 0 51 (bs_at BX6_part_186 2 rfl) rfl
theorem dX6_part_193 : decode cX6_part 193 = .ok (.aload_n 0, 1) := dk_42 (bs_at BX6_part_186 3 rfl)
theorem dX6_part_194 : decode cX6_part 194 = .ok (.getfield 12, 3) := dk_180 0 12 (bs_at BX6_part_186 4 rfl) rfl
theorem dX6_part_197 : decode cX6_part 197 = .ok (.getfield 101, 3) := dk_180 0 101 (bs_at BX6_part_186 5 rfl) rfl
theorem dX6_part_200 : decode cX6_part 200 = .ok (.ifCond .lt 18, 3) := dk_155 0 18 (bs_at BX6_part_186 6 rfl) rfl
theorem dX6_part_203 : decode cX6_part 203 = .ok (.aload_n 0, 1) := dk_42 (bs_at BX6_part_186 7 rfl)
theorem dX6_part_204 : decode cX6_part 204 = .ok (.getfield 12, 3) := dk_180 0 12 (bs_at BX6_part_186 8 rfl) rfl
theorem dX6_part_207 : decode cX6_part 207 = .ok (.getfield 101, 3) := dk_180 0 101 (bs_at BX6_part_186 9 rfl) rfl
theorem dX6_part_210 : decode cX6_part 210 = .ok (.getstatic 153, 3) := dk_178 0 153 (bs_at BX6_part_186 10 rfl) rfl
theorem dX6_part_213 : decode cX6_part 213 = .ok (.iload_n 3, 1) := dk_29 (bs_at BX6_part_186 11 rfl)
theorem dX6_part_214 : decode cX6_part 214 = .ok (.iaload, 1) := dk_46 (bs_at BX6_part_186 12 rfl)
theorem dX6_part_215 : decode cX6_part 215 = .ok (.if_icmp .le 5, 3) := dk_164 0 5 (bs_at BX6_part_186 13 rfl) rfl
theorem dX6_part_218 : decode cX6_part 218 = .ok (.iconst 0, 1) := dk_3 (bs_at BX6_part_186 14 rfl)
theorem dX6_part_219 : decode cX6_part 219 = .ok (.ireturn, 1) := dk_172 (bs_at BX6_part_186 15 rfl)
theorem dX6_part_220 : decode cX6_part 220 = .ok (.getstatic 150, 3) := dk_178 0 150 (bs_at BX6_part_186 16 rfl) rfl
theorem dX6_part_223 : decode cX6_part 223 = .ok (.iload_n 3, 1) := dk_29 (bs_at BX6_part_186 17 rfl)
theorem dX6_part_224 : decode cX6_part 224 = .ok (.iaload, 1) := dk_46 (bs_at BX6_part_186 18 rfl)
theorem dX6_part_225 : decode cX6_part 225 = .ok (.aload_n 0, 1) := dk_42 (bs_at BX6_part_186 19 rfl)
theorem dX6_part_226 : decode cX6_part 226 = .ok (.getfield 12, 3) := dk_180 0 12 (bs_at BX6_part_186 20 rfl) rfl
theorem dX6_part_229 : decode cX6_part 229 = .ok (.getfield 101, 3) := dk_180 0 101 (bs_at BX6_part_186 21 rfl) rfl
theorem dX6_part_232 : decode cX6_part 232 = .ok (.iadd, 1) := dk_96 (bs_at BX6_part_186 22 rfl)
theorem dX6_part_233 : decode cX6_part 233 = .ok (.istore_n 2, 1) := dk_61 (bs_at BX6_part_186 23 rfl)
theorem BX6_part_234 : bsegs (ByteArray.data cX6_part |>.toList.drop 234) 234 [(234, [42]), (235, [180, 0, 12]), (238, [182, 0, 47]), (241, [42]), (242, [180, 0, 23]), (245, [5]), (246, [28]), (247, [182, 0, 95]), (250, [87]), (251, [4]), (252, [172])] = true := by decide +kernel
theorem dX6_part_234 : decode cX6_part 234 = .ok (.aload_n 0, 1) := dk_42 (bs_at BX6_part_234 0 rfl)
theorem dX6_part_235 : decode cX6_part 235 = .ok (.getfield 12, 3) := dk_180 0 12 (bs_at BX6_part_234 1 rfl) rfl
theorem dX6_part_238 : decode cX6_part 238 = .ok (.invokevirtual 47, 3) := dk_182 0 47 (bs_at BX6_part_234 2 rfl) rfl
theorem dX6_part_241 : decode cX6_part 241 = .ok (.aload_n 0, 1) := dk_42 (bs_at BX6_part_234 3 rfl)
theorem dX6_part_242 : decode cX6_part 242 = .ok (.getfield 23, 3) := dk_180 0 23 (bs_at BX6_part_234 4 rfl) rfl
theorem dX6_part_245 : decode cX6_part 245 = .ok (.iconst 2, 1) := dk_5 (bs_at BX6_part_234 5 rfl)
theorem dX6_part_246 : decode cX6_part 246 = .ok (.iload_n 2, 1) := dk_28 (bs_at BX6_part_234 6 rfl)
theorem dX6_part_247 : decode cX6_part 247 = .ok (.invokevirtual 95, 3) := dk_182 0 95 (bs_at BX6_part_234 7 rfl) rfl
theorem dX6_part_250 : decode cX6_part 250 = .ok (.pop, 1) := dk_87 (bs_at BX6_part_234 8 rfl)
theorem dX6_part_251 : decode cX6_part 251 = .ok (.iconst 1, 1) := dk_4 (bs_at BX6_part_234 9 rfl)
theorem dX6_part_252 : decode cX6_part 252 = .ok (.ireturn, 1) := dk_172 (bs_at BX6_part_234 10 rfl)
theorem BX6_sum_0 : bsegs (ByteArray.data cX6_sum |>.toList.drop 0) 0 [(0, [2]), (1, [61]), (2, [2]), (3, [62]), (4, [3]), (5, [54, 4]), (7, [21, 4]), (9, [17, 1, 144]), (12, [163, 0, 80]), (15, [42]), (16, [27]), (17, [182, 0, 137]), (20, [154, 0, 5]), (23, [3]), (24, [172]), (25, [28]), (26, [2]), (27, [159, 0, 13]), (30, [42]), (31, [180, 0, 23]), (34, [28]), (35, [3]), (36, [182, 0, 95]), (39, [87])] = true := by decide +kernel
theorem dX6_sum_0 : decode cX6_sum 0 = .ok (.iconst (-1), 1) := dk_2 (bs_at BX6_sum_0 0 rfl)
theorem dX6_sum_1 : decode cX6_sum 1 = .ok (.istore_n 2, 1) := dk_61 (bs_at BX6_sum_0 1 rfl)
theorem dX6_sum_2 : decode cX6_sum 2 = .ok (.iconst (-1), 1) := dk_2 (bs_at BX6_sum_0 2 rfl)
theorem dX6_sum_3 : decode cX6_sum 3 = .ok (.istore_n 3, 1) := dk_62 (bs_at BX6_sum_0 3 rfl)
theorem dX6_sum_4 : decode cX6_sum 4 = .ok (.iconst 0, 1) := dk_3 (bs_at BX6_sum_0 4 rfl)
theorem dX6_sum_5 : decode cX6_sum 5 = .ok (.istore 4, 2) := dk_54 4 (bs_at BX6_sum_0 5 rfl)
theorem dX6_sum_7 : decode cX6_sum 7 = .ok (.iload 4, 2) := dk_21 4 (bs_at BX6_sum_0 6 rfl)
theorem dX6_sum_9 : decode cX6_sum 9 = .ok (.sipush 400, 3) := dk_17 1 144 (bs_at BX6_sum_0 7 rfl) rfl
theorem dX6_sum_12 : decode cX6_sum 12 = .ok (.if_icmp .gt 80, 3) := dk_163 0 80 (bs_at BX6_sum_0 8 rfl) rfl
theorem dX6_sum_15 : decode cX6_sum 15 = .ok (.aload_n 0, 1) := dk_42 (bs_at BX6_sum_0 9 rfl)
theorem dX6_sum_16 : decode cX6_sum 16 = .ok (.iload_n 1, 1) := dk_27 (bs_at BX6_sum_0 10 rfl)
theorem dX6_sum_17 : decode cX6_sum 17 = .ok (.invokevirtual 137, 3) := dk_182 0 137 (bs_at BX6_sum_0 11 rfl) rfl
theorem dX6_sum_20 : decode cX6_sum 20 = .ok (.ifCond .ne 5, 3) := dk_154 0 5 (bs_at BX6_sum_0 12 rfl) rfl
theorem dX6_sum_23 : decode cX6_sum 23 = .ok (.iconst 0, 1) := dk_3 (bs_at BX6_sum_0 13 rfl)
theorem dX6_sum_24 : decode cX6_sum 24 = .ok (.ireturn, 1) := dk_172 (bs_at BX6_sum_0 14 rfl)
theorem dX6_sum_25 : decode cX6_sum 25 = .ok (.iload_n 2, 1) := dk_28 (bs_at BX6_sum_0 15 rfl)
theorem dX6_sum_26 : decode cX6_sum 26 = .ok (.iconst (-1), 1) := dk_2 (bs_at BX6_sum_0 16 rfl)
theorem dX6_sum_27 : decode cX6_sum 27 = .ok (.if_icmp .eq 13, 3) := dk_159 0 13 (bs_at BX6_sum_0 17 rfl) rfl
theorem dX6_sum_30 : decode cX6_sum 30 = .ok (.aload_n 0, 1) := dk_42 (bs_at BX6_sum_0 18 rfl)
theorem dX6_sum_31 : decode cX6_sum 31 = .ok (.getfield 23, 3) := dk_180 0 23 (bs_at BX6_sum_0 19 rfl) rfl
theorem dX6_sum_34 : decode cX6_sum 34 = .ok (.iload_n 2, 1) := dk_28 (bs_at BX6_sum_0 20 rfl)
theorem dX6_sum_35 : decode cX6_sum 35 = .ok (.iconst 0, 1) := dk_3 (bs_at BX6_sum_0 21 rfl)
theorem dX6_sum_36 : decode cX6_sum 36 = .ok (.invokevirtual 95, 3) := dk_182 0 95 (bs_at BX6_sum_0 22 rfl) rfl
theorem dX6_sum_39 : decode cX6_sum 39 = .ok (.pop, 1) := dk_87 (bs_at BX6_sum_0 23 rfl)
theorem BX6_sum_40 : bsegs (ByteArray.data cX6_sum |>.toList.drop 40) 40 [(40, [42]), (41, [18, 140]), (43, [8]), (44, [182, 0, 133]), (47, [61]), (48, [28]), (49, [2]), (50, [159, 0, 6]), (53, [167, 0, 33]), (56, [29]), (57, [2]), (58, [159, 0, 13]), (61, [42]), (62, [180, 0, 23]), (65, [29]), (66, [3]), (67, [182, 0, 95]), (70, [87]), (71, [42]), (72, [18, 142]), (74, [6]), (75, [182, 0, 133]), (78, [62]), (79, [29])] = true := by decide +kernel
theorem dX6_sum_40 : decode cX6_sum 40 = .ok (.aload_n 0, 1) := dk_42 (bs_at BX6_sum_40 0 rfl)
theorem dX6_sum_41 : decode cX6_sum 41 = .ok (.ldc 140, 2) := dk_18 140 (bs_at BX6_sum_40 1 rfl)
theorem dX6_sum_43 : decode cX6_sum 43 = .ok (.iconst 5, 1) := dk_8 (bs_at BX6_sum_40 2 rfl)
theorem dX6_sum_44 : decode cX6_sum 44 = .ok (.invokevirtual 133, 3) := dk_182 0 133 (bs_at BX6_sum_40 3 rfl) rfl
theorem dX6_sum_47 : decode cX6_sum 47 = .ok (.istore_n 2, 1) := dk_61 (bs_at BX6_sum_40 4 rfl)
theorem dX6_sum_48 : decode cX6_sum 48 = .ok (.iload_n 2, 1) := dk_28 (bs_at BX6_sum_40 5 rfl)
theorem dX6_sum_49 : decode cX6_sum 49 = .ok (.iconst (-1), 1) := dk_2 (bs_at BX6_sum_40 6 rfl)
theorem dX6_sum_50 : decode cX6_sum 50 = .ok (.if_icmp .eq 6, 3) := dk_159 0 6 (bs_at BX6_sum_40 7 rfl) rfl
theorem dX6_sum_53 : decode cX6_sum 53 = .ok (.goto 33, 3) := dk_167 0 33 (bs_at BX6_sum_40 8 rfl) rfl
theorem dX6_sum_56 : decode cX6_sum 56 = .ok (.iload_n 3, 1) := dk_29 (bs_at BX6_sum_40 9 rfl)
theorem dX6_sum_57 : decode cX6_sum 57 = .ok (.iconst (-1), 1) := dk_2 (bs_at BX6_sum_40 10 rfl)
theorem dX6_sum_58 : decode cX6_sum 58 = .ok (.if_icmp .eq 13, 3) := dk_159 0 13 (bs_at BX6_sum_40 11 rfl) rfl
theorem dX6_sum_61 : decode cX6_sum 61 = .ok (.aload_n 0, 1) := dk_42 (bs_at BX6_sum_40 12 rfl)
theorem dX6_sum_62 : decode cX6_sum 62 = .ok (.getfield 23, 3) := dk_180 0 23 (bs_at BX6_sum_40 13 rfl) rfl
theorem dX6_sum_65 : decode cX6_sum 65 = .ok (.iload_n 3, 1) := dk_29 (bs_at BX6_sum_40 14 rfl)
theorem dX6_sum_66 : decode cX6_sum 66 = .ok (.iconst 0, 1) := dk_3 (bs_at BX6_sum_40 15 rfl)
theorem dX6_sum_67 : decode cX6_sum 67 = .ok (.invokevirtual 95, 3) := dk_182 0 95 (bs_at BX6_sum_40 16 rfl) rfl
theorem dX6_sum_70 : decode cX6_sum 70 = .ok (.pop, 1) := dk_87 (bs_at BX6_sum_40 17 rfl)
theorem dX6_sum_71 : decode cX6_sum 71 = .ok (.aload_n 0, 1) := dk_42 (bs_at BX6_sum_40 18 rfl)
theorem dX6_sum_72 : decode cX6_sum 72 = .ok (.ldc 142, 2) := dk_18 142 (bs_at BX6_sum_40 19 rfl)
theorem dX6_sum_74 : decode cX6_sum 74 = .ok (.iconst 3, 1) := dk_6 (bs_at BX6_sum_40 20 rfl)
theorem dX6_sum_75 : decode cX6_sum 75 = .ok (.invokevirtual 133, 3) := dk_182 0 133 (bs_at BX6_sum_40 21 rfl) rfl
theorem dX6_sum_78 : decode cX6_sum 78 = .ok (.istore_n 3, 1) := dk_62 (bs_at BX6_sum_40 22 rfl)
theorem dX6_sum_79 : decode cX6_sum 79 = .ok (.iload_n 3, 1) := dk_29 (bs_at BX6_sum_40 23 rfl)
theorem BX6_sum_80 : bsegs (ByteArray.data cX6_sum |>.toList.drop 80) 80 [(80, [2]), (81, [160, 0, 5]), (84, [4]), (85, [172]), (86, [132, 4, 1]), (89, [167, 255, 174]), (92, [3]), (93, [172])] = true := by decide +kernel
theorem dX6_sum_80 : decode cX6_sum 80 = .ok (.iconst (-1), 1) := dk_2 (bs_at BX6_sum_80 0 rfl)
theorem dX6_sum_81 : decode cX6_sum 81 = .ok (.if_icmp .ne 5, 3) := dk_160 0 5 (bs_at BX6_sum_80 1 rfl) rfl
theorem dX6_sum_84 : decode cX6_sum 84 = .ok (.iconst 1, 1) := dk_4 (bs_at BX6_sum_80 2 rfl)
theorem dX6_sum_85 : decode cX6_sum 85 = .ok (.ireturn, 1) := dk_172 (bs_at BX6_sum_80 3 rfl)
theorem dX6_sum_86 : decode cX6_sum 86 = .ok (.iinc 4 1, 3) := dk_132 4 1 (bs_at BX6_sum_80 4 rfl) rfl
theorem dX6_sum_89 : decode cX6_sum 89 = .ok (.goto (-82), 3) := dk_167 255 174 (bs_at BX6_sum_80 5 rfl) rfl
theorem dX6_sum_92 : decode cX6_sum 92 = .ok (.iconst 0, 1) := dk_3 (bs_at BX6_sum_80 6 rfl)
theorem dX6_sum_93 : decode cX6_sum 93 = .ok (.ireturn, 1) := dk_172 (bs_at BX6_sum_80 7 rfl)
theorem ggX6_passed_X8_find : GoodIn wsX6_passed wsX8_find := gi_ch ch_X6_passed ch_X8_find (by decide +kernel)
set_option maxRecDepth 20000 in
theorem gX6_passed_X8_find_n67 : GoodIn wsX6_passed (wsX8_find) := ggX6_passed_X8_find
theorem ggX6_passed_X8_step : GoodIn wsX6_passed wsX8_step := gi_ch ch_X6_passed ch_X8_step (by decide +kernel)
set_option maxRecDepth 20000 in
theorem gX6_passed_X8_step_n47 : GoodIn wsX6_passed (wsX8_step) := ggX6_passed_X8_step
theorem ggX6_operator_J0_length_8abf5 : GoodIn wsX6_operator wsJ0_length_8abf5 := gi_ch ch_X6_operator ch_J0_length_8abf5 (by decide +kernel)
theorem gX6_operator_J0_length_8abf5 : GoodIn wsX6_operator (wsV RX6 109 RJ0 yJ0_length_8abf5 wsJ0_length_8abf5) := gi_ch ch_X6_operator (ch_v [546, 481, 482, 158] rfl ch_J0_length_8abf5) (by decide +kernel)
theorem ggX6_operator_J0_charAt_5068e : GoodIn wsX6_operator wsJ0_charAt_5068e := gi_ch ch_X6_operator ch_J0_charAt_5068e (by decide +kernel)
theorem gX6_operator_J0_charAt_5068e : GoodIn wsX6_operator (wsV RX6 114 RJ0 yJ0_charAt_5068e wsJ0_charAt_5068e) := gi_ch ch_X6_operator (ch_v [547, 490, 491, 158] rfl ch_J0_charAt_5068e) (by decide +kernel)
theorem ggX6_operator_X8_step : GoodIn wsX6_operator wsX8_step := gi_ch ch_X6_operator ch_X8_step (by decide +kernel)
set_option maxRecDepth 20000 in
theorem gX6_operator_X8_step_n47 : GoodIn wsX6_operator (wsX8_step) := ggX6_operator_X8_step
theorem ggX6_part_X7_emit : GoodIn wsX6_part wsX7_emit := gi_ch ch_X6_part ch_X7_emit (by decide +kernel)
set_option maxRecDepth 20000 in
theorem gX6_part_X7_emit_n95 : GoodIn wsX6_part (wsX7_emit) := ggX6_part_X7_emit
theorem ggX6_part_X8_find : GoodIn wsX6_part wsX8_find := gi_ch ch_X6_part ch_X8_find (by decide +kernel)
set_option maxRecDepth 20000 in
theorem gX6_part_X8_find_n67 : GoodIn wsX6_part (wsX8_find) := ggX6_part_X8_find
theorem ggX6_part_X8_step : GoodIn wsX6_part wsX8_step := gi_ch ch_X6_part ch_X8_step (by decide +kernel)
set_option maxRecDepth 20000 in
theorem gX6_part_X8_step_n47 : GoodIn wsX6_part (wsX8_step) := ggX6_part_X8_step
theorem ggX6_part_X6_sum : GoodIn wsX6_part wsX6_sum := gi_ch ch_X6_part ch_X6_sum (by decide +kernel)
theorem gX6_part_X6_sum : GoodIn wsX6_part (wsV RX6 92 RX6 yX6_sum wsX6_sum) := gi_ch ch_X6_part (ch_v [533, 534, 27, 146] rfl ch_X6_sum) (by decide +kernel)
theorem ggX6_sum_X6_part : GoodIn wsX6_sum wsX6_part := gi_ch ch_X6_sum ch_X6_part (by decide +kernel)
theorem gX6_sum_X6_part : GoodIn wsX6_sum (wsV RX6 137 RX6 yX6_part wsX6_part) := gi_ch ch_X6_sum (ch_v [536, 537, 28, 146] rfl ch_X6_part) (by decide +kernel)
theorem ggX6_sum_X6_operator : GoodIn wsX6_sum wsX6_operator := gi_ch ch_X6_sum ch_X6_operator (by decide +kernel)
theorem gX6_sum_X6_operator : GoodIn wsX6_sum (wsV RX6 133 RX6 yX6_operator wsX6_operator) := gi_ch ch_X6_sum (ch_v [543, 544, 30, 146] rfl ch_X6_operator) (by decide +kernel)
theorem ggX6_sum_X7_emit : GoodIn wsX6_sum wsX7_emit := gi_ch ch_X6_sum ch_X7_emit (by decide +kernel)
set_option maxRecDepth 20000 in
theorem gX6_sum_X7_emit_n95 : GoodIn wsX6_sum (wsX7_emit) := ggX6_sum_X7_emit
set_option maxRecDepth 100000 in
noncomputable def E_w_passed (k : Nat) (lw : Int32) (pa : Int32) (ln : Int32) (tf : Int32) (tt : Int32) (ti : Int32) (tu : Int32) (fb : Nat → Int32) : Int32 × Int32 × Int32 × Int32 × Int32 :=
  Lt (E_w_find k ln tf tt ti tu fb) (fun r_81 => if r_81 = 0 then (Lt2 (E_w_step ln tf tt ti tu fb) (fun u_86_2_2_2_1_0 q0_u_86_2_2_2_1_0 => Lt2 q0_u_86_2_2_2_1_0 (fun u_86_2_2_2_1_1 q1_u_86_2_2_2_1_1 => Lt2 q1_u_86_2_2_2_1_1 (fun u_86_2_2_2_1_2 u_86_2_2_2_1_3 => ((1, u_86_2_2_2_1_0, u_86_2_2_2_1_1, u_86_2_2_2_1_2, u_86_2_2_2_1_3) : Int32 × Int32 × Int32 × Int32 × Int32))))) else (((0, tf, tt, ti, tu) : Int32 × Int32 × Int32 × Int32 × Int32)))
set_option maxHeartbeats 4000000 in
set_option maxRecDepth 100000 in
theorem w_passed (l : Launch) (D : va_G) (K : Nat → ClassId) (g : Nat → Nat) (L : Nat → Prop) (G : Nat → LC) (k : Nat) (a0 : Nat) (t0 : Nat) (s0 : Nat) (lw : Int32) (pa : Int32) (r_4 : Value) (t1 : Nat) (ln : Int32) (tf : Int32) (tt : Int32) (ti : Int32) (tu : Int32) (fb : Nat → Int32) (sz : Nat) (hk : k < 13) (zln : 0 ≤ ln.toInt ∧ ln.toInt ≤ 400) (ztf : 0 ≤ tf.toInt ∧ tf.toInt ≤ 400) (ztt : 0 ≤ tt.toInt ∧ tt.toInt ≤ 400) (ztu : (-1) ≤ tu.toInt ∧ tu.toInt ≤ 1000000) (zlw : 0 ≤ lw.toInt ∧ lw.toInt ≤ 1) (zpa : 0 ≤ pa.toInt ∧ pa.toInt ≤ 50) : Met l yX6_passed wsX6_passed ({ frames := 5, cells := 0, slots := 0, locals := 110 }) (va_Pc [.ref a0, .ref (g (8 + 2 * k))] (PreY D K [(a0, .inr (6, [.ref t0, .ref s0, .int lw, .int pa, r_4])), (t0, .inr (8, [.ref t1, .int ln, .int tf, .int tt, .int ti, .int tu])), (t1, .inl (K 0, 400, .inl fb))] [] sz g L G (va_A [(a0, .inr (6, [.ref t0, .ref s0, .int lw, .int pa, r_4])), (t0, .inr (8, [.ref t1, .int ln, .int tf, .int tt, .int ti, .int tu])), (t1, .inl (K 0, 400, .inl fb))] sz))) (va_Qi (S := Su) (fun (r : Int32) (u : Su) => (0 ≤ r.toInt ∧ r.toInt ≤ 1) ∧ (0 ≤ (u.2.2.2.1 0).toInt ∧ (u.2.2.2.1 0).toInt ≤ 400) ∧ (0 ≤ (u.2.2.2.1 1).toInt ∧ (u.2.2.2.1 1).toInt ≤ 400) ∧ ((-1) ≤ (u.2.2.2.1 3).toInt ∧ (u.2.2.2.1 3).toInt ≤ 1000000) ∧ ((r, (u.2.2.2.1 0), (u.2.2.2.1 1), (u.2.2.2.1 2), (u.2.2.2.1 3)) = E_w_passed k lw pa ln tf tt ti tu fb) ∧ True) (fun u t => Wd D (va_A [(a0, .inr (6, [.ref t0, .ref s0, .int lw, .int pa, r_4])), (t0, .inr (8, [.ref t1, .int ln, .int tf, .int tt, .int ti, .int tu])), (t1, .inl (K 0, 400, .inl fb))] sz) ((fun u => [(a0, .inr (6, [.ref t0, .ref s0, .int lw, .int pa, r_4])), (t0, .inr (8, [.ref t1, .int ln, .int (u.2.2.2.1 0), .int (u.2.2.2.1 1), .int (u.2.2.2.1 2), .int (u.2.2.2.1 3)])), (t1, .inl (K 0, 400, .inl fb))]) u) t) (va_A [(a0, .inr (6, [.ref t0, .ref s0, .int lw, .int pa, r_4])), (t0, .inr (8, [.ref t1, .int ln, .int tf, .int tt, .int ti, .int tu])), (t1, .inl (K 0, 400, .inl fb))] sz)) 0 0 (va_A [(a0, .inr (6, [.ref t0, .ref s0, .int lw, .int pa, r_4])), (t0, .inr (8, [.ref t1, .int ln, .int tf, .int tt, .int ti, .int tu])), (t1, .inl (K 0, 400, .inl fb))] sz) := by
  refine Met.ofW (cc := cX6_passed) (maxL := 2) (ret := (some .boolean)) (by decide +kernel) rfl ?_
  intro p e s m args below meth c s₁ B hml hv
  obtain ⟨rfl, ⟨hsz, hP, hK, hD0, hN⟩, hG, hPl, hRo⟩ := hv
  have hx := B.exec
  have hb := B.bytes
  have hr := B.returns
  have hts := atoms_spec (ws := wsX6_passed) B.pre
  have hown : s.vm.findClass RX6 = some m.cls := findClass_of_methodNamed B.named
  have hlocks := B.notSynchronized
  subst hsz
  have hD := hD0.self (sz := s.heap.size)
  generalize hAe : va_A [(a0, .inr (6, [.ref t0, .ref s0, .int lw, .int pa, r_4])), (t0, .inr (8, [.ref t1, .int ln, .int tf, .int tt, .int ti, .int tu])), (t1, .inl (K 0, 400, .inl fb))] s.heap.size = A at hD hG hPl hRo ⊢
  have hA : ∀ q : Nat, s.heap.size ≤ q → A q := fun q h => by rw [← hAe]; exact Or.inr h
  clear hAe
  have hS : va_S A s.heap s.heap [] := va_S.rf
  replace hP : va_P D vwCl [(a0, .inr (6, [.ref t0, .ref s0, .int lw, .int pa, r_4])), (t0, .inr (8, [.ref t1, .int ln, .int tf, .int tt, .int ti, .int tu])), (t1, .inl (K 0, 400, .inl fb))] s.heap := hP
  have hl := lv_entry [.ref a0, .ref (g (8 + 2 * k))] (n := 2) (Nat.le_of_ble_eq_true rfl)
  rw [lg_entry_eq]
  generalize (lg_sl [.ref a0, .ref (g (8 + 2 * k))] ++ List.replicate (2 - (lg_sl [.ref a0, .ref (g (8 + 2 * k))]).length) Slot.unset).toArray = ls at hl ⊢
  have hl : lv_has ls 2 [(0, .ref a0), (1, .ref (g (8 + 2 * k)))] := hl
  have hw6 : ∀ w ∈ wsX60, w ∈ wsX6_passed := fun w h => (List.mem_cons_of_mem _ (List.mem_append_left _ (List.mem_append_right _ h)))
  have hw8 : ∀ w ∈ wsX80, w ∈ wsX6_passed := fun w h => (List.mem_cons_of_mem _ (List.mem_append_right _ h))
  generalize hQ : MQ below _ _ s _ _ _ = Q
  have hE := E_w_passed.eq_def k lw pa ln tf tt ti tu fb
  refine lv_aload_n hx hb dX6_passed_0 rfl (lv_at hl 0 rfl) ?_
  refine va_get (ci := 6) (v := .ref t0) (C := RX6) (T := TX6) (N := 5) hx hb hts hw6 hown hK hP 0 rfl rfl 0 (by decide +kernel) (hts _ mm_X6_passed_231) (fun _ h9 => h9) rfl dX6_passed_1 ?_
  refine lv_aload_n hx hb dX6_passed_4 rfl (lv_at hl 1 rfl) ?_
  refine pci (va_runVN (As := [.ref (g (8 + 2 * k))]) (rest := []) ⟨hx, hb, hml, hown, hts⟩ (w_find l D K g L G k t0 t1 ln tf tt ti tu fb s.heap.size hk (by first | omega | decide) (by first | omega | decide) (by first | omega | decide) (by first | omega | decide)) ⟨va_cnB 1 hts gX6_passed_X8_find_n67 rfl rfl rfl (nst_at hN 33 rfl) (hts _ mm_X6_passed_147) (by decide +kernel) ⟨Nat.le_of_ble_eq_true rfl, Nat.le_of_ble_eq_true rfl⟩, (hts _ mm_X6_passed_478), (hts _ mm_X6_passed_23)⟩ (mkVY hK hN (hP.sub [1, 2] rfl) (hD.sub [1, 2] (by decide +kernel) rfl) (ci := 8) (q0 := 0) rfl rfl (fun U hU hW => ⟨Gl.at hG hS hW hU (fun _ h9 => h9.elim), Pool.at hPl hS hU (fun _ h9 => h9.elim), Ro.heap hU (Ro.nil)⟩)) rfl rfl hl.1 rfl (lv_room (Nat.le_of_ble_eq_true rfl)) dX6_passed_5 ⟨Nat.le_of_ble_eq_true rfl, Nat.le_of_ble_eq_true rfl⟩) (fun r_81 hw => ?_)
  obtain ⟨h_83, k_82, -⟩ := hw
  replace hE := hE.trans (Lt_in k_82)
  refine lv_if_eq (tgt := 13) hx hb dX6_passed_8 (by decide +kernel) (fun c_84 => ?_) (fun c_84 => ?_)
  · have c_84i := i_eq (x := r_81.toInt) (y := 0) rfl rfl c_84
    replace hE := hE.trans (if_pos c_84)
    refine lv_aload_n hx hb dX6_passed_13 rfl (lv_at hl 0 rfl) ?_
    refine va_get (ci := 6) (v := .ref t0) (C := RX6) (T := TX6) (N := 5) hx hb hts hw6 hown hK hP 0 rfl rfl 0 (by decide +kernel) (hts _ mm_X6_passed_231) (fun _ h9 => h9) rfl dX6_passed_14 ?_
    refine kcv (S := Su) (wr := [(a0, .inr (6, [.ref t0, .ref s0, .int lw, .int pa, r_4]))]) (va_runVN (As := []) (rest := []) ⟨hx, hb, hml, hown, hts⟩ (w_step l D K t0 t1 ln tf tt ti tu fb s.heap.size (by first | omega | decide) (by first | omega | decide)) ⟨va_cnB 0 hts gX6_passed_X8_step_n47 rfl rfl rfl (nst_at hN 32 rfl) (hts _ mm_X6_passed_147) (by decide +kernel) ⟨Nat.le_of_ble_eq_true rfl, Nat.le_of_ble_eq_true rfl⟩, (hts _ mm_X6_passed_471), (hts _ mm_X6_passed_21)⟩ (mkV hK hN (hP.sub [1, 2] rfl) (hD.sub [1, 2] (by decide +kernel) rfl) (ci := 8) (q0 := 0) rfl rfl) rfl rfl hl.1 rfl (lv_room (Nat.le_of_ble_eq_true rfl)) dX6_passed_17 ⟨Nat.le_of_ble_eq_true rfl, Nat.le_of_ble_eq_true rfl⟩) hP hD hS hA [1, 2] [0] rfl rfl (by decide +kernel) (by decide +kernel) (fun u_86 H locs hw hP0 hD0 hS0 => ?_)
    clear hP hD hS
    have hP := hP0
    have hD := hD0
    have hS := hS0
    clear hP0 hD0 hS0
    replace hP : va_P D vwCl [(a0, .inr (6, [.ref t0, .ref s0, .int lw, .int pa, r_4])), (t0, .inr (8, [.ref t1, .int ln, .int (u_86.2.2.2.1 0), .int (u_86.2.2.2.1 1), .int (u_86.2.2.2.1 2), .int (u_86.2.2.2.1 3)])), (t1, .inl (K 0, 400, .inl fb))] H := hP
    replace hD : va_D A [(a0, .inr (6, [.ref t0, .ref s0, .int lw, .int pa, r_4])), (t0, .inr (8, [.ref t1, .int ln, .int (u_86.2.2.2.1 0), .int (u_86.2.2.2.1 1), .int (u_86.2.2.2.1 2), .int (u_86.2.2.2.1 3)])), (t1, .inl (K 0, 400, .inl fb))] := hD
    obtain ⟨k_87, k_88, k_89, k_90, -⟩ := hw
    replace hE := ((hE.trans (Lt2_in k_90)).trans (Lt2_in rfl)).trans (Lt2_in rfl)
    refine lv_iconst (v := 1) hx hb dX6_passed_20 (by decide +kernel) ?_
    rw [← hQ]
    have hP9 := hP.sub (ws' := [(a0, .inr (6, [.ref t0, .ref s0, .int lw, .int pa, r_4])), (t0, .inr (8, [.ref t1, .int ln, .int (u_86.2.2.2.1 0), .int (u_86.2.2.2.1 1), .int (u_86.2.2.2.1 2), .int (u_86.2.2.2.1 3)])), (t1, .inl (K 0, 400, .inl fb))]) [0, 1, 2] rfl
    have hD9 := hD.sub (ws' := [(a0, .inr (6, [.ref t0, .ref s0, .int lw, .int pa, r_4])), (t0, .inr (8, [.ref t1, .int ln, .int (u_86.2.2.2.1 0), .int (u_86.2.2.2.1 1), .int (u_86.2.2.2.1 2), .int (u_86.2.2.2.1 3)])), (t1, .inl (K 0, 400, .inl fb))]) [0, 1, 2] (by decide +kernel) rfl
    exact W.zret (v := 1) hx hb hr (by decide +kernel) (fun t ht hW => ⟨⟨1, ((fun _ => 0, fun _ => fun _ => 0, fun _ => fun _ => 0, fun i => match i with | 0 => (u_86.2.2.2.1 0) | 1 => (u_86.2.2.2.1 1) | 2 => (u_86.2.2.2.1 2) | _ => (u_86.2.2.2.1 3), fun _ => 0, fun _ => fun _ => none) : Su), rfl, ⟨(show 0 ≤ (1 : Int32).toInt ∧ (1 : Int32).toInt ≤ 1 by decide), (show 0 ≤ ((u_86.2.2.2.1 0) : Int32).toInt ∧ ((u_86.2.2.2.1 0) : Int32).toInt ≤ 400 by omega), (show 0 ≤ ((u_86.2.2.2.1 1) : Int32).toInt ∧ ((u_86.2.2.2.1 1) : Int32).toInt ≤ 400 by omega), (show (-1) ≤ ((u_86.2.2.2.1 3) : Int32).toInt ∧ ((u_86.2.2.2.1 3) : Int32).toInt ≤ 1000000 by omega), hE.symm, trivial⟩, (⟨by rw [ht]; exact hP9, hD9⟩ : Wd D A _ t)⟩, hS.F ht⟩) hS.2.2 dX6_passed_21
  · have c_84i := i_ne (x := r_81.toInt) (y := 0) rfl rfl c_84
    replace hE := hE.trans (if_neg c_84)
    refine lv_iconst (v := 0) hx hb dX6_passed_11 (by decide +kernel) ?_
    rw [← hQ]
    have hP9 := hP.sub (ws' := [(a0, .inr (6, [.ref t0, .ref s0, .int lw, .int pa, r_4])), (t0, .inr (8, [.ref t1, .int ln, .int tf, .int tt, .int ti, .int tu])), (t1, .inl (K 0, 400, .inl fb))]) [0, 1, 2] rfl
    have hD9 := hD.sub (ws' := [(a0, .inr (6, [.ref t0, .ref s0, .int lw, .int pa, r_4])), (t0, .inr (8, [.ref t1, .int ln, .int tf, .int tt, .int ti, .int tu])), (t1, .inl (K 0, 400, .inl fb))]) [0, 1, 2] (by decide +kernel) rfl
    exact W.zret (v := 0) hx hb hr (by decide +kernel) (fun t ht hW => ⟨⟨0, ((fun _ => 0, fun _ => fun _ => 0, fun _ => fun _ => 0, fun i => match i with | 0 => tf | 1 => tt | 2 => ti | _ => tu, fun _ => 0, fun _ => fun _ => none) : Su), rfl, ⟨(show 0 ≤ (0 : Int32).toInt ∧ (0 : Int32).toInt ≤ 1 by decide), (show 0 ≤ (tf : Int32).toInt ∧ (tf : Int32).toInt ≤ 400 by omega), (show 0 ≤ (tt : Int32).toInt ∧ (tt : Int32).toInt ≤ 400 by omega), (show (-1) ≤ (tu : Int32).toInt ∧ (tu : Int32).toInt ≤ 1000000 by omega), hE.symm, trivial⟩, (⟨by rw [ht]; exact hP9, hD9⟩ : Wd D A _ t)⟩, hS.F ht⟩) hS.2.2 dX6_passed_12
set_option maxRecDepth 100000 in
noncomputable def E_w_operator_l2 (k : Nat) (x : Int32) (ln : Int32) (tf : Int32) (tt : Int32) (ti : Int32) (tu : Int32) (fb : Nat → Int32) (rec_231 : Int32 → (Int32 × Int32 × Int32 × Int32 × Int32)) (v_215 : Int32) : Int32 × Int32 × Int32 × Int32 × Int32 :=
  Lt (E_w_slen k) (fun r_233 => if r_233 ≤ v_215 then ((((-1), tf, tt, ti, tu) : Int32 × Int32 × Int32 × Int32 × Int32)) else (Lt (E_w_char k v_215) (fun r_236 => if ti = r_236 then (Lt2 (E_w_step ln tf tt ti tu fb) (fun u_241_2_2_2_1_0 q0_u_241_2_2_2_1_0 => Lt2 q0_u_241_2_2_2_1_0 (fun u_241_2_2_2_1_1 q1_u_241_2_2_2_1_1 => Lt2 q1_u_241_2_2_2_1_1 (fun u_241_2_2_2_1_2 u_241_2_2_2_1_3 => Lt (x + v_215 : Int32) (fun x_246 => ((x_246, u_241_2_2_2_1_0, u_241_2_2_2_1_1, u_241_2_2_2_1_2, u_241_2_2_2_1_3) : Int32 × Int32 × Int32 × Int32 × Int32)))))) else (Lt (v_215 + Int32.ofInt 1 : Int32) (fun x_239 => rec_231 x_239)))))
set_option maxRecDepth 100000 in
noncomputable def E_w_operator (k : Nat) (x : Int32) (lw : Int32) (pa : Int32) (ln : Int32) (tf : Int32) (tt : Int32) (ti : Int32) (tu : Int32) (fb : Nat → Int32) : Int32 × Int32 × Int32 × Int32 × Int32 :=
  Lp (α := Int32 → (Int32 × Int32 × Int32 × Int32 × Int32)) (E_w_operator_l2 k x ln tf tt ti tu fb) (fun _ => ((0, 0, 0, 0, 0) : Int32 × Int32 × Int32 × Int32 × Int32)) ((48 - (0 : Int32).toInt : Int).toNat + 1) 0
set_option maxHeartbeats 4000000 in
set_option maxRecDepth 100000 in
theorem w_operator (l : Launch) (D : va_G) (K : Nat → ClassId) (g : Nat → Nat) (L : Nat → Prop) (G : Nat → LC) (k : Nat) (a0 : Nat) (x : Int32) (t0 : Nat) (s0 : Nat) (lw : Int32) (pa : Int32) (r_4 : Value) (t1 : Nat) (ln : Int32) (tf : Int32) (tt : Int32) (ti : Int32) (tu : Int32) (fb : Nat → Int32) (sz : Nat) (hk : k < 13) (zln : 0 ≤ ln.toInt ∧ ln.toInt ≤ 400) (ztf : 0 ≤ tf.toInt ∧ tf.toInt ≤ 400) (ztt : 0 ≤ tt.toInt ∧ tt.toInt ≤ 400) (ztu : (-1) ≤ tu.toInt ∧ tu.toInt ≤ 1000000) (zlw : 0 ≤ lw.toInt ∧ lw.toInt ≤ 1) (zpa : 0 ≤ pa.toInt ∧ pa.toInt ≤ 50) (zx : 0 ≤ x.toInt ∧ x.toInt ≤ 20) : Met l yX6_operator wsX6_operator ({ frames := 4, cells := 0, slots := 0, locals := 85 }) (va_Pc [.ref a0, .ref (g (8 + 2 * k)), .int x] (PreY D K [(a0, .inr (6, [.ref t0, .ref s0, .int lw, .int pa, r_4])), (t0, .inr (8, [.ref t1, .int ln, .int tf, .int tt, .int ti, .int tu])), (t1, .inl (K 0, 400, .inl fb))] [] sz g L G (va_A [(a0, .inr (6, [.ref t0, .ref s0, .int lw, .int pa, r_4])), (t0, .inr (8, [.ref t1, .int ln, .int tf, .int tt, .int ti, .int tu])), (t1, .inl (K 0, 400, .inl fb))] sz))) (va_Qi (S := Su) (fun (r : Int32) (u : Su) => ((-1) ≤ r.toInt ∧ r.toInt ≤ 66) ∧ (0 ≤ (u.2.2.2.1 0).toInt ∧ (u.2.2.2.1 0).toInt ≤ 400) ∧ (0 ≤ (u.2.2.2.1 1).toInt ∧ (u.2.2.2.1 1).toInt ≤ 400) ∧ ((-1) ≤ (u.2.2.2.1 3).toInt ∧ (u.2.2.2.1 3).toInt ≤ 1000000) ∧ ((r, (u.2.2.2.1 0), (u.2.2.2.1 1), (u.2.2.2.1 2), (u.2.2.2.1 3)) = E_w_operator k x lw pa ln tf tt ti tu fb) ∧ True) (fun u t => Wd D (va_A [(a0, .inr (6, [.ref t0, .ref s0, .int lw, .int pa, r_4])), (t0, .inr (8, [.ref t1, .int ln, .int tf, .int tt, .int ti, .int tu])), (t1, .inl (K 0, 400, .inl fb))] sz) ((fun u => [(a0, .inr (6, [.ref t0, .ref s0, .int lw, .int pa, r_4])), (t0, .inr (8, [.ref t1, .int ln, .int (u.2.2.2.1 0), .int (u.2.2.2.1 1), .int (u.2.2.2.1 2), .int (u.2.2.2.1 3)])), (t1, .inl (K 0, 400, .inl fb))]) u) t) (va_A [(a0, .inr (6, [.ref t0, .ref s0, .int lw, .int pa, r_4])), (t0, .inr (8, [.ref t1, .int ln, .int tf, .int tt, .int ti, .int tu])), (t1, .inl (K 0, 400, .inl fb))] sz)) 0 0 (va_A [(a0, .inr (6, [.ref t0, .ref s0, .int lw, .int pa, r_4])), (t0, .inr (8, [.ref t1, .int ln, .int tf, .int tt, .int ti, .int tu])), (t1, .inl (K 0, 400, .inl fb))] sz) := by
  refine Met.ofW (cc := cX6_operator) (maxL := 4) (ret := (some .int)) (by decide +kernel) rfl ?_
  intro p e s m args below meth c s₁ B hml hv
  obtain ⟨rfl, ⟨hsz, hP, hK, hD0, hN⟩, hG, hPl, hRo⟩ := hv
  have hx := B.exec
  have hb := B.bytes
  have hr := B.returns
  have hts := atoms_spec (ws := wsX6_operator) B.pre
  have hown : s.vm.findClass RX6 = some m.cls := findClass_of_methodNamed B.named
  have hlocks := B.notSynchronized
  subst hsz
  have hD := hD0.self (sz := s.heap.size)
  generalize hAe : va_A [(a0, .inr (6, [.ref t0, .ref s0, .int lw, .int pa, r_4])), (t0, .inr (8, [.ref t1, .int ln, .int tf, .int tt, .int ti, .int tu])), (t1, .inl (K 0, 400, .inl fb))] s.heap.size = A at hD hG hPl hRo ⊢
  have hA : ∀ q : Nat, s.heap.size ≤ q → A q := fun q h => by rw [← hAe]; exact Or.inr h
  clear hAe
  have hS : va_S A s.heap s.heap [] := va_S.rf
  replace hP : va_P D vwCl [(a0, .inr (6, [.ref t0, .ref s0, .int lw, .int pa, r_4])), (t0, .inr (8, [.ref t1, .int ln, .int tf, .int tt, .int ti, .int tu])), (t1, .inl (K 0, 400, .inl fb))] s.heap := hP
  have hl := lv_entry [.ref a0, .ref (g (8 + 2 * k)), .int x] (n := 4) (Nat.le_of_ble_eq_true rfl)
  rw [lg_entry_eq]
  generalize (lg_sl [.ref a0, .ref (g (8 + 2 * k)), .int x] ++ List.replicate (4 - (lg_sl [.ref a0, .ref (g (8 + 2 * k)), .int x]).length) Slot.unset).toArray = ls at hl ⊢
  have hl : lv_has ls 4 [(0, .ref a0), (1, .ref (g (8 + 2 * k))), (2, .int x)] := hl
  have hw6 : ∀ w ∈ wsX60, w ∈ wsX6_operator := fun w h => (List.mem_cons_of_mem _ (List.mem_append_left _ (List.mem_append_right _ h)))
  have hw8 : ∀ w ∈ wsX80, w ∈ wsX6_operator := fun w h => (List.mem_cons_of_mem _ (List.mem_append_right _ h))
  generalize hQ : MQ below _ _ s _ _ _ = Q
  have hE := E_w_operator.eq_def k x lw pa ln tf tt ti tu fb
  refine lv_iconst (v := 0) hx hb dX6_operator_0 (by decide +kernel) ?_
  refine lv_istore_n (lv' := [(3, .int 0), (0, .ref a0), (1, .ref (g (8 + 2 * k))), (2, .int x)]) hx hb dX6_operator_1 rfl hl (by decide +kernel) rfl (fun ls hl => ?_)
  have lp_231 : ∀ (nn_ : Nat) (v_215 : Int32) (hv_215 : 0 ≤ v_215.toInt ∧ v_215.toInt ≤ 47) (hn : (48 - v_215.toInt : Int).toNat < nn_) (hE : E_w_operator k x lw pa ln tf tt ti tu fb = Lp (α := Int32 → (Int32 × Int32 × Int32 × Int32 × Int32)) (E_w_operator_l2 k x ln tf tt ti tu fb) (fun _ => ((0, 0, 0, 0, 0) : Int32 × Int32 × Int32 × Int32 × Int32)) nn_ v_215) (H : Heap) (locs : List Loc) (hP : va_P D vwCl [(a0, .inr (6, [.ref t0, .ref s0, .int lw, .int pa, r_4])), (t0, .inr (8, [.ref t1, .int ln, .int tf, .int tt, .int ti, .int tu])), (t1, .inl (K 0, 400, .inl fb))] H) (hD : va_D A [(a0, .inr (6, [.ref t0, .ref s0, .int lw, .int pa, r_4])), (t0, .inr (8, [.ref t1, .int ln, .int tf, .int tt, .int ti, .int tu])), (t1, .inl (K 0, 400, .inl fb))]) (hS : va_S A s.heap H locs) (ls : Array Slot) (hl : lv_has ls 4 [(3, .int v_215), (0, .ref a0), (1, .ref (g (8 + 2 * k))), (2, .int x)]), W p l e ({ frames := 4, cells := 0, slots := 0, locals := 85 }) s m (([.ref a0, .ref (g (8 + 2 * k)), .int x] : List Value).toArray) below meth c H locs 0 0 Q (F0 m 2 ls []) := by
    clear hE hP hD hS hl
    intro nn_
    induction nn_ with
    | zero =>
      intro v_215 hv_215 hn hE H locs hP hD hS ls hl
      exact absurd hn (Nat.not_lt_zero _)
    | succ nn_ ih_232 =>
      intro v_215 hv_215 hn hE H locs hP hD hS ls hl
      replace hE : E_w_operator k x lw pa ln tf tt ti tu fb = E_w_operator_l2 k x ln tf tt ti tu fb (Lp (α := Int32 → (Int32 × Int32 × Int32 × Int32 × Int32)) (E_w_operator_l2 k x ln tf tt ti tu fb) (fun _ => ((0, 0, 0, 0, 0) : Int32 × Int32 × Int32 × Int32 × Int32)) nn_) v_215 := hE
      obtain ⟨rec_231, hrec_231⟩ : ∃ z9, z9 = Lp (α := Int32 → (Int32 × Int32 × Int32 × Int32 × Int32)) (E_w_operator_l2 k x ln tf tt ti tu fb) (fun _ => ((0, 0, 0, 0, 0) : Int32 × Int32 × Int32 × Int32 × Int32)) nn_ := ⟨_, rfl⟩
      rw [← hrec_231] at hE
      replace hE := hE.trans (E_w_operator_l2.eq_def _ _ _ _ _ _ _ _ _ _)
      refine lv_iload_n hx hb dX6_operator_2 rfl (lv_at hl 0 rfl) ?_
      refine lv_aload_n hx hb dX6_operator_3 rfl (lv_at hl 2 rfl) ?_
      refine pci (va_runV (As := []) (rest := [.int v_215]) ⟨hx, hb, hml, hown, hts⟩ (w_slen l D K g L G k H.size hk) (cwV 0 hts gX6_operator_J0_length_8abf5 rfl rfl rfl (by decide +kernel) ⟨Nat.le_of_ble_eq_true rfl, Nat.le_of_ble_eq_true rfl⟩) (mkVSY hK hN (hG.str k hk).2 hS (fun U hU hW => ⟨Gl.at hG hS hW hU (fun _ h9 => h9.elim), Pool.at hPl hS hU (fun _ h9 => h9.elim), Ro.heap hU (Ro.nil)⟩)) rfl rfl hl.1 rfl (lv_room (Nat.le_of_ble_eq_true rfl)) dX6_operator_4 ⟨Nat.le_of_ble_eq_true rfl, Nat.le_of_ble_eq_true rfl⟩) (fun r_233 hw => ?_)
      obtain ⟨hw, k_234⟩ := hw
      replace hE := hE.trans (Lt_in k_234)
      obtain ⟨hr_233, -⟩ := hw
      have hnr_233 := sn_le k
      refine lv_icmp_ge (tgt := 42) hx hb dX6_operator_7 (by decide +kernel) (fun c_235 => ?_) (fun c_235 => ?_)
      · have c_235i := i_le (x := r_233.toInt) (y := v_215.toInt) rfl rfl c_235
        replace hE := hE.trans (if_pos c_235)
        refine lv_iconst (v := (-1)) hx hb dX6_operator_42 (by decide +kernel) ?_
        rw [← hQ]
        have hP9 := hP.sub (ws' := [(a0, .inr (6, [.ref t0, .ref s0, .int lw, .int pa, r_4])), (t0, .inr (8, [.ref t1, .int ln, .int tf, .int tt, .int ti, .int tu])), (t1, .inl (K 0, 400, .inl fb))]) [0, 1, 2] rfl
        have hD9 := hD.sub (ws' := [(a0, .inr (6, [.ref t0, .ref s0, .int lw, .int pa, r_4])), (t0, .inr (8, [.ref t1, .int ln, .int tf, .int tt, .int ti, .int tu])), (t1, .inl (K 0, 400, .inl fb))]) [0, 1, 2] (by decide +kernel) rfl
        exact W.iret (v := (-1)) hx hb hr (fun t ht hW => ⟨⟨(-1), ((fun _ => 0, fun _ => fun _ => 0, fun _ => fun _ => 0, fun i => match i with | 0 => tf | 1 => tt | 2 => ti | _ => tu, fun _ => 0, fun _ => fun _ => none) : Su), rfl, ⟨(show (-1) ≤ ((-1) : Int32).toInt ∧ ((-1) : Int32).toInt ≤ 66 by decide), (show 0 ≤ (tf : Int32).toInt ∧ (tf : Int32).toInt ≤ 400 by omega), (show 0 ≤ (tt : Int32).toInt ∧ (tt : Int32).toInt ≤ 400 by omega), (show (-1) ≤ (tu : Int32).toInt ∧ (tu : Int32).toInt ≤ 1000000 by omega), hE.symm, trivial⟩, (⟨by rw [ht]; exact hP9, hD9⟩ : Wd D A _ t)⟩, hS.F ht⟩) hS.2.2 dX6_operator_43
      · have c_235i := i_nle (x := r_233.toInt) (y := v_215.toInt) rfl rfl c_235
        replace hE := hE.trans (if_neg c_235)
        refine lv_aload_n hx hb dX6_operator_10 rfl (lv_at hl 1 rfl) ?_
        refine va_get (ci := 6) (v := .ref t0) (C := RX6) (T := TX6) (N := 5) hx hb hts hw6 hown hK hP 0 rfl rfl 0 (by decide +kernel) (hts _ mm_X6_operator_231) (fun _ h9 => h9) rfl dX6_operator_11 ?_
        refine va_getN (ci := 8) (v := .int ti) (C := RX8) (T := TX8) (N := 6) hx hb hts hw8 hown hK hP 1 rfl rfl 4 (by decide +kernel) (nst_use hN 123 rfl) (fun _ h9 => h9) rfl dX6_operator_14 ?_
        refine lv_aload_n hx hb dX6_operator_17 rfl (lv_at hl 2 rfl) ?_
        refine lv_iload_n hx hb dX6_operator_18 rfl (lv_at hl 0 rfl) ?_
        refine pci (va_runV (As := [.int v_215]) (rest := [.int ti]) ⟨hx, hb, hml, hown, hts⟩ (w_char l D K g L G k v_215.toInt v_215 H.size hk rfl (by first | omega | decide)) (cwV 1 hts gX6_operator_J0_charAt_5068e rfl rfl rfl (by decide +kernel) ⟨Nat.le_of_ble_eq_true rfl, Nat.le_of_ble_eq_true rfl⟩) (mkVSY hK hN (hG.str k hk).2 hS (fun U hU hW => ⟨Gl.at hG hS hW hU (fun _ h9 => h9.elim), Pool.at hPl hS hU (fun _ h9 => h9.elim), Ro.heap hU (Ro.nil)⟩)) rfl rfl hl.1 rfl (lv_room (Nat.le_of_ble_eq_true rfl)) dX6_operator_19 ⟨Nat.le_of_ble_eq_true rfl, Nat.le_of_ble_eq_true rfl⟩) (fun r_236 hw => ?_)
        obtain ⟨hw, k_237⟩ := hw
        replace hE := hE.trans (Lt_in k_237)
        refine lv_icmp_ne (tgt := 36) hx hb dX6_operator_22 (by decide +kernel) (fun c_238 => ?_) (fun c_238 => ?_)
        · have c_238i := i_ne (x := ti.toInt) (y := r_236.toInt) rfl rfl c_238
          replace hE := hE.trans (if_neg c_238)
          obtain ⟨x_239, ex_239⟩ : ∃ y : Int32, y = v_215 + Int32.ofInt 1 := ⟨_, rfl⟩
          replace hE := hE.trans (Lt_in ex_239)
          have hx_239 : x_239.toInt = (v_215.toInt + 1) := by rw [ex_239]; exact i_add rfl (show (Int32.ofInt 1).toInt = 1 from rfl) (by omega)
          refine lv_iinc (v := x_239) (lv' := [(3, .int x_239), (0, .ref a0), (1, .ref (g (8 + 2 * k))), (2, .int x)]) hx hb dX6_operator_36 hl (k := 0) rfl (by rw [ex_239]) (by decide +kernel) rfl (fun ls hl => ?_)
          refine lv_goto (tgt := 2) hx hb dX6_operator_39 (by decide +kernel) ?_
          exact ih_232 x_239 (by rw [hx_239]; omega) (by omega) (hE.trans (by rw [hrec_231])) _ _ hP hD hS ls (lv_sub hl [0, 1, 2, 3] rfl)
        · have c_238i := i_eq (x := ti.toInt) (y := r_236.toInt) rfl rfl c_238
          replace hE := hE.trans (if_pos c_238)
          refine lv_aload_n hx hb dX6_operator_25 rfl (lv_at hl 1 rfl) ?_
          refine va_get (ci := 6) (v := .ref t0) (C := RX6) (T := TX6) (N := 5) hx hb hts hw6 hown hK hP 0 rfl rfl 0 (by decide +kernel) (hts _ mm_X6_operator_231) (fun _ h9 => h9) rfl dX6_operator_26 ?_
          refine kcv (S := Su) (wr := [(a0, .inr (6, [.ref t0, .ref s0, .int lw, .int pa, r_4]))]) (va_runVN (As := []) (rest := []) ⟨hx, hb, hml, hown, hts⟩ (w_step l D K t0 t1 ln tf tt ti tu fb H.size (by first | omega | decide) (by first | omega | decide)) ⟨va_cnB 0 hts gX6_operator_X8_step_n47 rfl rfl rfl (nst_at hN 32 rfl) (hts _ mm_X6_operator_147) (by decide +kernel) ⟨Nat.le_of_ble_eq_true rfl, Nat.le_of_ble_eq_true rfl⟩, (hts _ mm_X6_operator_471), (hts _ mm_X6_operator_21)⟩ (mkV hK hN (hP.sub [1, 2] rfl) (hD.sub [1, 2] (by decide +kernel) rfl) (ci := 8) (q0 := 0) rfl rfl) rfl rfl hl.1 rfl (lv_room (Nat.le_of_ble_eq_true rfl)) dX6_operator_29 ⟨Nat.le_of_ble_eq_true rfl, Nat.le_of_ble_eq_true rfl⟩) hP hD hS hA [1, 2] [0] rfl rfl (by decide +kernel) (by decide +kernel) (fun u_241 H locs hw hP0 hD0 hS0 => ?_)
          clear hP hD hS
          have hP := hP0
          have hD := hD0
          have hS := hS0
          clear hP0 hD0 hS0
          replace hP : va_P D vwCl [(a0, .inr (6, [.ref t0, .ref s0, .int lw, .int pa, r_4])), (t0, .inr (8, [.ref t1, .int ln, .int (u_241.2.2.2.1 0), .int (u_241.2.2.2.1 1), .int (u_241.2.2.2.1 2), .int (u_241.2.2.2.1 3)])), (t1, .inl (K 0, 400, .inl fb))] H := hP
          replace hD : va_D A [(a0, .inr (6, [.ref t0, .ref s0, .int lw, .int pa, r_4])), (t0, .inr (8, [.ref t1, .int ln, .int (u_241.2.2.2.1 0), .int (u_241.2.2.2.1 1), .int (u_241.2.2.2.1 2), .int (u_241.2.2.2.1 3)])), (t1, .inl (K 0, 400, .inl fb))] := hD
          obtain ⟨k_242, k_243, k_244, k_245, -⟩ := hw
          replace hE := ((hE.trans (Lt2_in k_245)).trans (Lt2_in rfl)).trans (Lt2_in rfl)
          refine lv_iload_n hx hb dX6_operator_32 rfl (lv_at hl 3 rfl) ?_
          refine lv_iload_n hx hb dX6_operator_33 rfl (lv_at hl 0 rfl) ?_
          refine lv_iadd hx hb dX6_operator_34 ?_
          refine lv_topi (fun x_246 ex_246 => ?_)
          replace hE := hE.trans (Lt_in ex_246)
          have hx_246 : x_246.toInt = (x.toInt + v_215.toInt) := by rw [ex_246]; exact i_add rfl rfl (by omega)
          rw [← hQ]
          have hP9 := hP.sub (ws' := [(a0, .inr (6, [.ref t0, .ref s0, .int lw, .int pa, r_4])), (t0, .inr (8, [.ref t1, .int ln, .int (u_241.2.2.2.1 0), .int (u_241.2.2.2.1 1), .int (u_241.2.2.2.1 2), .int (u_241.2.2.2.1 3)])), (t1, .inl (K 0, 400, .inl fb))]) [0, 1, 2] rfl
          have hD9 := hD.sub (ws' := [(a0, .inr (6, [.ref t0, .ref s0, .int lw, .int pa, r_4])), (t0, .inr (8, [.ref t1, .int ln, .int (u_241.2.2.2.1 0), .int (u_241.2.2.2.1 1), .int (u_241.2.2.2.1 2), .int (u_241.2.2.2.1 3)])), (t1, .inl (K 0, 400, .inl fb))]) [0, 1, 2] (by decide +kernel) rfl
          exact W.iret (v := x_246) hx hb hr (fun t ht hW => ⟨⟨x_246, ((fun _ => 0, fun _ => fun _ => 0, fun _ => fun _ => 0, fun i => match i with | 0 => (u_241.2.2.2.1 0) | 1 => (u_241.2.2.2.1 1) | 2 => (u_241.2.2.2.1 2) | _ => (u_241.2.2.2.1 3), fun _ => 0, fun _ => fun _ => none) : Su), rfl, ⟨(show (-1) ≤ x_246.toInt ∧ x_246.toInt ≤ 66 by rw [hx_246]; omega), (show 0 ≤ ((u_241.2.2.2.1 0) : Int32).toInt ∧ ((u_241.2.2.2.1 0) : Int32).toInt ≤ 400 by omega), (show 0 ≤ ((u_241.2.2.2.1 1) : Int32).toInt ∧ ((u_241.2.2.2.1 1) : Int32).toInt ≤ 400 by omega), (show (-1) ≤ ((u_241.2.2.2.1 3) : Int32).toInt ∧ ((u_241.2.2.2.1 3) : Int32).toInt ≤ 1000000 by omega), hE.symm, trivial⟩, (⟨by rw [ht]; exact hP9, hD9⟩ : Wd D A _ t)⟩, hS.F ht⟩) hS.2.2 dX6_operator_35
  exact lp_231 ((48 - (0 : Int32).toInt : Int).toNat + 1) 0 (by decide +kernel) (Nat.lt_succ_self _) hE _ _ hP hD hS ls (lv_sub hl [0, 1, 2, 3] rfl)
noncomputable abbrev SumAt (fr lo : Nat) (DD : Int) (Es : Int32 → Int32 → Int32 → Int32 → Int32 → Int32 → Int32 → Int32 → (Nat → Int32) → Int32 → (Nat → Int32) → (Int32 × Int32 × Int32 × Int32 × Int32 × Int32 × Int32 × (Nat → Int32))) : Prop := ∀ (l : Launch) (D : va_G) (K : Nat → ClassId) (g : Nat → Nat) (L : Nat → Prop) (G : Nat → LC) (a0 : Nat) (d : Int32) (t0 : Nat) (s0 : Nat) (lw : Int32) (pa : Int32) (r_4 : Value) (t1 : Nat) (ln : Int32) (tf : Int32) (tt : Int32) (ti : Int32) (tu : Int32) (fb : Nat → Int32) (s1 : Nat) (s2 : Nat) (s_2 : Value) (us : Int32) (fc : Nat → Int32) (sz : Nat) (zln : 0 ≤ ln.toInt ∧ ln.toInt ≤ 400) (ztf : 0 ≤ tf.toInt ∧ tf.toInt ≤ 400) (ztt : 0 ≤ tt.toInt ∧ tt.toInt ≤ 400) (ztu : (-1) ≤ tu.toInt ∧ tu.toInt ≤ 1000000) (zlw : 0 ≤ lw.toInt ∧ lw.toInt ≤ 1) (zpa : 0 ≤ pa.toInt ∧ pa.toInt ≤ 50) (zd : d.toInt = DD) (zus : 0 ≤ us.toInt ∧ us.toInt ≤ 800) (zfc : Rg 800 0 1000 fc), Met l yX6_sum wsX6_sum ({ frames := fr, cells := 0, slots := 0, locals := lo }) (va_Pc [.ref a0, .int d] (PreY D K [(a0, .inr (6, [.ref t0, .ref s0, .int lw, .int pa, r_4])), (t0, .inr (8, [.ref t1, .int ln, .int tf, .int tt, .int ti, .int tu])), (t1, .inl (K 0, 400, .inl fb)), (s0, .inr (7, [.ref s1, .ref s2, s_2, .int us])), (s2, .inl (K 0, 800, .inl fc))] [] sz g L G (va_A [(a0, .inr (6, [.ref t0, .ref s0, .int lw, .int pa, r_4])), (t0, .inr (8, [.ref t1, .int ln, .int tf, .int tt, .int ti, .int tu])), (t1, .inl (K 0, 400, .inl fb)), (s0, .inr (7, [.ref s1, .ref s2, s_2, .int us])), (s2, .inl (K 0, 800, .inl fc))] sz))) (va_Qi (S := Su) (fun (r : Int32) (u : Su) => (0 ≤ r.toInt ∧ r.toInt ≤ 1) ∧ (0 ≤ (u.2.2.2.1 0).toInt ∧ (u.2.2.2.1 0).toInt ≤ 50) ∧ (0 ≤ (u.2.2.2.1 1).toInt ∧ (u.2.2.2.1 1).toInt ≤ 400) ∧ (0 ≤ (u.2.2.2.1 2).toInt ∧ (u.2.2.2.1 2).toInt ≤ 400) ∧ ((-1) ≤ (u.2.2.2.1 4).toInt ∧ (u.2.2.2.1 4).toInt ≤ 1000000) ∧ (0 ≤ (u.2.2.2.1 5).toInt ∧ (u.2.2.2.1 5).toInt ≤ 800) ∧ (Rg 800 0 1000 (u.2.1 0)) ∧ ((r, (u.2.2.2.1 0), (u.2.2.2.1 1), (u.2.2.2.1 2), (u.2.2.2.1 3), (u.2.2.2.1 4), (u.2.2.2.1 5), (u.2.1 0)) = Es d lw pa ln tf tt ti tu fb us fc) ∧ True) (fun u t => Wd D (va_A [(a0, .inr (6, [.ref t0, .ref s0, .int lw, .int pa, r_4])), (t0, .inr (8, [.ref t1, .int ln, .int tf, .int tt, .int ti, .int tu])), (t1, .inl (K 0, 400, .inl fb)), (s0, .inr (7, [.ref s1, .ref s2, s_2, .int us])), (s2, .inl (K 0, 800, .inl fc))] sz) ((fun u => [(a0, .inr (6, [.ref t0, .ref s0, .int lw, .int (u.2.2.2.1 0), r_4])), (t0, .inr (8, [.ref t1, .int ln, .int (u.2.2.2.1 1), .int (u.2.2.2.1 2), .int (u.2.2.2.1 3), .int (u.2.2.2.1 4)])), (t1, .inl (K 0, 400, .inl fb)), (s0, .inr (7, [.ref s1, .ref s2, s_2, .int (u.2.2.2.1 5)])), (s2, .inl (K 0, 800, .inl (u.2.1 0)))]) u) t) (va_A [(a0, .inr (6, [.ref t0, .ref s0, .int lw, .int pa, r_4])), (t0, .inr (8, [.ref t1, .int ln, .int tf, .int tt, .int ti, .int tu])), (t1, .inl (K 0, 400, .inl fb)), (s0, .inr (7, [.ref s1, .ref s2, s_2, .int us])), (s2, .inl (K 0, 800, .inl fc))] sz)) 0 0 (va_A [(a0, .inr (6, [.ref t0, .ref s0, .int lw, .int pa, r_4])), (t0, .inr (8, [.ref t1, .int ln, .int tf, .int tt, .int ti, .int tu])), (t1, .inl (K 0, 400, .inl fb)), (s0, .inr (7, [.ref s1, .ref s2, s_2, .int us])), (s2, .inl (K 0, 800, .inl fc))] sz)
noncomputable abbrev TestAt (f2 l2 : Nat) (DD : Int) (Et : Int32 → Int32 → Int32 → Int32 → Int32 → Int32 → Int32 → Int32 → (Nat → Int32) → Int32 → (Nat → Int32) → (Int32 × Int32 × Int32 × Int32 × Int32 × Int32 × Int32 × (Nat → Int32))) : Prop := ∀ (l : Launch) (D : va_G) (K : Nat → ClassId) (g : Nat → Nat) (L : Nat → Prop) (G : Nat → LC) (a0 : Nat) (d : Int32) (t0 : Nat) (s0 : Nat) (lw : Int32) (pa : Int32) (r_4 : Value) (t1 : Nat) (ln : Int32) (tf : Int32) (tt : Int32) (ti : Int32) (tu : Int32) (fb : Nat → Int32) (s1 : Nat) (s2 : Nat) (s_2 : Value) (us : Int32) (fc : Nat → Int32) (sz : Nat) (zln : 0 ≤ ln.toInt ∧ ln.toInt ≤ 400) (ztf : 0 ≤ tf.toInt ∧ tf.toInt ≤ 400) (ztt : 0 ≤ tt.toInt ∧ tt.toInt ≤ 400) (ztu : (-1) ≤ tu.toInt ∧ tu.toInt ≤ 1000000) (zlw : 0 ≤ lw.toInt ∧ lw.toInt ≤ 1) (zpa : 0 ≤ pa.toInt ∧ pa.toInt ≤ 50) (zd : d.toInt = DD) (zus : 0 ≤ us.toInt ∧ us.toInt ≤ 800) (zfc : Rg 800 0 1000 fc), Met l yX6_test wsX6_test ({ frames := f2, cells := 0, slots := 0, locals := l2 }) (va_Pc [.ref a0, .int d] (PreY D K [(a0, .inr (6, [.ref t0, .ref s0, .int lw, .int pa, r_4])), (t0, .inr (8, [.ref t1, .int ln, .int tf, .int tt, .int ti, .int tu])), (t1, .inl (K 0, 400, .inl fb)), (s0, .inr (7, [.ref s1, .ref s2, s_2, .int us])), (s2, .inl (K 0, 800, .inl fc))] [] sz g L G (va_A [(a0, .inr (6, [.ref t0, .ref s0, .int lw, .int pa, r_4])), (t0, .inr (8, [.ref t1, .int ln, .int tf, .int tt, .int ti, .int tu])), (t1, .inl (K 0, 400, .inl fb)), (s0, .inr (7, [.ref s1, .ref s2, s_2, .int us])), (s2, .inl (K 0, 800, .inl fc))] sz))) (va_Qi (S := Su) (fun (r : Int32) (u : Su) => (0 ≤ r.toInt ∧ r.toInt ≤ 1) ∧ (0 ≤ (u.2.2.2.1 0).toInt ∧ (u.2.2.2.1 0).toInt ≤ 50) ∧ (0 ≤ (u.2.2.2.1 1).toInt ∧ (u.2.2.2.1 1).toInt ≤ 400) ∧ (0 ≤ (u.2.2.2.1 2).toInt ∧ (u.2.2.2.1 2).toInt ≤ 400) ∧ ((-1) ≤ (u.2.2.2.1 4).toInt ∧ (u.2.2.2.1 4).toInt ≤ 1000000) ∧ (0 ≤ (u.2.2.2.1 5).toInt ∧ (u.2.2.2.1 5).toInt ≤ 800) ∧ (Rg 800 0 1000 (u.2.1 0)) ∧ ((r, (u.2.2.2.1 0), (u.2.2.2.1 1), (u.2.2.2.1 2), (u.2.2.2.1 3), (u.2.2.2.1 4), (u.2.2.2.1 5), (u.2.1 0)) = Et d lw pa ln tf tt ti tu fb us fc) ∧ True) (fun u t => Wd D (va_A [(a0, .inr (6, [.ref t0, .ref s0, .int lw, .int pa, r_4])), (t0, .inr (8, [.ref t1, .int ln, .int tf, .int tt, .int ti, .int tu])), (t1, .inl (K 0, 400, .inl fb)), (s0, .inr (7, [.ref s1, .ref s2, s_2, .int us])), (s2, .inl (K 0, 800, .inl fc))] sz) ((fun u => [(a0, .inr (6, [.ref t0, .ref s0, .int lw, .int (u.2.2.2.1 0), r_4])), (t0, .inr (8, [.ref t1, .int ln, .int (u.2.2.2.1 1), .int (u.2.2.2.1 2), .int (u.2.2.2.1 3), .int (u.2.2.2.1 4)])), (t1, .inl (K 0, 400, .inl fb)), (s0, .inr (7, [.ref s1, .ref s2, s_2, .int (u.2.2.2.1 5)])), (s2, .inl (K 0, 800, .inl (u.2.1 0)))]) u) t) (va_A [(a0, .inr (6, [.ref t0, .ref s0, .int lw, .int pa, r_4])), (t0, .inr (8, [.ref t1, .int ln, .int tf, .int tt, .int ti, .int tu])), (t1, .inl (K 0, 400, .inl fb)), (s0, .inr (7, [.ref s1, .ref s2, s_2, .int us])), (s2, .inl (K 0, 800, .inl fc))] sz)) 0 0 (va_A [(a0, .inr (6, [.ref t0, .ref s0, .int lw, .int pa, r_4])), (t0, .inr (8, [.ref t1, .int ln, .int tf, .int tt, .int ti, .int tu])), (t1, .inl (K 0, 400, .inl fb)), (s0, .inr (7, [.ref s1, .ref s2, s_2, .int us])), (s2, .inl (K 0, 800, .inl fc))] sz)
set_option maxRecDepth 100000 in
noncomputable def E_w_part_j82 (pa : Int32) (tf : Int32) (tt : Int32) (ti : Int32) (tu : Int32) (us : Int32) (fc : Nat → Int32) : Int32 × Int32 × Int32 × Int32 × Int32 × Int32 × Int32 × (Nat → Int32) :=
  ((0, pa, tf, tt, ti, tu, us, fc) : Int32 × Int32 × Int32 × Int32 × Int32 × Int32 × Int32 × (Nat → Int32))
set_option maxRecDepth 100000 in
noncomputable def E_w_part_j241 (us : Int32) (fc : Nat → Int32) (x_714 : Int32) (v_758 : Int32) (v_759 : Int32) (v_760 : Int32) (v_761 : Int32) (v_762 : Int32) : Int32 × Int32 × Int32 × Int32 × Int32 × Int32 × Int32 × (Nat → Int32) :=
  Lt2 (E_w_emit 2 v_758 us fc) (fun r_770 q0_r_770 => Lt2 q0_r_770 (fun u_771_2_2_2_1_0 u_771_2_1_0 => ((1, x_714, v_759, v_760, v_761, v_762, u_771_2_2_2_1_0, u_771_2_1_0) : Int32 × Int32 × Int32 × Int32 × Int32 × Int32 × Int32 × (Nat → Int32))))
set_option maxRecDepth 100000 in
noncomputable def E_w_part_j218 (us : Int32) (fc : Nat → Int32) (x_714 : Int32) (v_754 : Int32) (v_755 : Int32) (v_756 : Int32) (v_757 : Int32) : Int32 × Int32 × Int32 × Int32 × Int32 × Int32 × Int32 × (Nat → Int32) :=
  ((0, x_714, v_754, v_755, v_756, v_757, us, fc) : Int32 × Int32 × Int32 × Int32 × Int32 × Int32 × Int32 × (Nat → Int32))
set_option maxRecDepth 100000 in
noncomputable def E_w_part_j49 (u_836_2_2_2_1_0 : Int32) (u_836_2_2_2_1_1 : Int32) (u_836_2_2_2_1_2 : Int32) (u_836_2_2_2_1_3 : Int32) (u_836_2_2_2_1_4 : Int32) (u_836_2_2_2_1_5 : Int32) (u_836_2_1_0 : Nat → Int32) : Int32 × Int32 × Int32 × Int32 × Int32 × Int32 × Int32 × (Nat → Int32) :=
  ((0, u_836_2_2_2_1_0, u_836_2_2_2_1_1, u_836_2_2_2_1_2, u_836_2_2_2_1_3, u_836_2_2_2_1_4, u_836_2_2_2_1_5, u_836_2_1_0) : Int32 × Int32 × Int32 × Int32 × Int32 × Int32 × Int32 × (Nat → Int32))
set_option maxRecDepth 100000 in
noncomputable def E_w_part (Es : Int32 → Int32 → Int32 → Int32 → Int32 → Int32 → Int32 → Int32 → (Nat → Int32) → Int32 → (Nat → Int32) → (Int32 × Int32 × Int32 × Int32 × Int32 × Int32 × Int32 × (Nat → Int32))) (d : Int32) (lw : Int32) (pa : Int32) (ln : Int32) (tf : Int32) (tt : Int32) (ti : Int32) (tu : Int32) (fb : Nat → Int32) (us : Int32) (fc : Nat → Int32) : Int32 × Int32 × Int32 × Int32 × Int32 × Int32 × Int32 × (Nat → Int32) :=
  if ti = 91 then (if d < 8 then (Lt2 (E_w_step ln tf tt ti tu fb) (fun u_829_2_2_2_1_0 q0_u_829_2_2_2_1_0 => Lt2 q0_u_829_2_2_2_1_0 (fun u_829_2_2_2_1_1 q1_u_829_2_2_2_1_1 => Lt2 q1_u_829_2_2_2_1_1 (fun u_829_2_2_2_1_2 u_829_2_2_2_1_3 => Lt (d + 1 : Int32) (fun x_834 => Lt2 (Es x_834 lw pa ln u_829_2_2_2_1_0 u_829_2_2_2_1_1 u_829_2_2_2_1_2 u_829_2_2_2_1_3 fb us fc) (fun r_835 q0_r_835 => Lt2 q0_r_835 (fun u_836_2_2_2_1_0 q1_u_836_2_2_2_1_0 => Lt2 q1_u_836_2_2_2_1_0 (fun u_836_2_2_2_1_1 q2_u_836_2_2_2_1_1 => Lt2 q2_u_836_2_2_2_1_1 (fun u_836_2_2_2_1_2 q3_u_836_2_2_2_1_2 => Lt2 q3_u_836_2_2_2_1_2 (fun u_836_2_2_2_1_3 q4_u_836_2_2_2_1_3 => Lt2 q4_u_836_2_2_2_1_3 (fun u_836_2_2_2_1_4 q5_u_836_2_2_2_1_4 => Lt2 q5_u_836_2_2_2_1_4 (fun u_836_2_2_2_1_5 u_836_2_1_0 => if r_835 = 0 then (E_w_part_j49 u_836_2_2_2_1_0 u_836_2_2_2_1_1 u_836_2_2_2_1_2 u_836_2_2_2_1_3 u_836_2_2_2_1_4 u_836_2_2_2_1_5 u_836_2_1_0) else (if u_836_2_2_2_1_3 = 93 then (Lt2 (E_w_step ln u_836_2_2_2_1_1 u_836_2_2_2_1_2 u_836_2_2_2_1_3 u_836_2_2_2_1_4 fb) (fun u_857_2_2_2_1_0 q0_u_857_2_2_2_1_0 => Lt2 q0_u_857_2_2_2_1_0 (fun u_857_2_2_2_1_1 q1_u_857_2_2_2_1_1 => Lt2 q1_u_857_2_2_2_1_1 (fun u_857_2_2_2_1_2 u_857_2_2_2_1_3 => ((1, u_836_2_2_2_1_0, u_857_2_2_2_1_0, u_857_2_2_2_1_1, u_857_2_2_2_1_2, u_857_2_2_2_1_3, u_836_2_2_2_1_5, u_836_2_1_0) : Int32 × Int32 × Int32 × Int32 × Int32 × Int32 × Int32 × (Nat → Int32)))))) else (E_w_part_j49 u_836_2_2_2_1_0 u_836_2_2_2_1_1 u_836_2_2_2_1_2 u_836_2_2_2_1_3 u_836_2_2_2_1_4 u_836_2_2_2_1_5 u_836_2_1_0)))))))))))))) else (((0, pa, tf, tt, ti, tu, us, fc) : Int32 × Int32 × Int32 × Int32 × Int32 × Int32 × Int32 × (Nat → Int32)))) else (if 50 ≤ pa then (E_w_part_j82 pa tf tt ti tu us fc) else (if tu ≤ 1000 then (Lt (pa + 1 : Int32) (fun x_714 => if tu = (-1) then (if lw = 0 then (Lt (E_w_find 12 ln tf tt ti tu fb) (fun r_778 => if r_778 = (-1) then (((0, x_714, tf, tt, ti, tu, us, fc) : Int32 × Int32 × Int32 × Int32 × Int32 × Int32 × Int32 × (Nat → Int32))) else (Lt2 (E_w_step ln tf tt ti tu fb) (fun u_783_2_2_2_1_0 q0_u_783_2_2_2_1_0 => Lt2 q0_u_783_2_2_2_1_0 (fun u_783_2_2_2_1_1 q1_u_783_2_2_2_1_1 => Lt2 q1_u_783_2_2_2_1_1 (fun u_783_2_2_2_1_2 u_783_2_2_2_1_3 => if lw = 0 then (Lt (r_778 - 5 : Int32) (fun x_789 => if x_789 < 0 then (E_w_part_j241 us fc x_714 r_778 u_783_2_2_2_1_0 u_783_2_2_2_1_1 u_783_2_2_2_1_2 u_783_2_2_2_1_3) else (if 3 ≤ x_789 then (E_w_part_j241 us fc x_714 r_778 u_783_2_2_2_1_0 u_783_2_2_2_1_1 u_783_2_2_2_1_2 u_783_2_2_2_1_3) else (if u_783_2_2_2_1_3 < 0 then (E_w_part_j218 us fc x_714 u_783_2_2_2_1_0 u_783_2_2_2_1_1 u_783_2_2_2_1_2 u_783_2_2_2_1_3) else (Lt (aF 7 (x_789 : Int32).toNatClampNeg : Int32) (fun x_793 => if u_783_2_2_2_1_3 ≤ x_793 then (Lt (aF 6 (x_789 : Int32).toNatClampNeg : Int32) (fun x_795 => Lt (x_795 + u_783_2_2_2_1_3 : Int32) (fun x_796 => Lt2 (E_w_step ln u_783_2_2_2_1_0 u_783_2_2_2_1_1 u_783_2_2_2_1_2 u_783_2_2_2_1_3 fb) (fun u_798_2_2_2_1_0 q0_u_798_2_2_2_1_0 => Lt2 q0_u_798_2_2_2_1_0 (fun u_798_2_2_2_1_1 q1_u_798_2_2_2_1_1 => Lt2 q1_u_798_2_2_2_1_1 (fun u_798_2_2_2_1_2 u_798_2_2_2_1_3 => E_w_part_j241 us fc x_714 x_796 u_798_2_2_2_1_0 u_798_2_2_2_1_1 u_798_2_2_2_1_2 u_798_2_2_2_1_3)))))) else (E_w_part_j218 us fc x_714 u_783_2_2_2_1_0 u_783_2_2_2_1_1 u_783_2_2_2_1_2 u_783_2_2_2_1_3))))))) else (((0, 0, 0, 0, 0, 0, 0, fun _ => 0) : Int32 × Int32 × Int32 × Int32 × Int32 × Int32 × Int32 × (Nat → Int32))))))))) else (Lt (E_w_find 11 ln tf tt ti tu fb) (fun r_803 => if r_803 = (-1) then (((0, x_714, tf, tt, ti, tu, us, fc) : Int32 × Int32 × Int32 × Int32 × Int32 × Int32 × Int32 × (Nat → Int32))) else (Lt2 (E_w_step ln tf tt ti tu fb) (fun u_808_2_2_2_1_0 q0_u_808_2_2_2_1_0 => Lt2 q0_u_808_2_2_2_1_0 (fun u_808_2_2_2_1_1 q1_u_808_2_2_2_1_1 => Lt2 q1_u_808_2_2_2_1_1 (fun u_808_2_2_2_1_2 u_808_2_2_2_1_3 => if lw = 0 then (((0, 0, 0, 0, 0, 0, 0, fun _ => 0) : Int32 × Int32 × Int32 × Int32 × Int32 × Int32 × Int32 × (Nat → Int32))) else (E_w_part_j241 us fc x_714 r_803 u_808_2_2_2_1_0 u_808_2_2_2_1_1 u_808_2_2_2_1_2 u_808_2_2_2_1_3)))))))) else (Lt2 (E_w_emit 1 tu us fc) (fun r_815 q0_r_815 => Lt2 q0_r_815 (fun u_816_2_2_2_1_0 u_816_2_1_0 => Lt2 (E_w_step ln tf tt ti tu fb) (fun u_822_2_2_2_1_0 q0_u_822_2_2_2_1_0 => Lt2 q0_u_822_2_2_2_1_0 (fun u_822_2_2_2_1_1 q1_u_822_2_2_2_1_1 => Lt2 q1_u_822_2_2_2_1_1 (fun u_822_2_2_2_1_2 u_822_2_2_2_1_3 => ((1, x_714, u_822_2_2_2_1_0, u_822_2_2_2_1_1, u_822_2_2_2_1_2, u_822_2_2_2_1_3, u_816_2_2_2_1_0, u_816_2_1_0) : Int32 × Int32 × Int32 × Int32 × Int32 × Int32 × Int32 × (Nat → Int32)))))))))) else (E_w_part_j82 pa tf tt ti tu us fc)))
set_option maxHeartbeats 4000000 in
set_option maxRecDepth 100000 in
theorem w_part (fr lo : Nat) (DD : Int) (zDD : 0 ≤ DD ∧ DD ≤ 8) (Es : Int32 → Int32 → Int32 → Int32 → Int32 → Int32 → Int32 → Int32 → (Nat → Int32) → Int32 → (Nat → Int32) → (Int32 × Int32 × Int32 × Int32 × Int32 × Int32 × Int32 × (Nat → Int32))) (hsum : DD < 8 → SumAt fr lo (DD + 1) Es) (l : Launch) (D : va_G) (K : Nat → ClassId) (g : Nat → Nat) (L : Nat → Prop) (G : Nat → LC) (a0 : Nat) (d : Int32) (t0 : Nat) (s0 : Nat) (lw : Int32) (pa : Int32) (r_4 : Value) (t1 : Nat) (ln : Int32) (tf : Int32) (tt : Int32) (ti : Int32) (tu : Int32) (fb : Nat → Int32) (s1 : Nat) (s2 : Nat) (s_2 : Value) (us : Int32) (fc : Nat → Int32) (sz : Nat) (zln : 0 ≤ ln.toInt ∧ ln.toInt ≤ 400) (ztf : 0 ≤ tf.toInt ∧ tf.toInt ≤ 400) (ztt : 0 ≤ tt.toInt ∧ tt.toInt ≤ 400) (ztu : (-1) ≤ tu.toInt ∧ tu.toInt ≤ 1000000) (zlw : 0 ≤ lw.toInt ∧ lw.toInt ≤ 1) (zpa : 0 ≤ pa.toInt ∧ pa.toInt ≤ 50) (zd : d.toInt = DD) (zus : 0 ≤ us.toInt ∧ us.toInt ≤ 800) (zfc : Rg 800 0 1000 fc) : Met l yX6_part wsX6_part ({ frames := fr + 5, cells := 0, slots := 0, locals := lo + 110 }) (va_Pc [.ref a0, .int d] (PreY D K [(a0, .inr (6, [.ref t0, .ref s0, .int lw, .int pa, r_4])), (t0, .inr (8, [.ref t1, .int ln, .int tf, .int tt, .int ti, .int tu])), (t1, .inl (K 0, 400, .inl fb)), (s0, .inr (7, [.ref s1, .ref s2, s_2, .int us])), (s2, .inl (K 0, 800, .inl fc))] [] sz g L G (va_A [(a0, .inr (6, [.ref t0, .ref s0, .int lw, .int pa, r_4])), (t0, .inr (8, [.ref t1, .int ln, .int tf, .int tt, .int ti, .int tu])), (t1, .inl (K 0, 400, .inl fb)), (s0, .inr (7, [.ref s1, .ref s2, s_2, .int us])), (s2, .inl (K 0, 800, .inl fc))] sz))) (va_Qi (S := Su) (fun (r : Int32) (u : Su) => (0 ≤ r.toInt ∧ r.toInt ≤ 1) ∧ (0 ≤ (u.2.2.2.1 0).toInt ∧ (u.2.2.2.1 0).toInt ≤ 50) ∧ (0 ≤ (u.2.2.2.1 1).toInt ∧ (u.2.2.2.1 1).toInt ≤ 400) ∧ (0 ≤ (u.2.2.2.1 2).toInt ∧ (u.2.2.2.1 2).toInt ≤ 400) ∧ ((-1) ≤ (u.2.2.2.1 4).toInt ∧ (u.2.2.2.1 4).toInt ≤ 1000000) ∧ (0 ≤ (u.2.2.2.1 5).toInt ∧ (u.2.2.2.1 5).toInt ≤ 800) ∧ (Rg 800 0 1000 (u.2.1 0)) ∧ ((r, (u.2.2.2.1 0), (u.2.2.2.1 1), (u.2.2.2.1 2), (u.2.2.2.1 3), (u.2.2.2.1 4), (u.2.2.2.1 5), (u.2.1 0)) = E_w_part Es d lw pa ln tf tt ti tu fb us fc) ∧ True) (fun u t => Wd D (va_A [(a0, .inr (6, [.ref t0, .ref s0, .int lw, .int pa, r_4])), (t0, .inr (8, [.ref t1, .int ln, .int tf, .int tt, .int ti, .int tu])), (t1, .inl (K 0, 400, .inl fb)), (s0, .inr (7, [.ref s1, .ref s2, s_2, .int us])), (s2, .inl (K 0, 800, .inl fc))] sz) ((fun u => [(a0, .inr (6, [.ref t0, .ref s0, .int lw, .int (u.2.2.2.1 0), r_4])), (t0, .inr (8, [.ref t1, .int ln, .int (u.2.2.2.1 1), .int (u.2.2.2.1 2), .int (u.2.2.2.1 3), .int (u.2.2.2.1 4)])), (t1, .inl (K 0, 400, .inl fb)), (s0, .inr (7, [.ref s1, .ref s2, s_2, .int (u.2.2.2.1 5)])), (s2, .inl (K 0, 800, .inl (u.2.1 0)))]) u) t) (va_A [(a0, .inr (6, [.ref t0, .ref s0, .int lw, .int pa, r_4])), (t0, .inr (8, [.ref t1, .int ln, .int tf, .int tt, .int ti, .int tu])), (t1, .inl (K 0, 400, .inl fb)), (s0, .inr (7, [.ref s1, .ref s2, s_2, .int us])), (s2, .inl (K 0, 800, .inl fc))] sz)) 0 0 (va_A [(a0, .inr (6, [.ref t0, .ref s0, .int lw, .int pa, r_4])), (t0, .inr (8, [.ref t1, .int ln, .int tf, .int tt, .int ti, .int tu])), (t1, .inl (K 0, 400, .inl fb)), (s0, .inr (7, [.ref s1, .ref s2, s_2, .int us])), (s2, .inl (K 0, 800, .inl fc))] sz) := by
  refine Met.ofW (cc := cX6_part) (maxL := 4) (ret := (some .boolean)) (by decide +kernel) rfl ?_
  intro p e s m args below meth c s₁ B hml hv
  obtain ⟨rfl, ⟨hsz, hP, hK, hD0, hN⟩, hG, hPl, hRo⟩ := hv
  have hx := B.exec
  have hb := B.bytes
  have hr := B.returns
  have hts := atoms_spec (ws := wsX6_part) B.pre
  have hown : s.vm.findClass RX6 = some m.cls := findClass_of_methodNamed B.named
  have hlocks := B.notSynchronized
  subst hsz
  have hD := hD0.self (sz := s.heap.size)
  generalize hAe : va_A [(a0, .inr (6, [.ref t0, .ref s0, .int lw, .int pa, r_4])), (t0, .inr (8, [.ref t1, .int ln, .int tf, .int tt, .int ti, .int tu])), (t1, .inl (K 0, 400, .inl fb)), (s0, .inr (7, [.ref s1, .ref s2, s_2, .int us])), (s2, .inl (K 0, 800, .inl fc))] s.heap.size = A at hD hG hPl hRo ⊢
  have hA : ∀ q : Nat, s.heap.size ≤ q → A q := fun q h => by rw [← hAe]; exact Or.inr h
  clear hAe
  have hS : va_S A s.heap s.heap [] := va_S.rf
  replace hP : va_P D vwCl [(a0, .inr (6, [.ref t0, .ref s0, .int lw, .int pa, r_4])), (t0, .inr (8, [.ref t1, .int ln, .int tf, .int tt, .int ti, .int tu])), (t1, .inl (K 0, 400, .inl fb)), (s0, .inr (7, [.ref s1, .ref s2, s_2, .int us])), (s2, .inl (K 0, 800, .inl fc))] s.heap := hP
  have hl := lv_entry [.ref a0, .int d] (n := 4) (Nat.le_of_ble_eq_true rfl)
  rw [lg_entry_eq]
  generalize (lg_sl [.ref a0, .int d] ++ List.replicate (4 - (lg_sl [.ref a0, .int d]).length) Slot.unset).toArray = ls at hl ⊢
  have hl : lv_has ls 4 [(0, .ref a0), (1, .int d)] := hl
  have hw6 : ∀ w ∈ wsX60, w ∈ wsX6_part := fun w h => (List.mem_cons_of_mem _ (List.mem_append_left _ (List.mem_append_left _ (List.mem_append_right _ h))))
  have hw7 : ∀ w ∈ wsX70, w ∈ wsX6_part := fun w h => (List.mem_cons_of_mem _ (List.mem_append_right _ h))
  have hw8 : ∀ w ∈ wsX80, w ∈ wsX6_part := fun w h => (List.mem_cons_of_mem _ (List.mem_append_left _ (List.mem_append_right _ h)))
  generalize hQ : MQ below _ _ s _ _ _ = Q
  have hE := E_w_part.eq_def Es d lw pa ln tf tt ti tu fb us fc
  refine lv_aload_n hx hb dX6_part_0 rfl (lv_at hl 0 rfl) ?_
  refine va_get (ci := 6) (v := .ref t0) (C := RX6) (T := TX6) (N := 5) hx hb hts hw6 hown hK hP 0 rfl rfl 0 (by decide +kernel) (hts _ mm_X6_part_231) (fun _ h9 => h9) rfl dX6_part_1 ?_
  refine va_getN (ci := 8) (v := .int ti) (C := RX8) (T := TX8) (N := 6) hx hb hts hw8 hown hK hP 1 rfl rfl 4 (by decide +kernel) (nst_use hN 123 rfl) (fun _ h9 => h9) rfl dX6_part_4 ?_
  refine lv_bipush (v := 91) hx hb dX6_part_7 (by decide +kernel) ?_
  refine lv_icmp_ne (tgt := 60) hx hb dX6_part_9 (by decide +kernel) (fun c_595 => ?_) (fun c_595 => ?_)
  · have c_595i := i_ne (x := ti.toInt) (y := 91) rfl rfl c_595
    replace hE := hE.trans (if_neg c_595)
    refine lv_aload_n hx hb dX6_part_60 rfl (lv_at hl 0 rfl) ?_
    refine va_get (ci := 6) (v := .int pa) (C := RX6) (T := TX6) (N := 5) hx hb hts hw6 hown hK hP 0 rfl rfl 3 (by decide +kernel) (hts _ mm_X6_part_234) (fun _ h9 => h9) rfl dX6_part_61 ?_
    refine lv_bipush (v := 50) hx hb dX6_part_64 (by decide +kernel) ?_
    have j_711 : ∀ (hE : E_w_part Es d lw pa ln tf tt ti tu fb us fc = E_w_part_j82 pa tf tt ti tu us fc) (H : Heap) (locs : List Loc) (hP : va_P D vwCl [(a0, .inr (6, [.ref t0, .ref s0, .int lw, .int pa, r_4])), (t0, .inr (8, [.ref t1, .int ln, .int tf, .int tt, .int ti, .int tu])), (t1, .inl (K 0, 400, .inl fb)), (s0, .inr (7, [.ref s1, .ref s2, s_2, .int us])), (s2, .inl (K 0, 800, .inl fc))] H) (hD : va_D A [(a0, .inr (6, [.ref t0, .ref s0, .int lw, .int pa, r_4])), (t0, .inr (8, [.ref t1, .int ln, .int tf, .int tt, .int ti, .int tu])), (t1, .inl (K 0, 400, .inl fb)), (s0, .inr (7, [.ref s1, .ref s2, s_2, .int us])), (s2, .inl (K 0, 800, .inl fc))]) (hS : va_S A s.heap H locs) (ls : Array Slot) (hl : lv_has ls 4 []), W p l e ({ frames := fr + 5, cells := 0, slots := 0, locals := lo + 110 }) s m (([.ref a0, .int d] : List Value).toArray) below meth c H locs 0 0 Q (F0 m 82 ls []) := by
      clear hE hP hD hS hl
      intro hE H locs hP hD hS ls hl
      replace hE := hE.trans (E_w_part_j82.eq_def _ _ _ _ _ _ _)
      refine lv_iconst (v := 0) hx hb dX6_part_82 (by decide +kernel) ?_
      rw [← hQ]
      have hP9 := hP.sub (ws' := [(a0, .inr (6, [.ref t0, .ref s0, .int lw, .int pa, r_4])), (t0, .inr (8, [.ref t1, .int ln, .int tf, .int tt, .int ti, .int tu])), (t1, .inl (K 0, 400, .inl fb)), (s0, .inr (7, [.ref s1, .ref s2, s_2, .int us])), (s2, .inl (K 0, 800, .inl fc))]) [0, 1, 2, 3, 4] rfl
      have hD9 := hD.sub (ws' := [(a0, .inr (6, [.ref t0, .ref s0, .int lw, .int pa, r_4])), (t0, .inr (8, [.ref t1, .int ln, .int tf, .int tt, .int ti, .int tu])), (t1, .inl (K 0, 400, .inl fb)), (s0, .inr (7, [.ref s1, .ref s2, s_2, .int us])), (s2, .inl (K 0, 800, .inl fc))]) [0, 1, 2, 3, 4] (by decide +kernel) rfl
      exact W.zret (v := 0) hx hb hr (by decide +kernel) (fun t ht hW => ⟨⟨0, ((fun _ => 0, fun i => match i with | _ => fc, fun _ => fun _ => 0, fun i => match i with | 0 => pa | 1 => tf | 2 => tt | 3 => ti | 4 => tu | _ => us, fun _ => 0, fun _ => fun _ => none) : Su), rfl, ⟨(show 0 ≤ (0 : Int32).toInt ∧ (0 : Int32).toInt ≤ 1 by decide), (show 0 ≤ (pa : Int32).toInt ∧ (pa : Int32).toInt ≤ 50 by omega), (show 0 ≤ (tf : Int32).toInt ∧ (tf : Int32).toInt ≤ 400 by omega), (show 0 ≤ (tt : Int32).toInt ∧ (tt : Int32).toInt ≤ 400 by omega), (show (-1) ≤ (tu : Int32).toInt ∧ (tu : Int32).toInt ≤ 1000000 by omega), (show 0 ≤ (us : Int32).toInt ∧ (us : Int32).toInt ≤ 800 by omega), zfc, hE.symm, trivial⟩, (⟨by rw [ht]; exact hP9, hD9⟩ : Wd D A _ t)⟩, hS.F ht⟩) hS.2.2 dX6_part_83
    refine lv_icmp_ge (tgt := 82) hx hb dX6_part_66 (by decide +kernel) (fun c_712 => ?_) (fun c_712 => ?_)
    · have c_712i := i_le (x := 50) (y := pa.toInt) rfl rfl c_712
      replace hE := hE.trans (if_pos c_712)
      exact j_711   hE _ _ hP hD hS ls (lv_sub hl [] rfl)
    · have c_712i := i_nle (x := 50) (y := pa.toInt) rfl rfl c_712
      replace hE := hE.trans (if_neg c_712)
      refine lv_aload_n hx hb dX6_part_69 rfl (lv_at hl 0 rfl) ?_
      refine va_get (ci := 6) (v := .ref t0) (C := RX6) (T := TX6) (N := 5) hx hb hts hw6 hown hK hP 0 rfl rfl 0 (by decide +kernel) (hts _ mm_X6_part_231) (fun _ h9 => h9) rfl dX6_part_70 ?_
      refine va_getN (ci := 8) (v := .int tu) (C := RX8) (T := TX8) (N := 6) hx hb hts hw8 hown hK hP 1 rfl rfl 5 (by decide +kernel) (nst_use hN 124 rfl) (fun _ h9 => h9) rfl dX6_part_73 ?_
      refine lv_sipush (v := 1000) hx hb dX6_part_76 (by decide +kernel) ?_
      refine lv_icmp_le (tgt := 84) hx hb dX6_part_79 (by decide +kernel) (fun c_713 => ?_) (fun c_713 => ?_)
      · have c_713i := i_le (x := tu.toInt) (y := 1000) rfl rfl c_713
        replace hE := hE.trans (if_pos c_713)
        refine lv_aload_n hx hb dX6_part_84 rfl (lv_at hl 0 rfl) ?_
        refine lv_dup hx hb dX6_part_85 rfl ?_
        refine va_get (ci := 6) (v := .int pa) (C := RX6) (T := TX6) (N := 5) hx hb hts hw6 hown hK hP 0 rfl rfl 3 (by decide +kernel) (hts _ mm_X6_part_234) (fun _ h9 => h9) rfl dX6_part_86 ?_
        refine lv_iconst (v := 1) hx hb dX6_part_89 (by decide +kernel) ?_
        refine lv_iadd hx hb dX6_part_90 ?_
        refine lv_topi (fun x_714 ex_714 => ?_)
        replace hE := hE.trans (Lt_in ex_714)
        have hx_714 : x_714.toInt = (pa.toInt + 1) := by rw [ex_714]; exact i_add rfl (show (1 : Int32).toInt = 1 from rfl) (by omega)
        refine va_put (ci := 6) (v := .int x_714) (ty := .int) (C := RX6) (T := TX6) (N := 5) hx hb hts hw6 tyX6 tyX6_ok nmX6 hown hK hP hD hS 0 rfl rfl 3 (by decide +kernel) (hts _ mm_X6_part_234) (fun _ h9 => h9) rfl (by decide +kernel) (by first | rfl | decide) (by first | rfl | decide) (Nat.le_of_ble_eq_true rfl) dX6_part_91 (fun H locs hP0 hD0 hS0 => ?_)
        clear hP hD hS
        have hP := hP0
        have hD := hD0
        have hS := hS0
        clear hP0 hD0 hS0
        replace hP : va_P D vwCl [(a0, .inr (6, [.ref t0, .ref s0, .int lw, .int x_714, r_4])), (t0, .inr (8, [.ref t1, .int ln, .int tf, .int tt, .int ti, .int tu])), (t1, .inl (K 0, 400, .inl fb)), (s0, .inr (7, [.ref s1, .ref s2, s_2, .int us])), (s2, .inl (K 0, 800, .inl fc))] H := hP
        replace hD : va_D A [(a0, .inr (6, [.ref t0, .ref s0, .int lw, .int x_714, r_4])), (t0, .inr (8, [.ref t1, .int ln, .int tf, .int tt, .int ti, .int tu])), (t1, .inl (K 0, 400, .inl fb)), (s0, .inr (7, [.ref s1, .ref s2, s_2, .int us])), (s2, .inl (K 0, 800, .inl fc))] := hD
        refine lv_aload_n hx hb dX6_part_94 rfl (lv_at hl 0 rfl) ?_
        refine va_get (ci := 6) (v := .ref t0) (C := RX6) (T := TX6) (N := 5) hx hb hts hw6 hown hK hP 0 rfl rfl 0 (by decide +kernel) (hts _ mm_X6_part_231) (fun _ h9 => h9) rfl dX6_part_95 ?_
        refine va_getN (ci := 8) (v := .int tu) (C := RX8) (T := TX8) (N := 6) hx hb hts hw8 hown hK hP 1 rfl rfl 5 (by decide +kernel) (nst_use hN 124 rfl) (fun _ h9 => h9) rfl dX6_part_98 ?_
        refine lv_iconst (v := (-1)) hx hb dX6_part_101 (by decide +kernel) ?_
        refine lv_icmp_eq (tgt := 130) hx hb dX6_part_102 (by decide +kernel) (fun c_715 => ?_) (fun c_715 => ?_)
        · have c_715i := i_eq (x := tu.toInt) (y := (-1)) rfl rfl c_715
          replace hE := hE.trans (if_pos c_715)
          refine lv_aload_n hx hb dX6_part_130 rfl (lv_at hl 0 rfl) ?_
          refine va_get (ci := 6) (v := .ref t0) (C := RX6) (T := TX6) (N := 5) hx hb hts hw6 hown hK hP 0 rfl rfl 0 (by decide +kernel) (hts _ mm_X6_part_231) (fun _ h9 => h9) rfl dX6_part_131 ?_
          refine lv_aload_n hx hb dX6_part_134 rfl (lv_at hl 0 rfl) ?_
          refine va_get (ci := 6) (v := .int lw) (C := RX6) (T := TX6) (N := 5) hx hb hts hw6 hown hK hP 0 rfl rfl 2 (by decide +kernel) (hts _ mm_X6_part_233) (fun _ h9 => h9) rfl dX6_part_135 ?_
          have j_769 : ∀ (v_758 : Int32) (v_759 : Int32) (v_760 : Int32) (v_761 : Int32) (v_762 : Int32) (hv_758 : 0 ≤ v_758.toInt ∧ v_758.toInt ≤ 48) (hv_759 : 0 ≤ v_759.toInt ∧ v_759.toInt ≤ 400) (hv_760 : 0 ≤ v_760.toInt ∧ v_760.toInt ≤ 400) (hv_762 : (-1) ≤ v_762.toInt ∧ v_762.toInt ≤ 1000000) (hE : E_w_part Es d lw pa ln tf tt ti tu fb us fc = E_w_part_j241 us fc x_714 v_758 v_759 v_760 v_761 v_762) (H : Heap) (locs : List Loc) (hP : va_P D vwCl [(a0, .inr (6, [.ref t0, .ref s0, .int lw, .int x_714, r_4])), (s0, .inr (7, [.ref s1, .ref s2, s_2, .int us])), (s2, .inl (K 0, 800, .inl fc)), (t0, .inr (8, [.ref t1, .int ln, .int v_759, .int v_760, .int v_761, .int v_762])), (t1, .inl (K 0, 400, .inl fb))] H) (hD : va_D A [(a0, .inr (6, [.ref t0, .ref s0, .int lw, .int x_714, r_4])), (s0, .inr (7, [.ref s1, .ref s2, s_2, .int us])), (s2, .inl (K 0, 800, .inl fc)), (t0, .inr (8, [.ref t1, .int ln, .int v_759, .int v_760, .int v_761, .int v_762])), (t1, .inl (K 0, 400, .inl fb))]) (hS : va_S A s.heap H locs) (ls : Array Slot) (hl : lv_has ls 4 [(2, .int v_758), (0, .ref a0)]), W p l e ({ frames := fr + 5, cells := 0, slots := 0, locals := lo + 110 }) s m (([.ref a0, .int d] : List Value).toArray) below meth c H locs 0 0 Q (F0 m 241 ls []) := by
            clear hE hP hD hS hl
            intro v_758 v_759 v_760 v_761 v_762 hv_758 hv_759 hv_760 hv_762 hE H locs hP hD hS ls hl
            replace hE := hE.trans (E_w_part_j241.eq_def _ _ _ _ _ _ _ _)
            refine lv_aload_n hx hb dX6_part_241 rfl (lv_at hl 1 rfl) ?_
            refine va_get (ci := 6) (v := .ref s0) (C := RX6) (T := TX6) (N := 5) hx hb hts hw6 hown hK hP 0 rfl rfl 1 (by decide +kernel) (hts _ mm_X6_part_232) (fun _ h9 => h9) rfl dX6_part_242 ?_
            refine lv_iconst (v := 2) hx hb dX6_part_245 (by decide +kernel) ?_
            refine lv_iload_n hx hb dX6_part_246 rfl (lv_at hl 0 rfl) ?_
            refine kci (S := Su) (wr := [(a0, .inr (6, [.ref t0, .ref s0, .int lw, .int x_714, r_4])), (t0, .inr (8, [.ref t1, .int ln, .int v_759, .int v_760, .int v_761, .int v_762])), (t1, .inl (K 0, 400, .inl fb))]) (va_runVN (As := [.int 2, .int v_758]) (rest := []) ⟨hx, hb, hml, hown, hts⟩ (w_emit l D K s0 2 v_758 s1 s2 s_2 us fc H.size (by first | omega | decide) (by first | omega | decide) (by first | omega | decide) zfc) ⟨va_cnB 2 hts gX6_part_X7_emit_n95 rfl rfl rfl (nst_at hN 36 rfl) (hts _ mm_X6_part_148) (by decide +kernel) ⟨by show (0) + 1 ≤ fr + 5; omega, by show 8 + (3 + 11) + (0) ≤ lo + 110; omega⟩, (hts _ mm_X6_part_539), (hts _ mm_X6_part_29)⟩ (mkV hK hN (hP.sub [1, 2] rfl) (hD.sub [1, 2] (by decide +kernel) rfl) (ci := 7) (q0 := 0) rfl rfl) rfl rfl hl.1 rfl (lv_room (Nat.le_of_ble_eq_true rfl)) dX6_part_247 ⟨Nat.le_of_ble_eq_true rfl, Nat.le_of_ble_eq_true rfl⟩) hP hD hS hA [1, 2] [0, 3, 4] rfl rfl (by decide +kernel) (by decide +kernel) (fun r_770 u_771 H locs hw hP0 hD0 hS0 => ?_)
            clear hP hD hS
            have hP := hP0
            have hD := hD0
            have hS := hS0
            clear hP0 hD0 hS0
            replace hP : va_P D vwCl [(a0, .inr (6, [.ref t0, .ref s0, .int lw, .int x_714, r_4])), (t0, .inr (8, [.ref t1, .int ln, .int v_759, .int v_760, .int v_761, .int v_762])), (t1, .inl (K 0, 400, .inl fb)), (s0, .inr (7, [.ref s1, .ref s2, s_2, .int (u_771.2.2.2.1 0)])), (s2, .inl (K 0, 800, .inl (u_771.2.1 0)))] H := hP
            replace hD : va_D A [(a0, .inr (6, [.ref t0, .ref s0, .int lw, .int x_714, r_4])), (t0, .inr (8, [.ref t1, .int ln, .int v_759, .int v_760, .int v_761, .int v_762])), (t1, .inl (K 0, 400, .inl fb)), (s0, .inr (7, [.ref s1, .ref s2, s_2, .int (u_771.2.2.2.1 0)])), (s2, .inl (K 0, 800, .inl (u_771.2.1 0)))] := hD
            obtain ⟨h_775, k_772, k_773, k_774, -⟩ := hw
            replace hE := (hE.trans (Lt2_in k_774)).trans (Lt2_in rfl)
            refine lv_pop hx hb dX6_part_250 rfl ?_
            refine lv_iconst (v := 1) hx hb dX6_part_251 (by decide +kernel) ?_
            rw [← hQ]
            have hP9 := hP.sub (ws' := [(a0, .inr (6, [.ref t0, .ref s0, .int lw, .int x_714, r_4])), (t0, .inr (8, [.ref t1, .int ln, .int v_759, .int v_760, .int v_761, .int v_762])), (t1, .inl (K 0, 400, .inl fb)), (s0, .inr (7, [.ref s1, .ref s2, s_2, .int (u_771.2.2.2.1 0)])), (s2, .inl (K 0, 800, .inl (u_771.2.1 0)))]) [0, 1, 2, 3, 4] rfl
            have hD9 := hD.sub (ws' := [(a0, .inr (6, [.ref t0, .ref s0, .int lw, .int x_714, r_4])), (t0, .inr (8, [.ref t1, .int ln, .int v_759, .int v_760, .int v_761, .int v_762])), (t1, .inl (K 0, 400, .inl fb)), (s0, .inr (7, [.ref s1, .ref s2, s_2, .int (u_771.2.2.2.1 0)])), (s2, .inl (K 0, 800, .inl (u_771.2.1 0)))]) [0, 1, 2, 3, 4] (by decide +kernel) rfl
            exact W.zret (v := 1) hx hb hr (by decide +kernel) (fun t ht hW => ⟨⟨1, ((fun _ => 0, fun i => match i with | _ => (u_771.2.1 0), fun _ => fun _ => 0, fun i => match i with | 0 => x_714 | 1 => v_759 | 2 => v_760 | 3 => v_761 | 4 => v_762 | _ => (u_771.2.2.2.1 0), fun _ => 0, fun _ => fun _ => none) : Su), rfl, ⟨(show 0 ≤ (1 : Int32).toInt ∧ (1 : Int32).toInt ≤ 1 by decide), (show 0 ≤ (x_714 : Int32).toInt ∧ (x_714 : Int32).toInt ≤ 50 by rw [hx_714]; omega), (show 0 ≤ (v_759 : Int32).toInt ∧ (v_759 : Int32).toInt ≤ 400 by omega), (show 0 ≤ (v_760 : Int32).toInt ∧ (v_760 : Int32).toInt ≤ 400 by omega), (show (-1) ≤ (v_762 : Int32).toInt ∧ (v_762 : Int32).toInt ≤ 1000000 by omega), (show 0 ≤ ((u_771.2.2.2.1 0) : Int32).toInt ∧ ((u_771.2.2.2.1 0) : Int32).toInt ≤ 800 by omega), k_773, hE.symm, trivial⟩, (⟨by rw [ht]; exact hP9, hD9⟩ : Wd D A _ t)⟩, hS.F ht⟩) hS.2.2 dX6_part_252
          have j_776 : ∀ (v_754 : Int32) (v_755 : Int32) (v_756 : Int32) (v_757 : Int32) (hv_754 : 0 ≤ v_754.toInt ∧ v_754.toInt ≤ 400) (hv_755 : 0 ≤ v_755.toInt ∧ v_755.toInt ≤ 400) (hv_757 : (-1) ≤ v_757.toInt ∧ v_757.toInt ≤ 1000000) (hk0_j_776 : lw.toInt ≤ 0) (hE : E_w_part Es d lw pa ln tf tt ti tu fb us fc = E_w_part_j218 us fc x_714 v_754 v_755 v_756 v_757) (H : Heap) (locs : List Loc) (hP : va_P D vwCl [(a0, .inr (6, [.ref t0, .ref s0, .int lw, .int x_714, r_4])), (s0, .inr (7, [.ref s1, .ref s2, s_2, .int us])), (s2, .inl (K 0, 800, .inl fc)), (t0, .inr (8, [.ref t1, .int ln, .int v_754, .int v_755, .int v_756, .int v_757])), (t1, .inl (K 0, 400, .inl fb))] H) (hD : va_D A [(a0, .inr (6, [.ref t0, .ref s0, .int lw, .int x_714, r_4])), (s0, .inr (7, [.ref s1, .ref s2, s_2, .int us])), (s2, .inl (K 0, 800, .inl fc)), (t0, .inr (8, [.ref t1, .int ln, .int v_754, .int v_755, .int v_756, .int v_757])), (t1, .inl (K 0, 400, .inl fb))]) (hS : va_S A s.heap H locs) (ls : Array Slot) (hl : lv_has ls 4 []), W p l e ({ frames := fr + 5, cells := 0, slots := 0, locals := lo + 110 }) s m (([.ref a0, .int d] : List Value).toArray) below meth c H locs 0 0 Q (F0 m 218 ls []) := by
            clear hE hP hD hS hl
            intro v_754 v_755 v_756 v_757 hv_754 hv_755 hv_757 hk0_j_776 hE H locs hP hD hS ls hl
            replace hE := hE.trans (E_w_part_j218.eq_def _ _ _ _ _ _ _)
            refine lv_iconst (v := 0) hx hb dX6_part_218 (by decide +kernel) ?_
            rw [← hQ]
            have hP9 := hP.sub (ws' := [(a0, .inr (6, [.ref t0, .ref s0, .int lw, .int x_714, r_4])), (t0, .inr (8, [.ref t1, .int ln, .int v_754, .int v_755, .int v_756, .int v_757])), (t1, .inl (K 0, 400, .inl fb)), (s0, .inr (7, [.ref s1, .ref s2, s_2, .int us])), (s2, .inl (K 0, 800, .inl fc))]) [0, 3, 4, 1, 2] rfl
            have hD9 := hD.sub (ws' := [(a0, .inr (6, [.ref t0, .ref s0, .int lw, .int x_714, r_4])), (t0, .inr (8, [.ref t1, .int ln, .int v_754, .int v_755, .int v_756, .int v_757])), (t1, .inl (K 0, 400, .inl fb)), (s0, .inr (7, [.ref s1, .ref s2, s_2, .int us])), (s2, .inl (K 0, 800, .inl fc))]) [0, 3, 4, 1, 2] (by decide +kernel) rfl
            exact W.zret (v := 0) hx hb hr (by decide +kernel) (fun t ht hW => ⟨⟨0, ((fun _ => 0, fun i => match i with | _ => fc, fun _ => fun _ => 0, fun i => match i with | 0 => x_714 | 1 => v_754 | 2 => v_755 | 3 => v_756 | 4 => v_757 | _ => us, fun _ => 0, fun _ => fun _ => none) : Su), rfl, ⟨(show 0 ≤ (0 : Int32).toInt ∧ (0 : Int32).toInt ≤ 1 by decide), (show 0 ≤ (x_714 : Int32).toInt ∧ (x_714 : Int32).toInt ≤ 50 by rw [hx_714]; omega), (show 0 ≤ (v_754 : Int32).toInt ∧ (v_754 : Int32).toInt ≤ 400 by omega), (show 0 ≤ (v_755 : Int32).toInt ∧ (v_755 : Int32).toInt ≤ 400 by omega), (show (-1) ≤ (v_757 : Int32).toInt ∧ (v_757 : Int32).toInt ≤ 1000000 by omega), (show 0 ≤ (us : Int32).toInt ∧ (us : Int32).toInt ≤ 800 by omega), zfc, hE.symm, trivial⟩, (⟨by rw [ht]; exact hP9, hD9⟩ : Wd D A _ t)⟩, hS.F ht⟩) hS.2.2 dX6_part_219
          refine lv_if_eq (tgt := 146) hx hb dX6_part_138 (by decide +kernel) (fun c_777 => ?_) (fun c_777 => ?_)
          · have c_777i := i_eq (x := lw.toInt) (y := 0) rfl rfl c_777
            replace hE := hE.trans (if_pos c_777)
            refine va_ldcS hx hb hown (hG.str 12 (by decide +kernel)).1 dX6_part_146 ?_
            refine W.eq (g2 := F0 m 148 ls [.ref (g 32), .ref t0]) rfl ?_
            refine pci (va_runVN (As := [.ref (g 32)]) (rest := []) ⟨hx, hb, hml, hown, hts⟩ (w_find l D K g L G 12 t0 t1 ln tf tt ti tu fb H.size (by decide +kernel) (by first | omega | decide) (by first | omega | decide) (by first | omega | decide) (by first | omega | decide)) ⟨va_cnB 1 hts gX6_part_X8_find_n67 rfl rfl rfl (nst_at hN 33 rfl) (hts _ mm_X6_part_147) (by decide +kernel) ⟨by show (4) + 1 ≤ fr + 5; omega, by show 8 + (6 + 11) + (85) ≤ lo + 110; omega⟩, (hts _ mm_X6_part_478), (hts _ mm_X6_part_23)⟩ (mkVY hK hN (hP.sub [1, 2] rfl) (hD.sub [1, 2] (by decide +kernel) rfl) (ci := 8) (q0 := 0) rfl rfl (fun U hU hW => ⟨Gl.at hG hS hW hU (fun _ h9 => h9.elim), Pool.at hPl hS hU (fun _ h9 => h9.elim), Ro.heap hU (Ro.nil)⟩)) rfl rfl hl.1 rfl (lv_room (Nat.le_of_ble_eq_true rfl)) dX6_part_148 ⟨Nat.le_of_ble_eq_true rfl, Nat.le_of_ble_eq_true rfl⟩) (fun r_778 hw => ?_)
            obtain ⟨h_780, k_779, -⟩ := hw
            replace hE := hE.trans (Lt_in k_779)
            refine lv_istore_n (lv' := [(2, .int r_778), (0, .ref a0), (1, .int d)]) hx hb dX6_part_151 rfl hl (by decide +kernel) rfl (fun ls hl => ?_)
            refine lv_iload_n hx hb dX6_part_152 rfl (lv_at hl 0 rfl) ?_
            refine lv_iconst (v := (-1)) hx hb dX6_part_153 (by decide +kernel) ?_
            refine lv_icmp_ne (tgt := 159) hx hb dX6_part_154 (by decide +kernel) (fun c_781 => ?_) (fun c_781 => ?_)
            · have c_781i := i_ne (x := r_778.toInt) (y := (-1)) rfl rfl c_781
              replace hE := hE.trans (if_neg c_781)
              refine lv_aload_n hx hb dX6_part_159 rfl (lv_at hl 1 rfl) ?_
              refine va_get (ci := 6) (v := .ref t0) (C := RX6) (T := TX6) (N := 5) hx hb hts hw6 hown hK hP 0 rfl rfl 0 (by decide +kernel) (hts _ mm_X6_part_231) (fun _ h9 => h9) rfl dX6_part_160 ?_
              refine kcv (S := Su) (wr := [(a0, .inr (6, [.ref t0, .ref s0, .int lw, .int x_714, r_4])), (s0, .inr (7, [.ref s1, .ref s2, s_2, .int us])), (s2, .inl (K 0, 800, .inl fc))]) (va_runVN (As := []) (rest := []) ⟨hx, hb, hml, hown, hts⟩ (w_step l D K t0 t1 ln tf tt ti tu fb H.size (by first | omega | decide) (by first | omega | decide)) ⟨va_cnB 0 hts gX6_part_X8_step_n47 rfl rfl rfl (nst_at hN 32 rfl) (hts _ mm_X6_part_147) (by decide +kernel) ⟨by show (1) + 1 ≤ fr + 5; omega, by show 8 + (5 + 11) + (14) ≤ lo + 110; omega⟩, (hts _ mm_X6_part_471), (hts _ mm_X6_part_21)⟩ (mkV hK hN (hP.sub [1, 2] rfl) (hD.sub [1, 2] (by decide +kernel) rfl) (ci := 8) (q0 := 0) rfl rfl) rfl rfl hl.1 rfl (lv_room (Nat.le_of_ble_eq_true rfl)) dX6_part_163 ⟨Nat.le_of_ble_eq_true rfl, Nat.le_of_ble_eq_true rfl⟩) hP hD hS hA [1, 2] [0, 3, 4] rfl rfl (by decide +kernel) (by decide +kernel) (fun u_783 H locs hw hP0 hD0 hS0 => ?_)
              clear hP hD hS
              have hP := hP0
              have hD := hD0
              have hS := hS0
              clear hP0 hD0 hS0
              replace hP : va_P D vwCl [(a0, .inr (6, [.ref t0, .ref s0, .int lw, .int x_714, r_4])), (s0, .inr (7, [.ref s1, .ref s2, s_2, .int us])), (s2, .inl (K 0, 800, .inl fc)), (t0, .inr (8, [.ref t1, .int ln, .int (u_783.2.2.2.1 0), .int (u_783.2.2.2.1 1), .int (u_783.2.2.2.1 2), .int (u_783.2.2.2.1 3)])), (t1, .inl (K 0, 400, .inl fb))] H := hP
              replace hD : va_D A [(a0, .inr (6, [.ref t0, .ref s0, .int lw, .int x_714, r_4])), (s0, .inr (7, [.ref s1, .ref s2, s_2, .int us])), (s2, .inl (K 0, 800, .inl fc)), (t0, .inr (8, [.ref t1, .int ln, .int (u_783.2.2.2.1 0), .int (u_783.2.2.2.1 1), .int (u_783.2.2.2.1 2), .int (u_783.2.2.2.1 3)])), (t1, .inl (K 0, 400, .inl fb))] := hD
              obtain ⟨k_784, k_785, k_786, k_787, -⟩ := hw
              replace hE := ((hE.trans (Lt2_in k_787)).trans (Lt2_in rfl)).trans (Lt2_in rfl)
              refine lv_aload_n hx hb dX6_part_166 rfl (lv_at hl 1 rfl) ?_
              refine va_get (ci := 6) (v := .int lw) (C := RX6) (T := TX6) (N := 5) hx hb hts hw6 hown hK hP 0 rfl rfl 2 (by decide +kernel) (hts _ mm_X6_part_233) (fun _ h9 => h9) rfl dX6_part_167 ?_
              refine lv_if_eq (tgt := 177) hx hb dX6_part_170 (by decide +kernel) (fun c_788 => ?_) (fun c_788 => ?_)
              · have c_788i := i_eq (x := lw.toInt) (y := 0) rfl rfl c_788
                replace hE := hE.trans (if_pos c_788)
                refine lv_iload_n hx hb dX6_part_177 rfl (lv_at hl 0 rfl) ?_
                refine lv_iconst (v := 5) hx hb dX6_part_178 (by decide +kernel) ?_
                refine lv_isub hx hb dX6_part_179 ?_
                refine lv_topi (fun x_789 ex_789 => ?_)
                replace hE := hE.trans (Lt_in ex_789)
                have hx_789 : x_789.toInt = (r_778.toInt - 5) := by rw [ex_789]; exact i_sub rfl (show (5 : Int32).toInt = 5 from rfl) (by omega)
                refine lv_istore_n (lv' := [(3, .int x_789), (2, .int r_778), (0, .ref a0), (1, .int d)]) hx hb dX6_part_180 rfl hl (by decide +kernel) rfl (fun ls hl => ?_)
                refine lv_iload_n hx hb dX6_part_181 rfl (lv_at hl 0 rfl) ?_
                refine lv_if_lt (tgt := 241) hx hb dX6_part_182 (by decide +kernel) (fun c_790 => ?_) (fun c_790 => ?_)
                · have c_790i := i_lt (x := (r_778.toInt - 5)) (y := 0) hx_789 rfl c_790
                  replace hE := hE.trans (if_pos c_790)
                  exact j_769 r_778 (u_783.2.2.2.1 0) (u_783.2.2.2.1 1) (u_783.2.2.2.1 2) (u_783.2.2.2.1 3) (by omega) (by omega) (by omega) (by omega) hE _ _ hP hD hS ls (lv_sub hl [1, 2] rfl)
                · have c_790i := i_nlt (x := (r_778.toInt - 5)) (y := 0) hx_789 rfl c_790
                  replace hE := hE.trans (if_neg c_790)
                  refine lv_iload_n hx hb dX6_part_185 rfl (lv_at hl 0 rfl) ?_
                  refine va_gets (C := "SmokeTune$Reader") (n := "TELLING_FROM") (d := "[I") (v := .ref (g 6)) hx hb (hG.arr 6 (by decide +kernel)).1 hS hown (hts _ mm_X6_part_541) (fun _ h9 => h9) dX6_part_186 ?_
                  refine va_tlen (v := 3) hx hb (hG.arr 6 (by decide +kernel)).2 hS rfl dX6_part_189 ?_
                  refine lv_icmp_ge (tgt := 241) hx hb dX6_part_190 (by decide +kernel) (fun c_791 => ?_) (fun c_791 => ?_)
                  · have c_791i := i_le (x := 3) (y := (r_778.toInt - 5)) rfl hx_789 c_791
                    replace hE := hE.trans (if_pos c_791)
                    exact j_769 r_778 (u_783.2.2.2.1 0) (u_783.2.2.2.1 1) (u_783.2.2.2.1 2) (u_783.2.2.2.1 3) (by omega) (by omega) (by omega) (by omega) hE _ _ hP hD hS ls (lv_sub hl [1, 2] rfl)
                  · have c_791i := i_nle (x := 3) (y := (r_778.toInt - 5)) rfl hx_789 c_791
                    replace hE := hE.trans (if_neg c_791)
                    refine lv_aload_n hx hb dX6_part_193 rfl (lv_at hl 2 rfl) ?_
                    refine va_get (ci := 6) (v := .ref t0) (C := RX6) (T := TX6) (N := 5) hx hb hts hw6 hown hK hP 0 rfl rfl 0 (by decide +kernel) (hts _ mm_X6_part_231) (fun _ h9 => h9) rfl dX6_part_194 ?_
                    refine va_getN (ci := 8) (v := .int (u_783.2.2.2.1 3)) (C := RX8) (T := TX8) (N := 6) hx hb hts hw8 hown hK hP 3 rfl rfl 5 (by decide +kernel) (nst_use hN 124 rfl) (fun _ h9 => h9) rfl dX6_part_197 ?_
                    refine lv_if_lt (tgt := 218) hx hb dX6_part_200 (by decide +kernel) (fun c_792 => ?_) (fun c_792 => ?_)
                    · have c_792i := i_lt (x := (u_783.2.2.2.1 3).toInt) (y := 0) rfl rfl c_792
                      replace hE := hE.trans (if_pos c_792)
                      exact j_776 (u_783.2.2.2.1 0) (u_783.2.2.2.1 1) (u_783.2.2.2.1 2) (u_783.2.2.2.1 3) (by omega) (by omega) (by omega) (by omega) hE _ _ hP hD hS ls (lv_sub hl [] rfl)
                    · have c_792i := i_nlt (x := (u_783.2.2.2.1 3).toInt) (y := 0) rfl rfl c_792
                      replace hE := hE.trans (if_neg c_792)
                      refine lv_aload_n hx hb dX6_part_203 rfl (lv_at hl 2 rfl) ?_
                      refine va_get (ci := 6) (v := .ref t0) (C := RX6) (T := TX6) (N := 5) hx hb hts hw6 hown hK hP 0 rfl rfl 0 (by decide +kernel) (hts _ mm_X6_part_231) (fun _ h9 => h9) rfl dX6_part_204 ?_
                      refine va_getN (ci := 8) (v := .int (u_783.2.2.2.1 3)) (C := RX8) (T := TX8) (N := 6) hx hb hts hw8 hown hK hP 3 rfl rfl 5 (by decide +kernel) (nst_use hN 124 rfl) (fun _ h9 => h9) rfl dX6_part_207 ?_
                      refine va_gets (C := "SmokeTune$Reader") (n := "TELLING_MOST") (d := "[I") (v := .ref (g 7)) hx hb (hG.arr 7 (by decide +kernel)).1 hS hown (hts _ mm_X6_part_542) (fun _ h9 => h9) dX6_part_210 ?_
                      refine lv_iload_n hx hb dX6_part_213 rfl (lv_at hl 0 rfl) ?_
                      refine va_ti hx hb (hG.arr 7 (by decide +kernel)).2 hS (show vp_in _ 3 from (i_in hx_789 (by omega))) rfl dX6_part_214 ?_
                      refine lv_topi (fun x_793 ex_793 => ?_)
                      replace hE := hE.trans (Lt_in ex_793)
                      have hx_793 : 6 ≤ x_793.toInt ∧ x_793.toInt ≤ 7 := by rw [ex_793]; exact Rg.at sr_7 hx_789 (show 0 ≤ (r_778.toInt - 5) ∧ (r_778.toInt - 5) < _ by omega)
                      refine lv_icmp_le (tgt := 220) hx hb dX6_part_215 (by decide +kernel) (fun c_794 => ?_) (fun c_794 => ?_)
                      · have c_794i := i_le (x := (u_783.2.2.2.1 3).toInt) (y := x_793.toInt) rfl rfl c_794
                        replace hE := hE.trans (if_pos c_794)
                        refine va_gets (C := "SmokeTune$Reader") (n := "TELLING_FROM") (d := "[I") (v := .ref (g 6)) hx hb (hG.arr 6 (by decide +kernel)).1 hS hown (hts _ mm_X6_part_541) (fun _ h9 => h9) dX6_part_220 ?_
                        refine lv_iload_n hx hb dX6_part_223 rfl (lv_at hl 0 rfl) ?_
                        refine va_ti hx hb (hG.arr 6 (by decide +kernel)).2 hS (show vp_in _ 3 from (i_in hx_789 (by omega))) rfl dX6_part_224 ?_
                        refine lv_topi (fun x_795 ex_795 => ?_)
                        replace hE := hE.trans (Lt_in ex_795)
                        have hx_795 : 5 ≤ x_795.toInt ∧ x_795.toInt ≤ 21 := by rw [ex_795]; exact Rg.at sr_6 hx_789 (show 0 ≤ (r_778.toInt - 5) ∧ (r_778.toInt - 5) < _ by omega)
                        refine lv_aload_n hx hb dX6_part_225 rfl (lv_at hl 2 rfl) ?_
                        refine va_get (ci := 6) (v := .ref t0) (C := RX6) (T := TX6) (N := 5) hx hb hts hw6 hown hK hP 0 rfl rfl 0 (by decide +kernel) (hts _ mm_X6_part_231) (fun _ h9 => h9) rfl dX6_part_226 ?_
                        refine va_getN (ci := 8) (v := .int (u_783.2.2.2.1 3)) (C := RX8) (T := TX8) (N := 6) hx hb hts hw8 hown hK hP 3 rfl rfl 5 (by decide +kernel) (nst_use hN 124 rfl) (fun _ h9 => h9) rfl dX6_part_229 ?_
                        refine lv_iadd hx hb dX6_part_232 ?_
                        refine lv_topi (fun x_796 ex_796 => ?_)
                        replace hE := hE.trans (Lt_in ex_796)
                        have hx_796 : x_796.toInt = (x_795.toInt + (u_783.2.2.2.1 3).toInt) := by rw [ex_796]; exact i_add rfl rfl (by omega)
                        refine lv_istore_n (lv' := [(2, .int x_796), (3, .int x_789), (0, .ref a0), (1, .int d)]) hx hb dX6_part_233 rfl hl (by decide +kernel) rfl (fun ls hl => ?_)
                        refine lv_aload_n hx hb dX6_part_234 rfl (lv_at hl 2 rfl) ?_
                        refine va_get (ci := 6) (v := .ref t0) (C := RX6) (T := TX6) (N := 5) hx hb hts hw6 hown hK hP 0 rfl rfl 0 (by decide +kernel) (hts _ mm_X6_part_231) (fun _ h9 => h9) rfl dX6_part_235 ?_
                        refine kcv (S := Su) (wr := [(a0, .inr (6, [.ref t0, .ref s0, .int lw, .int x_714, r_4])), (s0, .inr (7, [.ref s1, .ref s2, s_2, .int us])), (s2, .inl (K 0, 800, .inl fc))]) (va_runVN (As := []) (rest := []) ⟨hx, hb, hml, hown, hts⟩ (w_step l D K t0 t1 ln (u_783.2.2.2.1 0) (u_783.2.2.2.1 1) (u_783.2.2.2.1 2) (u_783.2.2.2.1 3) fb H.size (by first | omega | decide) (by first | omega | decide)) ⟨va_cnB 0 hts gX6_part_X8_step_n47 rfl rfl rfl (nst_at hN 32 rfl) (hts _ mm_X6_part_147) (by decide +kernel) ⟨by show (1) + 1 ≤ fr + 5; omega, by show 8 + (5 + 11) + (14) ≤ lo + 110; omega⟩, (hts _ mm_X6_part_471), (hts _ mm_X6_part_21)⟩ (mkV hK hN (hP.sub [3, 4] rfl) (hD.sub [3, 4] (by decide +kernel) rfl) (ci := 8) (q0 := 0) rfl rfl) rfl rfl hl.1 rfl (lv_room (Nat.le_of_ble_eq_true rfl)) dX6_part_238 ⟨Nat.le_of_ble_eq_true rfl, Nat.le_of_ble_eq_true rfl⟩) hP hD hS hA [3, 4] [0, 1, 2] rfl rfl (by decide +kernel) (by decide +kernel) (fun u_798 H locs hw hP0 hD0 hS0 => ?_)
                        clear hP hD hS
                        have hP := hP0
                        have hD := hD0
                        have hS := hS0
                        clear hP0 hD0 hS0
                        replace hP : va_P D vwCl [(a0, .inr (6, [.ref t0, .ref s0, .int lw, .int x_714, r_4])), (s0, .inr (7, [.ref s1, .ref s2, s_2, .int us])), (s2, .inl (K 0, 800, .inl fc)), (t0, .inr (8, [.ref t1, .int ln, .int (u_798.2.2.2.1 0), .int (u_798.2.2.2.1 1), .int (u_798.2.2.2.1 2), .int (u_798.2.2.2.1 3)])), (t1, .inl (K 0, 400, .inl fb))] H := hP
                        replace hD : va_D A [(a0, .inr (6, [.ref t0, .ref s0, .int lw, .int x_714, r_4])), (s0, .inr (7, [.ref s1, .ref s2, s_2, .int us])), (s2, .inl (K 0, 800, .inl fc)), (t0, .inr (8, [.ref t1, .int ln, .int (u_798.2.2.2.1 0), .int (u_798.2.2.2.1 1), .int (u_798.2.2.2.1 2), .int (u_798.2.2.2.1 3)])), (t1, .inl (K 0, 400, .inl fb))] := hD
                        obtain ⟨k_799, k_800, k_801, k_802, -⟩ := hw
                        replace hE := ((hE.trans (Lt2_in k_802)).trans (Lt2_in rfl)).trans (Lt2_in rfl)
                        exact j_769 x_796 (u_798.2.2.2.1 0) (u_798.2.2.2.1 1) (u_798.2.2.2.1 2) (u_798.2.2.2.1 3) (by rw [hx_796]; omega) (by omega) (by omega) (by omega) hE _ _ hP hD hS ls (lv_sub hl [0, 2] rfl)
                      · have c_794i := i_nle (x := (u_783.2.2.2.1 3).toInt) (y := x_793.toInt) rfl rfl c_794
                        replace hE := hE.trans (if_neg c_794)
                        exact j_776 (u_783.2.2.2.1 0) (u_783.2.2.2.1 1) (u_783.2.2.2.1 2) (u_783.2.2.2.1 3) (by omega) (by omega) (by omega) (by omega) hE _ _ hP hD hS ls (lv_sub hl [] rfl)
              · have c_788i := i_ne (x := lw.toInt) (y := 0) rfl rfl c_788
                exfalso; omega
            · have c_781i := i_eq (x := r_778.toInt) (y := (-1)) rfl rfl c_781
              replace hE := hE.trans (if_pos c_781)
              refine lv_iconst (v := 0) hx hb dX6_part_157 (by decide +kernel) ?_
              rw [← hQ]
              have hP9 := hP.sub (ws' := [(a0, .inr (6, [.ref t0, .ref s0, .int lw, .int x_714, r_4])), (t0, .inr (8, [.ref t1, .int ln, .int tf, .int tt, .int ti, .int tu])), (t1, .inl (K 0, 400, .inl fb)), (s0, .inr (7, [.ref s1, .ref s2, s_2, .int us])), (s2, .inl (K 0, 800, .inl fc))]) [0, 1, 2, 3, 4] rfl
              have hD9 := hD.sub (ws' := [(a0, .inr (6, [.ref t0, .ref s0, .int lw, .int x_714, r_4])), (t0, .inr (8, [.ref t1, .int ln, .int tf, .int tt, .int ti, .int tu])), (t1, .inl (K 0, 400, .inl fb)), (s0, .inr (7, [.ref s1, .ref s2, s_2, .int us])), (s2, .inl (K 0, 800, .inl fc))]) [0, 1, 2, 3, 4] (by decide +kernel) rfl
              exact W.zret (v := 0) hx hb hr (by decide +kernel) (fun t ht hW => ⟨⟨0, ((fun _ => 0, fun i => match i with | _ => fc, fun _ => fun _ => 0, fun i => match i with | 0 => x_714 | 1 => tf | 2 => tt | 3 => ti | 4 => tu | _ => us, fun _ => 0, fun _ => fun _ => none) : Su), rfl, ⟨(show 0 ≤ (0 : Int32).toInt ∧ (0 : Int32).toInt ≤ 1 by decide), (show 0 ≤ (x_714 : Int32).toInt ∧ (x_714 : Int32).toInt ≤ 50 by rw [hx_714]; omega), (show 0 ≤ (tf : Int32).toInt ∧ (tf : Int32).toInt ≤ 400 by omega), (show 0 ≤ (tt : Int32).toInt ∧ (tt : Int32).toInt ≤ 400 by omega), (show (-1) ≤ (tu : Int32).toInt ∧ (tu : Int32).toInt ≤ 1000000 by omega), (show 0 ≤ (us : Int32).toInt ∧ (us : Int32).toInt ≤ 800 by omega), zfc, hE.symm, trivial⟩, (⟨by rw [ht]; exact hP9, hD9⟩ : Wd D A _ t)⟩, hS.F ht⟩) hS.2.2 dX6_part_158
          · have c_777i := i_ne (x := lw.toInt) (y := 0) rfl rfl c_777
            replace hE := hE.trans (if_neg c_777)
            refine va_ldcS hx hb hown (hG.str 11 (by decide +kernel)).1 dX6_part_141 ?_
            refine W.eq (g2 := F0 m 143 ls [.ref (g 30), .ref t0]) rfl ?_
            refine lv_goto (tgt := 148) hx hb dX6_part_143 (by decide +kernel) ?_
            refine pci (va_runVN (As := [.ref (g 30)]) (rest := []) ⟨hx, hb, hml, hown, hts⟩ (w_find l D K g L G 11 t0 t1 ln tf tt ti tu fb H.size (by decide +kernel) (by first | omega | decide) (by first | omega | decide) (by first | omega | decide) (by first | omega | decide)) ⟨va_cnB 1 hts gX6_part_X8_find_n67 rfl rfl rfl (nst_at hN 33 rfl) (hts _ mm_X6_part_147) (by decide +kernel) ⟨by show (4) + 1 ≤ fr + 5; omega, by show 8 + (6 + 11) + (85) ≤ lo + 110; omega⟩, (hts _ mm_X6_part_478), (hts _ mm_X6_part_23)⟩ (mkVY hK hN (hP.sub [1, 2] rfl) (hD.sub [1, 2] (by decide +kernel) rfl) (ci := 8) (q0 := 0) rfl rfl (fun U hU hW => ⟨Gl.at hG hS hW hU (fun _ h9 => h9.elim), Pool.at hPl hS hU (fun _ h9 => h9.elim), Ro.heap hU (Ro.nil)⟩)) rfl rfl hl.1 rfl (lv_room (Nat.le_of_ble_eq_true rfl)) dX6_part_148 ⟨Nat.le_of_ble_eq_true rfl, Nat.le_of_ble_eq_true rfl⟩) (fun r_803 hw => ?_)
            obtain ⟨h_805, k_804, -⟩ := hw
            replace hE := hE.trans (Lt_in k_804)
            refine lv_istore_n (lv' := [(2, .int r_803), (0, .ref a0), (1, .int d)]) hx hb dX6_part_151 rfl hl (by decide +kernel) rfl (fun ls hl => ?_)
            refine lv_iload_n hx hb dX6_part_152 rfl (lv_at hl 0 rfl) ?_
            refine lv_iconst (v := (-1)) hx hb dX6_part_153 (by decide +kernel) ?_
            refine lv_icmp_ne (tgt := 159) hx hb dX6_part_154 (by decide +kernel) (fun c_806 => ?_) (fun c_806 => ?_)
            · have c_806i := i_ne (x := r_803.toInt) (y := (-1)) rfl rfl c_806
              replace hE := hE.trans (if_neg c_806)
              refine lv_aload_n hx hb dX6_part_159 rfl (lv_at hl 1 rfl) ?_
              refine va_get (ci := 6) (v := .ref t0) (C := RX6) (T := TX6) (N := 5) hx hb hts hw6 hown hK hP 0 rfl rfl 0 (by decide +kernel) (hts _ mm_X6_part_231) (fun _ h9 => h9) rfl dX6_part_160 ?_
              refine kcv (S := Su) (wr := [(a0, .inr (6, [.ref t0, .ref s0, .int lw, .int x_714, r_4])), (s0, .inr (7, [.ref s1, .ref s2, s_2, .int us])), (s2, .inl (K 0, 800, .inl fc))]) (va_runVN (As := []) (rest := []) ⟨hx, hb, hml, hown, hts⟩ (w_step l D K t0 t1 ln tf tt ti tu fb H.size (by first | omega | decide) (by first | omega | decide)) ⟨va_cnB 0 hts gX6_part_X8_step_n47 rfl rfl rfl (nst_at hN 32 rfl) (hts _ mm_X6_part_147) (by decide +kernel) ⟨by show (1) + 1 ≤ fr + 5; omega, by show 8 + (5 + 11) + (14) ≤ lo + 110; omega⟩, (hts _ mm_X6_part_471), (hts _ mm_X6_part_21)⟩ (mkV hK hN (hP.sub [1, 2] rfl) (hD.sub [1, 2] (by decide +kernel) rfl) (ci := 8) (q0 := 0) rfl rfl) rfl rfl hl.1 rfl (lv_room (Nat.le_of_ble_eq_true rfl)) dX6_part_163 ⟨Nat.le_of_ble_eq_true rfl, Nat.le_of_ble_eq_true rfl⟩) hP hD hS hA [1, 2] [0, 3, 4] rfl rfl (by decide +kernel) (by decide +kernel) (fun u_808 H locs hw hP0 hD0 hS0 => ?_)
              clear hP hD hS
              have hP := hP0
              have hD := hD0
              have hS := hS0
              clear hP0 hD0 hS0
              replace hP : va_P D vwCl [(a0, .inr (6, [.ref t0, .ref s0, .int lw, .int x_714, r_4])), (s0, .inr (7, [.ref s1, .ref s2, s_2, .int us])), (s2, .inl (K 0, 800, .inl fc)), (t0, .inr (8, [.ref t1, .int ln, .int (u_808.2.2.2.1 0), .int (u_808.2.2.2.1 1), .int (u_808.2.2.2.1 2), .int (u_808.2.2.2.1 3)])), (t1, .inl (K 0, 400, .inl fb))] H := hP
              replace hD : va_D A [(a0, .inr (6, [.ref t0, .ref s0, .int lw, .int x_714, r_4])), (s0, .inr (7, [.ref s1, .ref s2, s_2, .int us])), (s2, .inl (K 0, 800, .inl fc)), (t0, .inr (8, [.ref t1, .int ln, .int (u_808.2.2.2.1 0), .int (u_808.2.2.2.1 1), .int (u_808.2.2.2.1 2), .int (u_808.2.2.2.1 3)])), (t1, .inl (K 0, 400, .inl fb))] := hD
              obtain ⟨k_809, k_810, k_811, k_812, -⟩ := hw
              replace hE := ((hE.trans (Lt2_in k_812)).trans (Lt2_in rfl)).trans (Lt2_in rfl)
              refine lv_aload_n hx hb dX6_part_166 rfl (lv_at hl 1 rfl) ?_
              refine va_get (ci := 6) (v := .int lw) (C := RX6) (T := TX6) (N := 5) hx hb hts hw6 hown hK hP 0 rfl rfl 2 (by decide +kernel) (hts _ mm_X6_part_233) (fun _ h9 => h9) rfl dX6_part_167 ?_
              refine lv_if_eq (tgt := 177) hx hb dX6_part_170 (by decide +kernel) (fun c_813 => ?_) (fun c_813 => ?_)
              · have c_813i := i_eq (x := lw.toInt) (y := 0) rfl rfl c_813
                exfalso; omega
              · have c_813i := i_ne (x := lw.toInt) (y := 0) rfl rfl c_813
                replace hE := hE.trans (if_neg c_813)
                refine lv_iconst (v := (-1)) hx hb dX6_part_173 (by decide +kernel) ?_
                refine lv_goto (tgt := 180) hx hb dX6_part_174 (by decide +kernel) ?_
                refine lv_istore_n (lv' := [(3, .int (-1)), (2, .int r_803), (0, .ref a0), (1, .int d)]) hx hb dX6_part_180 rfl hl (by decide +kernel) rfl (fun ls hl => ?_)
                refine lv_iload_n hx hb dX6_part_181 rfl (lv_at hl 0 rfl) ?_
                refine lv_if_lt (tgt := 241) hx hb dX6_part_182 (by decide +kernel) (fun c_814 => ?_) (fun c_814 => absurd (by decide +kernel) c_814)
                exact j_769 r_803 (u_808.2.2.2.1 0) (u_808.2.2.2.1 1) (u_808.2.2.2.1 2) (u_808.2.2.2.1 3) (by omega) (by omega) (by omega) (by omega) hE _ _ hP hD hS ls (lv_sub hl [1, 2] rfl)
            · have c_806i := i_eq (x := r_803.toInt) (y := (-1)) rfl rfl c_806
              replace hE := hE.trans (if_pos c_806)
              refine lv_iconst (v := 0) hx hb dX6_part_157 (by decide +kernel) ?_
              rw [← hQ]
              have hP9 := hP.sub (ws' := [(a0, .inr (6, [.ref t0, .ref s0, .int lw, .int x_714, r_4])), (t0, .inr (8, [.ref t1, .int ln, .int tf, .int tt, .int ti, .int tu])), (t1, .inl (K 0, 400, .inl fb)), (s0, .inr (7, [.ref s1, .ref s2, s_2, .int us])), (s2, .inl (K 0, 800, .inl fc))]) [0, 1, 2, 3, 4] rfl
              have hD9 := hD.sub (ws' := [(a0, .inr (6, [.ref t0, .ref s0, .int lw, .int x_714, r_4])), (t0, .inr (8, [.ref t1, .int ln, .int tf, .int tt, .int ti, .int tu])), (t1, .inl (K 0, 400, .inl fb)), (s0, .inr (7, [.ref s1, .ref s2, s_2, .int us])), (s2, .inl (K 0, 800, .inl fc))]) [0, 1, 2, 3, 4] (by decide +kernel) rfl
              exact W.zret (v := 0) hx hb hr (by decide +kernel) (fun t ht hW => ⟨⟨0, ((fun _ => 0, fun i => match i with | _ => fc, fun _ => fun _ => 0, fun i => match i with | 0 => x_714 | 1 => tf | 2 => tt | 3 => ti | 4 => tu | _ => us, fun _ => 0, fun _ => fun _ => none) : Su), rfl, ⟨(show 0 ≤ (0 : Int32).toInt ∧ (0 : Int32).toInt ≤ 1 by decide), (show 0 ≤ (x_714 : Int32).toInt ∧ (x_714 : Int32).toInt ≤ 50 by rw [hx_714]; omega), (show 0 ≤ (tf : Int32).toInt ∧ (tf : Int32).toInt ≤ 400 by omega), (show 0 ≤ (tt : Int32).toInt ∧ (tt : Int32).toInt ≤ 400 by omega), (show (-1) ≤ (tu : Int32).toInt ∧ (tu : Int32).toInt ≤ 1000000 by omega), (show 0 ≤ (us : Int32).toInt ∧ (us : Int32).toInt ≤ 800 by omega), zfc, hE.symm, trivial⟩, (⟨by rw [ht]; exact hP9, hD9⟩ : Wd D A _ t)⟩, hS.F ht⟩) hS.2.2 dX6_part_158
        · have c_715i := i_ne (x := tu.toInt) (y := (-1)) rfl rfl c_715
          replace hE := hE.trans (if_neg c_715)
          refine lv_aload_n hx hb dX6_part_105 rfl (lv_at hl 0 rfl) ?_
          refine va_get (ci := 6) (v := .ref s0) (C := RX6) (T := TX6) (N := 5) hx hb hts hw6 hown hK hP 0 rfl rfl 1 (by decide +kernel) (hts _ mm_X6_part_232) (fun _ h9 => h9) rfl dX6_part_106 ?_
          refine lv_iconst (v := 1) hx hb dX6_part_109 (by decide +kernel) ?_
          refine lv_aload_n hx hb dX6_part_110 rfl (lv_at hl 0 rfl) ?_
          refine va_get (ci := 6) (v := .ref t0) (C := RX6) (T := TX6) (N := 5) hx hb hts hw6 hown hK hP 0 rfl rfl 0 (by decide +kernel) (hts _ mm_X6_part_231) (fun _ h9 => h9) rfl dX6_part_111 ?_
          refine va_getN (ci := 8) (v := .int tu) (C := RX8) (T := TX8) (N := 6) hx hb hts hw8 hown hK hP 1 rfl rfl 5 (by decide +kernel) (nst_use hN 124 rfl) (fun _ h9 => h9) rfl dX6_part_114 ?_
          refine kci (S := Su) (wr := [(a0, .inr (6, [.ref t0, .ref s0, .int lw, .int x_714, r_4])), (t0, .inr (8, [.ref t1, .int ln, .int tf, .int tt, .int ti, .int tu])), (t1, .inl (K 0, 400, .inl fb))]) (va_runVN (As := [.int 1, .int tu]) (rest := []) ⟨hx, hb, hml, hown, hts⟩ (w_emit l D K s0 1 tu s1 s2 s_2 us fc H.size (by first | omega | decide) (by first | omega | decide) (by first | omega | decide) zfc) ⟨va_cnB 2 hts gX6_part_X7_emit_n95 rfl rfl rfl (nst_at hN 36 rfl) (hts _ mm_X6_part_148) (by decide +kernel) ⟨by show (0) + 1 ≤ fr + 5; omega, by show 8 + (3 + 11) + (0) ≤ lo + 110; omega⟩, (hts _ mm_X6_part_539), (hts _ mm_X6_part_29)⟩ (mkV hK hN (hP.sub [3, 4] rfl) (hD.sub [3, 4] (by decide +kernel) rfl) (ci := 7) (q0 := 0) rfl rfl) rfl rfl hl.1 rfl (lv_room (Nat.le_of_ble_eq_true rfl)) dX6_part_117 ⟨Nat.le_of_ble_eq_true rfl, Nat.le_of_ble_eq_true rfl⟩) hP hD hS hA [3, 4] [0, 1, 2] rfl rfl (by decide +kernel) (by decide +kernel) (fun r_815 u_816 H locs hw hP0 hD0 hS0 => ?_)
          clear hP hD hS
          have hP := hP0
          have hD := hD0
          have hS := hS0
          clear hP0 hD0 hS0
          replace hP : va_P D vwCl [(a0, .inr (6, [.ref t0, .ref s0, .int lw, .int x_714, r_4])), (t0, .inr (8, [.ref t1, .int ln, .int tf, .int tt, .int ti, .int tu])), (t1, .inl (K 0, 400, .inl fb)), (s0, .inr (7, [.ref s1, .ref s2, s_2, .int (u_816.2.2.2.1 0)])), (s2, .inl (K 0, 800, .inl (u_816.2.1 0)))] H := hP
          replace hD : va_D A [(a0, .inr (6, [.ref t0, .ref s0, .int lw, .int x_714, r_4])), (t0, .inr (8, [.ref t1, .int ln, .int tf, .int tt, .int ti, .int tu])), (t1, .inl (K 0, 400, .inl fb)), (s0, .inr (7, [.ref s1, .ref s2, s_2, .int (u_816.2.2.2.1 0)])), (s2, .inl (K 0, 800, .inl (u_816.2.1 0)))] := hD
          obtain ⟨h_820, k_817, k_818, k_819, -⟩ := hw
          replace hE := (hE.trans (Lt2_in k_819)).trans (Lt2_in rfl)
          refine lv_pop hx hb dX6_part_120 rfl ?_
          refine lv_aload_n hx hb dX6_part_121 rfl (lv_at hl 0 rfl) ?_
          refine va_get (ci := 6) (v := .ref t0) (C := RX6) (T := TX6) (N := 5) hx hb hts hw6 hown hK hP 0 rfl rfl 0 (by decide +kernel) (hts _ mm_X6_part_231) (fun _ h9 => h9) rfl dX6_part_122 ?_
          refine kcv (S := Su) (wr := [(a0, .inr (6, [.ref t0, .ref s0, .int lw, .int x_714, r_4])), (s0, .inr (7, [.ref s1, .ref s2, s_2, .int (u_816.2.2.2.1 0)])), (s2, .inl (K 0, 800, .inl (u_816.2.1 0)))]) (va_runVN (As := []) (rest := []) ⟨hx, hb, hml, hown, hts⟩ (w_step l D K t0 t1 ln tf tt ti tu fb H.size (by first | omega | decide) (by first | omega | decide)) ⟨va_cnB 0 hts gX6_part_X8_step_n47 rfl rfl rfl (nst_at hN 32 rfl) (hts _ mm_X6_part_147) (by decide +kernel) ⟨by show (1) + 1 ≤ fr + 5; omega, by show 8 + (5 + 11) + (14) ≤ lo + 110; omega⟩, (hts _ mm_X6_part_471), (hts _ mm_X6_part_21)⟩ (mkV hK hN (hP.sub [1, 2] rfl) (hD.sub [1, 2] (by decide +kernel) rfl) (ci := 8) (q0 := 0) rfl rfl) rfl rfl hl.1 rfl (lv_room (Nat.le_of_ble_eq_true rfl)) dX6_part_125 ⟨Nat.le_of_ble_eq_true rfl, Nat.le_of_ble_eq_true rfl⟩) hP hD hS hA [1, 2] [0, 3, 4] rfl rfl (by decide +kernel) (by decide +kernel) (fun u_822 H locs hw hP0 hD0 hS0 => ?_)
          clear hP hD hS
          have hP := hP0
          have hD := hD0
          have hS := hS0
          clear hP0 hD0 hS0
          replace hP : va_P D vwCl [(a0, .inr (6, [.ref t0, .ref s0, .int lw, .int x_714, r_4])), (s0, .inr (7, [.ref s1, .ref s2, s_2, .int (u_816.2.2.2.1 0)])), (s2, .inl (K 0, 800, .inl (u_816.2.1 0))), (t0, .inr (8, [.ref t1, .int ln, .int (u_822.2.2.2.1 0), .int (u_822.2.2.2.1 1), .int (u_822.2.2.2.1 2), .int (u_822.2.2.2.1 3)])), (t1, .inl (K 0, 400, .inl fb))] H := hP
          replace hD : va_D A [(a0, .inr (6, [.ref t0, .ref s0, .int lw, .int x_714, r_4])), (s0, .inr (7, [.ref s1, .ref s2, s_2, .int (u_816.2.2.2.1 0)])), (s2, .inl (K 0, 800, .inl (u_816.2.1 0))), (t0, .inr (8, [.ref t1, .int ln, .int (u_822.2.2.2.1 0), .int (u_822.2.2.2.1 1), .int (u_822.2.2.2.1 2), .int (u_822.2.2.2.1 3)])), (t1, .inl (K 0, 400, .inl fb))] := hD
          obtain ⟨k_823, k_824, k_825, k_826, -⟩ := hw
          replace hE := ((hE.trans (Lt2_in k_826)).trans (Lt2_in rfl)).trans (Lt2_in rfl)
          refine lv_iconst (v := 1) hx hb dX6_part_128 (by decide +kernel) ?_
          rw [← hQ]
          have hP9 := hP.sub (ws' := [(a0, .inr (6, [.ref t0, .ref s0, .int lw, .int x_714, r_4])), (t0, .inr (8, [.ref t1, .int ln, .int (u_822.2.2.2.1 0), .int (u_822.2.2.2.1 1), .int (u_822.2.2.2.1 2), .int (u_822.2.2.2.1 3)])), (t1, .inl (K 0, 400, .inl fb)), (s0, .inr (7, [.ref s1, .ref s2, s_2, .int (u_816.2.2.2.1 0)])), (s2, .inl (K 0, 800, .inl (u_816.2.1 0)))]) [0, 3, 4, 1, 2] rfl
          have hD9 := hD.sub (ws' := [(a0, .inr (6, [.ref t0, .ref s0, .int lw, .int x_714, r_4])), (t0, .inr (8, [.ref t1, .int ln, .int (u_822.2.2.2.1 0), .int (u_822.2.2.2.1 1), .int (u_822.2.2.2.1 2), .int (u_822.2.2.2.1 3)])), (t1, .inl (K 0, 400, .inl fb)), (s0, .inr (7, [.ref s1, .ref s2, s_2, .int (u_816.2.2.2.1 0)])), (s2, .inl (K 0, 800, .inl (u_816.2.1 0)))]) [0, 3, 4, 1, 2] (by decide +kernel) rfl
          exact W.zret (v := 1) hx hb hr (by decide +kernel) (fun t ht hW => ⟨⟨1, ((fun _ => 0, fun i => match i with | _ => (u_816.2.1 0), fun _ => fun _ => 0, fun i => match i with | 0 => x_714 | 1 => (u_822.2.2.2.1 0) | 2 => (u_822.2.2.2.1 1) | 3 => (u_822.2.2.2.1 2) | 4 => (u_822.2.2.2.1 3) | _ => (u_816.2.2.2.1 0), fun _ => 0, fun _ => fun _ => none) : Su), rfl, ⟨(show 0 ≤ (1 : Int32).toInt ∧ (1 : Int32).toInt ≤ 1 by decide), (show 0 ≤ (x_714 : Int32).toInt ∧ (x_714 : Int32).toInt ≤ 50 by rw [hx_714]; omega), (show 0 ≤ ((u_822.2.2.2.1 0) : Int32).toInt ∧ ((u_822.2.2.2.1 0) : Int32).toInt ≤ 400 by omega), (show 0 ≤ ((u_822.2.2.2.1 1) : Int32).toInt ∧ ((u_822.2.2.2.1 1) : Int32).toInt ≤ 400 by omega), (show (-1) ≤ ((u_822.2.2.2.1 3) : Int32).toInt ∧ ((u_822.2.2.2.1 3) : Int32).toInt ≤ 1000000 by omega), (show 0 ≤ ((u_816.2.2.2.1 0) : Int32).toInt ∧ ((u_816.2.2.2.1 0) : Int32).toInt ≤ 800 by omega), k_818, hE.symm, trivial⟩, (⟨by rw [ht]; exact hP9, hD9⟩ : Wd D A _ t)⟩, hS.F ht⟩) hS.2.2 dX6_part_129
      · have c_713i := i_nle (x := tu.toInt) (y := 1000) rfl rfl c_713
        replace hE := hE.trans (if_neg c_713)
        exact j_711   hE _ _ hP hD hS ls (lv_sub hl [] rfl)
  · have c_595i := i_eq (x := ti.toInt) (y := 91) rfl rfl c_595
    replace hE := hE.trans (if_pos c_595)
    refine lv_iload_n hx hb dX6_part_12 rfl (lv_at hl 1 rfl) ?_
    refine lv_bipush (v := 8) hx hb dX6_part_13 (by decide +kernel) ?_
    refine lv_icmp_lt (tgt := 20) hx hb dX6_part_15 (by decide +kernel) (fun c_827 => ?_) (fun c_827 => ?_)
    · have c_827i := i_lt (x := d.toInt) (y := 8) rfl rfl c_827
      replace hE := hE.trans (if_pos c_827)
      refine lv_aload_n hx hb dX6_part_20 rfl (lv_at hl 0 rfl) ?_
      refine va_get (ci := 6) (v := .ref t0) (C := RX6) (T := TX6) (N := 5) hx hb hts hw6 hown hK hP 0 rfl rfl 0 (by decide +kernel) (hts _ mm_X6_part_231) (fun _ h9 => h9) rfl dX6_part_21 ?_
      refine kcv (S := Su) (wr := [(a0, .inr (6, [.ref t0, .ref s0, .int lw, .int pa, r_4])), (s0, .inr (7, [.ref s1, .ref s2, s_2, .int us])), (s2, .inl (K 0, 800, .inl fc))]) (va_runVN (As := []) (rest := []) ⟨hx, hb, hml, hown, hts⟩ (w_step l D K t0 t1 ln tf tt ti tu fb s.heap.size (by first | omega | decide) (by first | omega | decide)) ⟨va_cnB 0 hts gX6_part_X8_step_n47 rfl rfl rfl (nst_at hN 32 rfl) (hts _ mm_X6_part_147) (by decide +kernel) ⟨by show (1) + 1 ≤ fr + 5; omega, by show 8 + (5 + 11) + (14) ≤ lo + 110; omega⟩, (hts _ mm_X6_part_471), (hts _ mm_X6_part_21)⟩ (mkV hK hN (hP.sub [1, 2] rfl) (hD.sub [1, 2] (by decide +kernel) rfl) (ci := 8) (q0 := 0) rfl rfl) rfl rfl hl.1 rfl (lv_room (Nat.le_of_ble_eq_true rfl)) dX6_part_24 ⟨Nat.le_of_ble_eq_true rfl, Nat.le_of_ble_eq_true rfl⟩) hP hD hS hA [1, 2] [0, 3, 4] rfl rfl (by decide +kernel) (by decide +kernel) (fun u_829 H locs hw hP0 hD0 hS0 => ?_)
      clear hP hD hS
      have hP := hP0
      have hD := hD0
      have hS := hS0
      clear hP0 hD0 hS0
      replace hP : va_P D vwCl [(a0, .inr (6, [.ref t0, .ref s0, .int lw, .int pa, r_4])), (s0, .inr (7, [.ref s1, .ref s2, s_2, .int us])), (s2, .inl (K 0, 800, .inl fc)), (t0, .inr (8, [.ref t1, .int ln, .int (u_829.2.2.2.1 0), .int (u_829.2.2.2.1 1), .int (u_829.2.2.2.1 2), .int (u_829.2.2.2.1 3)])), (t1, .inl (K 0, 400, .inl fb))] H := hP
      replace hD : va_D A [(a0, .inr (6, [.ref t0, .ref s0, .int lw, .int pa, r_4])), (s0, .inr (7, [.ref s1, .ref s2, s_2, .int us])), (s2, .inl (K 0, 800, .inl fc)), (t0, .inr (8, [.ref t1, .int ln, .int (u_829.2.2.2.1 0), .int (u_829.2.2.2.1 1), .int (u_829.2.2.2.1 2), .int (u_829.2.2.2.1 3)])), (t1, .inl (K 0, 400, .inl fb))] := hD
      obtain ⟨k_830, k_831, k_832, k_833, -⟩ := hw
      replace hE := ((hE.trans (Lt2_in k_833)).trans (Lt2_in rfl)).trans (Lt2_in rfl)
      refine lv_aload_n hx hb dX6_part_27 rfl (lv_at hl 0 rfl) ?_
      refine lv_iload_n hx hb dX6_part_28 rfl (lv_at hl 1 rfl) ?_
      refine lv_iconst (v := 1) hx hb dX6_part_29 (by decide +kernel) ?_
      refine lv_iadd hx hb dX6_part_30 ?_
      refine lv_topi (fun x_834 ex_834 => ?_)
      replace hE := hE.trans (Lt_in ex_834)
      have hx_834 : x_834.toInt = (d.toInt + 1) := by rw [ex_834]; exact i_add rfl (show (1 : Int32).toInt = 1 from rfl) (by omega)
      refine kci (S := Su) (wr := []) (va_runV (As := [.int x_834]) (rest := []) ⟨hx, hb, hml, hown, hts⟩ (hsum (by omega) l D K g L G a0 x_834 t0 s0 lw pa r_4 t1 ln (u_829.2.2.2.1 0) (u_829.2.2.2.1 1) (u_829.2.2.2.1 2) (u_829.2.2.2.1 3) fb s1 s2 s_2 us fc H.size (by first | omega | decide) (by first | omega | decide) (by first | omega | decide) (by first | omega | decide) (by first | omega | decide) (by first | omega | decide) (by first | omega | decide) (by first | omega | decide) zfc) (cwV 1 hts gX6_part_X6_sum rfl rfl rfl (by decide +kernel) ⟨by show (fr) + 1 ≤ fr + 5; omega, by show 8 + (5 + 11) + (lo) ≤ lo + 110; omega⟩) (mkVY hK hN (hP.sub [0, 3, 4, 1, 2] rfl) (hD.sub [0, 3, 4, 1, 2] (by decide +kernel) rfl) (ci := 6) (q0 := 0) rfl rfl (fun U hU hW => ⟨Gl.at hG hS hW hU (fun q h => va_free hD hS hA [0, 3, 4, 1, 2] rfl q h), Pool.at hPl hS hU (fun q h => va_free hD hS hA [0, 3, 4, 1, 2] rfl q h), Ro.heap hU (Ro.nil)⟩)) rfl rfl hl.1 rfl (lv_room (Nat.le_of_ble_eq_true rfl)) dX6_part_31 ⟨Nat.le_of_ble_eq_true rfl, Nat.le_of_ble_eq_true rfl⟩) hP hD hS hA [0, 3, 4, 1, 2] [] rfl rfl (by decide +kernel) (by decide +kernel) (fun r_835 u_836 H locs hw hP0 hD0 hS0 => ?_)
      clear hP hD hS
      have hP := hP0
      have hD := hD0
      have hS := hS0
      clear hP0 hD0 hS0
      replace hP : va_P D vwCl [(a0, .inr (6, [.ref t0, .ref s0, .int lw, .int (u_836.2.2.2.1 0), r_4])), (t0, .inr (8, [.ref t1, .int ln, .int (u_836.2.2.2.1 1), .int (u_836.2.2.2.1 2), .int (u_836.2.2.2.1 3), .int (u_836.2.2.2.1 4)])), (t1, .inl (K 0, 400, .inl fb)), (s0, .inr (7, [.ref s1, .ref s2, s_2, .int (u_836.2.2.2.1 5)])), (s2, .inl (K 0, 800, .inl (u_836.2.1 0)))] H := hP
      replace hD : va_D A [(a0, .inr (6, [.ref t0, .ref s0, .int lw, .int (u_836.2.2.2.1 0), r_4])), (t0, .inr (8, [.ref t1, .int ln, .int (u_836.2.2.2.1 1), .int (u_836.2.2.2.1 2), .int (u_836.2.2.2.1 3), .int (u_836.2.2.2.1 4)])), (t1, .inl (K 0, 400, .inl fb)), (s0, .inr (7, [.ref s1, .ref s2, s_2, .int (u_836.2.2.2.1 5)])), (s2, .inl (K 0, 800, .inl (u_836.2.1 0)))] := hD
      obtain ⟨h_844, k_837, k_838, k_839, k_840, k_841, k_842, k_843, -⟩ := hw
      replace hE := ((((((hE.trans (Lt2_in k_843)).trans (Lt2_in rfl)).trans (Lt2_in rfl)).trans (Lt2_in rfl)).trans (Lt2_in rfl)).trans (Lt2_in rfl)).trans (Lt2_in rfl)
      have j_853 : ∀ (hE : E_w_part Es d lw pa ln tf tt ti tu fb us fc = E_w_part_j49 (u_836.2.2.2.1 0) (u_836.2.2.2.1 1) (u_836.2.2.2.1 2) (u_836.2.2.2.1 3) (u_836.2.2.2.1 4) (u_836.2.2.2.1 5) (u_836.2.1 0)) (H : Heap) (locs : List Loc) (hP : va_P D vwCl [(a0, .inr (6, [.ref t0, .ref s0, .int lw, .int (u_836.2.2.2.1 0), r_4])), (t0, .inr (8, [.ref t1, .int ln, .int (u_836.2.2.2.1 1), .int (u_836.2.2.2.1 2), .int (u_836.2.2.2.1 3), .int (u_836.2.2.2.1 4)])), (t1, .inl (K 0, 400, .inl fb)), (s0, .inr (7, [.ref s1, .ref s2, s_2, .int (u_836.2.2.2.1 5)])), (s2, .inl (K 0, 800, .inl (u_836.2.1 0)))] H) (hD : va_D A [(a0, .inr (6, [.ref t0, .ref s0, .int lw, .int (u_836.2.2.2.1 0), r_4])), (t0, .inr (8, [.ref t1, .int ln, .int (u_836.2.2.2.1 1), .int (u_836.2.2.2.1 2), .int (u_836.2.2.2.1 3), .int (u_836.2.2.2.1 4)])), (t1, .inl (K 0, 400, .inl fb)), (s0, .inr (7, [.ref s1, .ref s2, s_2, .int (u_836.2.2.2.1 5)])), (s2, .inl (K 0, 800, .inl (u_836.2.1 0)))]) (hS : va_S A s.heap H locs) (ls : Array Slot) (hl : lv_has ls 4 []), W p l e ({ frames := fr + 5, cells := 0, slots := 0, locals := lo + 110 }) s m (([.ref a0, .int d] : List Value).toArray) below meth c H locs 0 0 Q (F0 m 49 ls []) := by
        clear hE hP hD hS hl
        intro hE H locs hP hD hS ls hl
        replace hE := hE.trans (E_w_part_j49.eq_def _ _ _ _ _ _ _)
        refine lv_iconst (v := 0) hx hb dX6_part_49 (by decide +kernel) ?_
        rw [← hQ]
        have hP9 := hP.sub (ws' := [(a0, .inr (6, [.ref t0, .ref s0, .int lw, .int (u_836.2.2.2.1 0), r_4])), (t0, .inr (8, [.ref t1, .int ln, .int (u_836.2.2.2.1 1), .int (u_836.2.2.2.1 2), .int (u_836.2.2.2.1 3), .int (u_836.2.2.2.1 4)])), (t1, .inl (K 0, 400, .inl fb)), (s0, .inr (7, [.ref s1, .ref s2, s_2, .int (u_836.2.2.2.1 5)])), (s2, .inl (K 0, 800, .inl (u_836.2.1 0)))]) [0, 1, 2, 3, 4] rfl
        have hD9 := hD.sub (ws' := [(a0, .inr (6, [.ref t0, .ref s0, .int lw, .int (u_836.2.2.2.1 0), r_4])), (t0, .inr (8, [.ref t1, .int ln, .int (u_836.2.2.2.1 1), .int (u_836.2.2.2.1 2), .int (u_836.2.2.2.1 3), .int (u_836.2.2.2.1 4)])), (t1, .inl (K 0, 400, .inl fb)), (s0, .inr (7, [.ref s1, .ref s2, s_2, .int (u_836.2.2.2.1 5)])), (s2, .inl (K 0, 800, .inl (u_836.2.1 0)))]) [0, 1, 2, 3, 4] (by decide +kernel) rfl
        exact W.zret (v := 0) hx hb hr (by decide +kernel) (fun t ht hW => ⟨⟨0, ((fun _ => 0, fun i => match i with | _ => (u_836.2.1 0), fun _ => fun _ => 0, fun i => match i with | 0 => (u_836.2.2.2.1 0) | 1 => (u_836.2.2.2.1 1) | 2 => (u_836.2.2.2.1 2) | 3 => (u_836.2.2.2.1 3) | 4 => (u_836.2.2.2.1 4) | _ => (u_836.2.2.2.1 5), fun _ => 0, fun _ => fun _ => none) : Su), rfl, ⟨(show 0 ≤ (0 : Int32).toInt ∧ (0 : Int32).toInt ≤ 1 by decide), (show 0 ≤ ((u_836.2.2.2.1 0) : Int32).toInt ∧ ((u_836.2.2.2.1 0) : Int32).toInt ≤ 50 by omega), (show 0 ≤ ((u_836.2.2.2.1 1) : Int32).toInt ∧ ((u_836.2.2.2.1 1) : Int32).toInt ≤ 400 by omega), (show 0 ≤ ((u_836.2.2.2.1 2) : Int32).toInt ∧ ((u_836.2.2.2.1 2) : Int32).toInt ≤ 400 by omega), (show (-1) ≤ ((u_836.2.2.2.1 4) : Int32).toInt ∧ ((u_836.2.2.2.1 4) : Int32).toInt ≤ 1000000 by omega), (show 0 ≤ ((u_836.2.2.2.1 5) : Int32).toInt ∧ ((u_836.2.2.2.1 5) : Int32).toInt ≤ 800 by omega), k_842, hE.symm, trivial⟩, (⟨by rw [ht]; exact hP9, hD9⟩ : Wd D A _ t)⟩, hS.F ht⟩) hS.2.2 dX6_part_50
      refine lv_if_eq (tgt := 49) hx hb dX6_part_34 (by decide +kernel) (fun c_854 => ?_) (fun c_854 => ?_)
      · have c_854i := i_eq (x := r_835.toInt) (y := 0) rfl rfl c_854
        replace hE := hE.trans (if_pos c_854)
        exact j_853   hE _ _ hP hD hS ls (lv_sub hl [] rfl)
      · have c_854i := i_ne (x := r_835.toInt) (y := 0) rfl rfl c_854
        replace hE := hE.trans (if_neg c_854)
        refine lv_aload_n hx hb dX6_part_37 rfl (lv_at hl 0 rfl) ?_
        refine va_get (ci := 6) (v := .ref t0) (C := RX6) (T := TX6) (N := 5) hx hb hts hw6 hown hK hP 0 rfl rfl 0 (by decide +kernel) (hts _ mm_X6_part_231) (fun _ h9 => h9) rfl dX6_part_38 ?_
        refine va_getN (ci := 8) (v := .int (u_836.2.2.2.1 3)) (C := RX8) (T := TX8) (N := 6) hx hb hts hw8 hown hK hP 1 rfl rfl 4 (by decide +kernel) (nst_use hN 123 rfl) (fun _ h9 => h9) rfl dX6_part_41 ?_
        refine lv_bipush (v := 93) hx hb dX6_part_44 (by decide +kernel) ?_
        refine lv_icmp_eq (tgt := 51) hx hb dX6_part_46 (by decide +kernel) (fun c_855 => ?_) (fun c_855 => ?_)
        · have c_855i := i_eq (x := (u_836.2.2.2.1 3).toInt) (y := 93) rfl rfl c_855
          replace hE := hE.trans (if_pos c_855)
          refine lv_aload_n hx hb dX6_part_51 rfl (lv_at hl 0 rfl) ?_
          refine va_get (ci := 6) (v := .ref t0) (C := RX6) (T := TX6) (N := 5) hx hb hts hw6 hown hK hP 0 rfl rfl 0 (by decide +kernel) (hts _ mm_X6_part_231) (fun _ h9 => h9) rfl dX6_part_52 ?_
          refine kcv (S := Su) (wr := [(a0, .inr (6, [.ref t0, .ref s0, .int lw, .int (u_836.2.2.2.1 0), r_4])), (s0, .inr (7, [.ref s1, .ref s2, s_2, .int (u_836.2.2.2.1 5)])), (s2, .inl (K 0, 800, .inl (u_836.2.1 0)))]) (va_runVN (As := []) (rest := []) ⟨hx, hb, hml, hown, hts⟩ (w_step l D K t0 t1 ln (u_836.2.2.2.1 1) (u_836.2.2.2.1 2) (u_836.2.2.2.1 3) (u_836.2.2.2.1 4) fb H.size (by first | omega | decide) (by first | omega | decide)) ⟨va_cnB 0 hts gX6_part_X8_step_n47 rfl rfl rfl (nst_at hN 32 rfl) (hts _ mm_X6_part_147) (by decide +kernel) ⟨by show (1) + 1 ≤ fr + 5; omega, by show 8 + (5 + 11) + (14) ≤ lo + 110; omega⟩, (hts _ mm_X6_part_471), (hts _ mm_X6_part_21)⟩ (mkV hK hN (hP.sub [1, 2] rfl) (hD.sub [1, 2] (by decide +kernel) rfl) (ci := 8) (q0 := 0) rfl rfl) rfl rfl hl.1 rfl (lv_room (Nat.le_of_ble_eq_true rfl)) dX6_part_55 ⟨Nat.le_of_ble_eq_true rfl, Nat.le_of_ble_eq_true rfl⟩) hP hD hS hA [1, 2] [0, 3, 4] rfl rfl (by decide +kernel) (by decide +kernel) (fun u_857 H locs hw hP0 hD0 hS0 => ?_)
          clear hP hD hS
          have hP := hP0
          have hD := hD0
          have hS := hS0
          clear hP0 hD0 hS0
          replace hP : va_P D vwCl [(a0, .inr (6, [.ref t0, .ref s0, .int lw, .int (u_836.2.2.2.1 0), r_4])), (s0, .inr (7, [.ref s1, .ref s2, s_2, .int (u_836.2.2.2.1 5)])), (s2, .inl (K 0, 800, .inl (u_836.2.1 0))), (t0, .inr (8, [.ref t1, .int ln, .int (u_857.2.2.2.1 0), .int (u_857.2.2.2.1 1), .int (u_857.2.2.2.1 2), .int (u_857.2.2.2.1 3)])), (t1, .inl (K 0, 400, .inl fb))] H := hP
          replace hD : va_D A [(a0, .inr (6, [.ref t0, .ref s0, .int lw, .int (u_836.2.2.2.1 0), r_4])), (s0, .inr (7, [.ref s1, .ref s2, s_2, .int (u_836.2.2.2.1 5)])), (s2, .inl (K 0, 800, .inl (u_836.2.1 0))), (t0, .inr (8, [.ref t1, .int ln, .int (u_857.2.2.2.1 0), .int (u_857.2.2.2.1 1), .int (u_857.2.2.2.1 2), .int (u_857.2.2.2.1 3)])), (t1, .inl (K 0, 400, .inl fb))] := hD
          obtain ⟨k_858, k_859, k_860, k_861, -⟩ := hw
          replace hE := ((hE.trans (Lt2_in k_861)).trans (Lt2_in rfl)).trans (Lt2_in rfl)
          refine lv_iconst (v := 1) hx hb dX6_part_58 (by decide +kernel) ?_
          rw [← hQ]
          have hP9 := hP.sub (ws' := [(a0, .inr (6, [.ref t0, .ref s0, .int lw, .int (u_836.2.2.2.1 0), r_4])), (t0, .inr (8, [.ref t1, .int ln, .int (u_857.2.2.2.1 0), .int (u_857.2.2.2.1 1), .int (u_857.2.2.2.1 2), .int (u_857.2.2.2.1 3)])), (t1, .inl (K 0, 400, .inl fb)), (s0, .inr (7, [.ref s1, .ref s2, s_2, .int (u_836.2.2.2.1 5)])), (s2, .inl (K 0, 800, .inl (u_836.2.1 0)))]) [0, 3, 4, 1, 2] rfl
          have hD9 := hD.sub (ws' := [(a0, .inr (6, [.ref t0, .ref s0, .int lw, .int (u_836.2.2.2.1 0), r_4])), (t0, .inr (8, [.ref t1, .int ln, .int (u_857.2.2.2.1 0), .int (u_857.2.2.2.1 1), .int (u_857.2.2.2.1 2), .int (u_857.2.2.2.1 3)])), (t1, .inl (K 0, 400, .inl fb)), (s0, .inr (7, [.ref s1, .ref s2, s_2, .int (u_836.2.2.2.1 5)])), (s2, .inl (K 0, 800, .inl (u_836.2.1 0)))]) [0, 3, 4, 1, 2] (by decide +kernel) rfl
          exact W.zret (v := 1) hx hb hr (by decide +kernel) (fun t ht hW => ⟨⟨1, ((fun _ => 0, fun i => match i with | _ => (u_836.2.1 0), fun _ => fun _ => 0, fun i => match i with | 0 => (u_836.2.2.2.1 0) | 1 => (u_857.2.2.2.1 0) | 2 => (u_857.2.2.2.1 1) | 3 => (u_857.2.2.2.1 2) | 4 => (u_857.2.2.2.1 3) | _ => (u_836.2.2.2.1 5), fun _ => 0, fun _ => fun _ => none) : Su), rfl, ⟨(show 0 ≤ (1 : Int32).toInt ∧ (1 : Int32).toInt ≤ 1 by decide), (show 0 ≤ ((u_836.2.2.2.1 0) : Int32).toInt ∧ ((u_836.2.2.2.1 0) : Int32).toInt ≤ 50 by omega), (show 0 ≤ ((u_857.2.2.2.1 0) : Int32).toInt ∧ ((u_857.2.2.2.1 0) : Int32).toInt ≤ 400 by omega), (show 0 ≤ ((u_857.2.2.2.1 1) : Int32).toInt ∧ ((u_857.2.2.2.1 1) : Int32).toInt ≤ 400 by omega), (show (-1) ≤ ((u_857.2.2.2.1 3) : Int32).toInt ∧ ((u_857.2.2.2.1 3) : Int32).toInt ≤ 1000000 by omega), (show 0 ≤ ((u_836.2.2.2.1 5) : Int32).toInt ∧ ((u_836.2.2.2.1 5) : Int32).toInt ≤ 800 by omega), k_842, hE.symm, trivial⟩, (⟨by rw [ht]; exact hP9, hD9⟩ : Wd D A _ t)⟩, hS.F ht⟩) hS.2.2 dX6_part_59
        · have c_855i := i_ne (x := (u_836.2.2.2.1 3).toInt) (y := 93) rfl rfl c_855
          replace hE := hE.trans (if_neg c_855)
          exact j_853   hE _ _ hP hD hS ls (lv_sub hl [] rfl)
    · have c_827i := i_nlt (x := d.toInt) (y := 8) rfl rfl c_827
      replace hE := hE.trans (if_neg c_827)
      refine lv_iconst (v := 0) hx hb dX6_part_18 (by decide +kernel) ?_
      rw [← hQ]
      have hP9 := hP.sub (ws' := [(a0, .inr (6, [.ref t0, .ref s0, .int lw, .int pa, r_4])), (t0, .inr (8, [.ref t1, .int ln, .int tf, .int tt, .int ti, .int tu])), (t1, .inl (K 0, 400, .inl fb)), (s0, .inr (7, [.ref s1, .ref s2, s_2, .int us])), (s2, .inl (K 0, 800, .inl fc))]) [0, 1, 2, 3, 4] rfl
      have hD9 := hD.sub (ws' := [(a0, .inr (6, [.ref t0, .ref s0, .int lw, .int pa, r_4])), (t0, .inr (8, [.ref t1, .int ln, .int tf, .int tt, .int ti, .int tu])), (t1, .inl (K 0, 400, .inl fb)), (s0, .inr (7, [.ref s1, .ref s2, s_2, .int us])), (s2, .inl (K 0, 800, .inl fc))]) [0, 1, 2, 3, 4] (by decide +kernel) rfl
      exact W.zret (v := 0) hx hb hr (by decide +kernel) (fun t ht hW => ⟨⟨0, ((fun _ => 0, fun i => match i with | _ => fc, fun _ => fun _ => 0, fun i => match i with | 0 => pa | 1 => tf | 2 => tt | 3 => ti | 4 => tu | _ => us, fun _ => 0, fun _ => fun _ => none) : Su), rfl, ⟨(show 0 ≤ (0 : Int32).toInt ∧ (0 : Int32).toInt ≤ 1 by decide), (show 0 ≤ (pa : Int32).toInt ∧ (pa : Int32).toInt ≤ 50 by omega), (show 0 ≤ (tf : Int32).toInt ∧ (tf : Int32).toInt ≤ 400 by omega), (show 0 ≤ (tt : Int32).toInt ∧ (tt : Int32).toInt ≤ 400 by omega), (show (-1) ≤ (tu : Int32).toInt ∧ (tu : Int32).toInt ≤ 1000000 by omega), (show 0 ≤ (us : Int32).toInt ∧ (us : Int32).toInt ≤ 800 by omega), zfc, hE.symm, trivial⟩, (⟨by rw [ht]; exact hP9, hD9⟩ : Wd D A _ t)⟩, hS.F ht⟩) hS.2.2 dX6_part_19
set_option maxRecDepth 100000 in
noncomputable def E_w_sum_j86 (v_3528 : Int32) (rec_3946 : Int32 → Int32 → Int32 → Int32 → Int32 → Int32 → Int32 → Int32 → Int32 → (Nat → Int32) → (Int32 × Int32 × Int32 × Int32 × Int32 × Int32 × Int32 × (Nat → Int32))) (u_3950_2_2_2_1_0 : Int32) (r_4055 : Int32) (v_4096 : Int32) (v_4097 : Int32) (v_4098 : Int32) (v_4099 : Int32) (v_4100 : Int32) (v_4101 : Int32) (f_4102 : Nat → Int32) : Int32 × Int32 × Int32 × Int32 × Int32 × Int32 × Int32 × (Nat → Int32) :=
  Lt (v_3528 + Int32.ofInt 1 : Int32) (fun x_4105 => rec_3946 x_4105 v_4096 r_4055 u_3950_2_2_2_1_0 v_4098 v_4099 v_4100 v_4101 v_4097 f_4102)
set_option maxRecDepth 100000 in
noncomputable def E_w_sum_j71 (lw : Int32) (ln : Int32) (fb : Nat → Int32) (v_3528 : Int32) (rec_3946 : Int32 → Int32 → Int32 → Int32 → Int32 → Int32 → Int32 → Int32 → Int32 → (Nat → Int32) → (Int32 × Int32 × Int32 × Int32 × Int32 × Int32 × Int32 × (Nat → Int32))) (u_3950_2_2_2_1_0 : Int32) (r_4055 : Int32) (u_4056_2_2_2_1_0 : Int32) (u_4056_2_2_2_1_1 : Int32) (u_4056_2_2_2_1_2 : Int32) (u_4056_2_2_2_1_3 : Int32) (v_4114 : Int32) (f_4115 : Nat → Int32) : Int32 × Int32 × Int32 × Int32 × Int32 × Int32 × Int32 × (Nat → Int32) :=
  Lt2 (E_w_operator 10 3 lw u_3950_2_2_2_1_0 ln u_4056_2_2_2_1_0 u_4056_2_2_2_1_1 u_4056_2_2_2_1_2 u_4056_2_2_2_1_3 fb) (fun r_4125 q0_r_4125 => Lt2 q0_r_4125 (fun u_4126_2_2_2_1_0 q1_u_4126_2_2_2_1_0 => Lt2 q1_u_4126_2_2_2_1_0 (fun u_4126_2_2_2_1_1 q2_u_4126_2_2_2_1_1 => Lt2 q2_u_4126_2_2_2_1_1 (fun u_4126_2_2_2_1_2 u_4126_2_2_2_1_3 => if r_4125 = (-1) then (((1, u_3950_2_2_2_1_0, u_4126_2_2_2_1_0, u_4126_2_2_2_1_1, u_4126_2_2_2_1_2, u_4126_2_2_2_1_3, v_4114, f_4115) : Int32 × Int32 × Int32 × Int32 × Int32 × Int32 × Int32 × (Nat → Int32))) else (E_w_sum_j86 v_3528 rec_3946 u_3950_2_2_2_1_0 r_4055 r_4125 v_4114 u_4126_2_2_2_1_0 u_4126_2_2_2_1_1 u_4126_2_2_2_1_2 u_4126_2_2_2_1_3 f_4115)))))
set_option maxRecDepth 100000 in
noncomputable def E_w_sum_j40 (lw : Int32) (ln : Int32) (fb : Nat → Int32) (v_3528 : Int32) (v_3529 : Int32) (rec_3946 : Int32 → Int32 → Int32 → Int32 → Int32 → Int32 → Int32 → Int32 → Int32 → (Nat → Int32) → (Int32 × Int32 × Int32 × Int32 × Int32 × Int32 × Int32 × (Nat → Int32))) (u_3950_2_2_2_1_0 : Int32) (u_3950_2_2_2_1_1 : Int32) (u_3950_2_2_2_1_2 : Int32) (u_3950_2_2_2_1_3 : Int32) (u_3950_2_2_2_1_4 : Int32) (v_3967 : Int32) (f_3968 : Nat → Int32) : Int32 × Int32 × Int32 × Int32 × Int32 × Int32 × Int32 × (Nat → Int32) :=
  Lt2 (E_w_operator 9 5 lw u_3950_2_2_2_1_0 ln u_3950_2_2_2_1_1 u_3950_2_2_2_1_2 u_3950_2_2_2_1_3 u_3950_2_2_2_1_4 fb) (fun r_4055 q0_r_4055 => Lt2 q0_r_4055 (fun u_4056_2_2_2_1_0 q1_u_4056_2_2_2_1_0 => Lt2 q1_u_4056_2_2_2_1_0 (fun u_4056_2_2_2_1_1 q2_u_4056_2_2_2_1_1 => Lt2 q2_u_4056_2_2_2_1_1 (fun u_4056_2_2_2_1_2 u_4056_2_2_2_1_3 => if r_4055 = (-1) then (if v_3529 = (-1) then (E_w_sum_j71 lw ln fb v_3528 rec_3946 u_3950_2_2_2_1_0 r_4055 u_4056_2_2_2_1_0 u_4056_2_2_2_1_1 u_4056_2_2_2_1_2 u_4056_2_2_2_1_3 v_3967 f_3968) else (Lt2 (E_w_emit v_3529 0 v_3967 f_3968) (fun r_4134 q0_r_4134 => Lt2 q0_r_4134 (fun u_4135_2_2_2_1_0 u_4135_2_1_0 => E_w_sum_j71 lw ln fb v_3528 rec_3946 u_3950_2_2_2_1_0 r_4055 u_4056_2_2_2_1_0 u_4056_2_2_2_1_1 u_4056_2_2_2_1_2 u_4056_2_2_2_1_3 u_4135_2_2_2_1_0 u_4135_2_1_0)))) else (E_w_sum_j86 v_3528 rec_3946 u_3950_2_2_2_1_0 r_4055 v_3529 v_3967 u_4056_2_2_2_1_0 u_4056_2_2_2_1_1 u_4056_2_2_2_1_2 u_4056_2_2_2_1_3 f_3968)))))
set_option maxRecDepth 100000 in
noncomputable def E_w_sum_l7 (Es : Int32 → Int32 → Int32 → Int32 → Int32 → Int32 → Int32 → Int32 → (Nat → Int32) → Int32 → (Nat → Int32) → (Int32 × Int32 × Int32 × Int32 × Int32 × Int32 × Int32 × (Nat → Int32))) (d : Int32) (lw : Int32) (ln : Int32) (fb : Nat → Int32) (rec_3946 : Int32 → Int32 → Int32 → Int32 → Int32 → Int32 → Int32 → Int32 → Int32 → (Nat → Int32) → (Int32 × Int32 × Int32 × Int32 × Int32 × Int32 × Int32 × (Nat → Int32))) (v_3528 : Int32) (v_3529 : Int32) (v_3530 : Int32) (v_3531 : Int32) (v_3532 : Int32) (v_3533 : Int32) (v_3534 : Int32) (v_3535 : Int32) (v_3536 : Int32) (f_3537 : Nat → Int32) : Int32 × Int32 × Int32 × Int32 × Int32 × Int32 × Int32 × (Nat → Int32) :=
  if 400 < v_3528 then (((0, v_3531, v_3532, v_3533, v_3534, v_3535, v_3536, f_3537) : Int32 × Int32 × Int32 × Int32 × Int32 × Int32 × Int32 × (Nat → Int32))) else (Lt2 (E_w_part Es d lw v_3531 ln v_3532 v_3533 v_3534 v_3535 fb v_3536 f_3537) (fun r_3949 q0_r_3949 => Lt2 q0_r_3949 (fun u_3950_2_2_2_1_0 q1_u_3950_2_2_2_1_0 => Lt2 q1_u_3950_2_2_2_1_0 (fun u_3950_2_2_2_1_1 q2_u_3950_2_2_2_1_1 => Lt2 q2_u_3950_2_2_2_1_1 (fun u_3950_2_2_2_1_2 q3_u_3950_2_2_2_1_2 => Lt2 q3_u_3950_2_2_2_1_2 (fun u_3950_2_2_2_1_3 q4_u_3950_2_2_2_1_3 => Lt2 q4_u_3950_2_2_2_1_3 (fun u_3950_2_2_2_1_4 q5_u_3950_2_2_2_1_4 => Lt2 q5_u_3950_2_2_2_1_4 (fun u_3950_2_2_2_1_5 u_3950_2_1_0 => if r_3949 = 0 then (((0, u_3950_2_2_2_1_0, u_3950_2_2_2_1_1, u_3950_2_2_2_1_2, u_3950_2_2_2_1_3, u_3950_2_2_2_1_4, u_3950_2_2_2_1_5, u_3950_2_1_0) : Int32 × Int32 × Int32 × Int32 × Int32 × Int32 × Int32 × (Nat → Int32))) else (if v_3530 = (-1) then (E_w_sum_j40 lw ln fb v_3528 v_3529 rec_3946 u_3950_2_2_2_1_0 u_3950_2_2_2_1_1 u_3950_2_2_2_1_2 u_3950_2_2_2_1_3 u_3950_2_2_2_1_4 u_3950_2_2_2_1_5 u_3950_2_1_0) else (Lt2 (E_w_emit v_3530 0 u_3950_2_2_2_1_5 u_3950_2_1_0) (fun r_4141 q0_r_4141 => Lt2 q0_r_4141 (fun u_4142_2_2_2_1_0 u_4142_2_1_0 => E_w_sum_j40 lw ln fb v_3528 v_3529 rec_3946 u_3950_2_2_2_1_0 u_3950_2_2_2_1_1 u_3950_2_2_2_1_2 u_3950_2_2_2_1_3 u_3950_2_2_2_1_4 u_4142_2_2_2_1_0 u_4142_2_1_0))))))))))))
set_option maxRecDepth 100000 in
noncomputable def E_w_sum (Es : Int32 → Int32 → Int32 → Int32 → Int32 → Int32 → Int32 → Int32 → (Nat → Int32) → Int32 → (Nat → Int32) → (Int32 × Int32 × Int32 × Int32 × Int32 × Int32 × Int32 × (Nat → Int32))) (d : Int32) (lw : Int32) (pa : Int32) (ln : Int32) (tf : Int32) (tt : Int32) (ti : Int32) (tu : Int32) (fb : Nat → Int32) (us : Int32) (fc : Nat → Int32) : Int32 × Int32 × Int32 × Int32 × Int32 × Int32 × Int32 × (Nat → Int32) :=
  Lp (α := Int32 → Int32 → Int32 → Int32 → Int32 → Int32 → Int32 → Int32 → Int32 → (Nat → Int32) → (Int32 × Int32 × Int32 × Int32 × Int32 × Int32 × Int32 × (Nat → Int32))) (E_w_sum_l7 Es d lw ln fb) (fun _ _ _ _ _ _ _ _ _ _ => ((0, 0, 0, 0, 0, 0, 0, fun _ => 0) : Int32 × Int32 × Int32 × Int32 × Int32 × Int32 × Int32 × (Nat → Int32))) ((402 - (0 : Int32).toInt : Int).toNat + 1) 0 (-1) (-1) pa tf tt ti tu us fc
set_option maxHeartbeats 4000000 in
set_option maxRecDepth 100000 in
theorem w_sum (fr lo : Nat) (DD : Int) (zDD : 0 ≤ DD ∧ DD ≤ 8) (Es : Int32 → Int32 → Int32 → Int32 → Int32 → Int32 → Int32 → Int32 → (Nat → Int32) → Int32 → (Nat → Int32) → (Int32 × Int32 × Int32 × Int32 × Int32 × Int32 × Int32 × (Nat → Int32))) (hsum : DD < 8 → SumAt fr lo (DD + 1) Es) (l : Launch) (D : va_G) (K : Nat → ClassId) (g : Nat → Nat) (L : Nat → Prop) (G : Nat → LC) (a0 : Nat) (d : Int32) (t0 : Nat) (s0 : Nat) (lw : Int32) (pa : Int32) (r_4 : Value) (t1 : Nat) (ln : Int32) (tf : Int32) (tt : Int32) (ti : Int32) (tu : Int32) (fb : Nat → Int32) (s1 : Nat) (s2 : Nat) (s_2 : Value) (us : Int32) (fc : Nat → Int32) (sz : Nat) (zln : 0 ≤ ln.toInt ∧ ln.toInt ≤ 400) (ztf : 0 ≤ tf.toInt ∧ tf.toInt ≤ 400) (ztt : 0 ≤ tt.toInt ∧ tt.toInt ≤ 400) (ztu : (-1) ≤ tu.toInt ∧ tu.toInt ≤ 1000000) (zlw : 0 ≤ lw.toInt ∧ lw.toInt ≤ 1) (zpa : 0 ≤ pa.toInt ∧ pa.toInt ≤ 50) (zd : d.toInt = DD) (zus : 0 ≤ us.toInt ∧ us.toInt ≤ 800) (zfc : Rg 800 0 1000 fc) : Met l yX6_sum wsX6_sum ({ frames := fr + 6, cells := 0, slots := 0, locals := lo + 133 }) (va_Pc [.ref a0, .int d] (PreY D K [(a0, .inr (6, [.ref t0, .ref s0, .int lw, .int pa, r_4])), (t0, .inr (8, [.ref t1, .int ln, .int tf, .int tt, .int ti, .int tu])), (t1, .inl (K 0, 400, .inl fb)), (s0, .inr (7, [.ref s1, .ref s2, s_2, .int us])), (s2, .inl (K 0, 800, .inl fc))] [] sz g L G (va_A [(a0, .inr (6, [.ref t0, .ref s0, .int lw, .int pa, r_4])), (t0, .inr (8, [.ref t1, .int ln, .int tf, .int tt, .int ti, .int tu])), (t1, .inl (K 0, 400, .inl fb)), (s0, .inr (7, [.ref s1, .ref s2, s_2, .int us])), (s2, .inl (K 0, 800, .inl fc))] sz))) (va_Qi (S := Su) (fun (r : Int32) (u : Su) => (0 ≤ r.toInt ∧ r.toInt ≤ 1) ∧ (0 ≤ (u.2.2.2.1 0).toInt ∧ (u.2.2.2.1 0).toInt ≤ 50) ∧ (0 ≤ (u.2.2.2.1 1).toInt ∧ (u.2.2.2.1 1).toInt ≤ 400) ∧ (0 ≤ (u.2.2.2.1 2).toInt ∧ (u.2.2.2.1 2).toInt ≤ 400) ∧ ((-1) ≤ (u.2.2.2.1 4).toInt ∧ (u.2.2.2.1 4).toInt ≤ 1000000) ∧ (0 ≤ (u.2.2.2.1 5).toInt ∧ (u.2.2.2.1 5).toInt ≤ 800) ∧ (Rg 800 0 1000 (u.2.1 0)) ∧ ((r, (u.2.2.2.1 0), (u.2.2.2.1 1), (u.2.2.2.1 2), (u.2.2.2.1 3), (u.2.2.2.1 4), (u.2.2.2.1 5), (u.2.1 0)) = E_w_sum Es d lw pa ln tf tt ti tu fb us fc) ∧ True) (fun u t => Wd D (va_A [(a0, .inr (6, [.ref t0, .ref s0, .int lw, .int pa, r_4])), (t0, .inr (8, [.ref t1, .int ln, .int tf, .int tt, .int ti, .int tu])), (t1, .inl (K 0, 400, .inl fb)), (s0, .inr (7, [.ref s1, .ref s2, s_2, .int us])), (s2, .inl (K 0, 800, .inl fc))] sz) ((fun u => [(a0, .inr (6, [.ref t0, .ref s0, .int lw, .int (u.2.2.2.1 0), r_4])), (t0, .inr (8, [.ref t1, .int ln, .int (u.2.2.2.1 1), .int (u.2.2.2.1 2), .int (u.2.2.2.1 3), .int (u.2.2.2.1 4)])), (t1, .inl (K 0, 400, .inl fb)), (s0, .inr (7, [.ref s1, .ref s2, s_2, .int (u.2.2.2.1 5)])), (s2, .inl (K 0, 800, .inl (u.2.1 0)))]) u) t) (va_A [(a0, .inr (6, [.ref t0, .ref s0, .int lw, .int pa, r_4])), (t0, .inr (8, [.ref t1, .int ln, .int tf, .int tt, .int ti, .int tu])), (t1, .inl (K 0, 400, .inl fb)), (s0, .inr (7, [.ref s1, .ref s2, s_2, .int us])), (s2, .inl (K 0, 800, .inl fc))] sz)) 0 0 (va_A [(a0, .inr (6, [.ref t0, .ref s0, .int lw, .int pa, r_4])), (t0, .inr (8, [.ref t1, .int ln, .int tf, .int tt, .int ti, .int tu])), (t1, .inl (K 0, 400, .inl fb)), (s0, .inr (7, [.ref s1, .ref s2, s_2, .int us])), (s2, .inl (K 0, 800, .inl fc))] sz) := by
  refine Met.ofW (cc := cX6_sum) (maxL := 5) (ret := (some .boolean)) (by decide +kernel) rfl ?_
  intro p e s m args below meth c s₁ B hml hv
  obtain ⟨rfl, ⟨hsz, hP, hK, hD0, hN⟩, hG, hPl, hRo⟩ := hv
  have hx := B.exec
  have hb := B.bytes
  have hr := B.returns
  have hts := atoms_spec (ws := wsX6_sum) B.pre
  have hown : s.vm.findClass RX6 = some m.cls := findClass_of_methodNamed B.named
  have hlocks := B.notSynchronized
  subst hsz
  have hD := hD0.self (sz := s.heap.size)
  generalize hAe : va_A [(a0, .inr (6, [.ref t0, .ref s0, .int lw, .int pa, r_4])), (t0, .inr (8, [.ref t1, .int ln, .int tf, .int tt, .int ti, .int tu])), (t1, .inl (K 0, 400, .inl fb)), (s0, .inr (7, [.ref s1, .ref s2, s_2, .int us])), (s2, .inl (K 0, 800, .inl fc))] s.heap.size = A at hD hG hPl hRo ⊢
  have hA : ∀ q : Nat, s.heap.size ≤ q → A q := fun q h => by rw [← hAe]; exact Or.inr h
  clear hAe
  have hS : va_S A s.heap s.heap [] := va_S.rf
  replace hP : va_P D vwCl [(a0, .inr (6, [.ref t0, .ref s0, .int lw, .int pa, r_4])), (t0, .inr (8, [.ref t1, .int ln, .int tf, .int tt, .int ti, .int tu])), (t1, .inl (K 0, 400, .inl fb)), (s0, .inr (7, [.ref s1, .ref s2, s_2, .int us])), (s2, .inl (K 0, 800, .inl fc))] s.heap := hP
  have hl := lv_entry [.ref a0, .int d] (n := 5) (Nat.le_of_ble_eq_true rfl)
  rw [lg_entry_eq]
  generalize (lg_sl [.ref a0, .int d] ++ List.replicate (5 - (lg_sl [.ref a0, .int d]).length) Slot.unset).toArray = ls at hl ⊢
  have hl : lv_has ls 5 [(0, .ref a0), (1, .int d)] := hl
  have hw6 : ∀ w ∈ wsX60, w ∈ wsX6_sum := fun w h => (List.mem_cons_of_mem _ (List.mem_append_left _ (List.mem_append_left _ (List.mem_append_right _ h))))
  have hw7 : ∀ w ∈ wsX70, w ∈ wsX6_sum := fun w h => (List.mem_cons_of_mem _ (List.mem_append_right _ h))
  have hw8 : ∀ w ∈ wsX80, w ∈ wsX6_sum := fun w h => (List.mem_cons_of_mem _ (List.mem_append_left _ (List.mem_append_right _ h)))
  generalize hQ : MQ below _ _ s _ _ _ = Q
  have hE := E_w_sum.eq_def Es d lw pa ln tf tt ti tu fb us fc
  refine lv_iconst (v := (-1)) hx hb dX6_sum_0 (by decide +kernel) ?_
  refine lv_istore_n (lv' := [(2, .int (-1)), (0, .ref a0), (1, .int d)]) hx hb dX6_sum_1 rfl hl (by decide +kernel) rfl (fun ls hl => ?_)
  refine lv_iconst (v := (-1)) hx hb dX6_sum_2 (by decide +kernel) ?_
  refine lv_istore_n (lv' := [(3, .int (-1)), (2, .int (-1)), (0, .ref a0), (1, .int d)]) hx hb dX6_sum_3 rfl hl (by decide +kernel) rfl (fun ls hl => ?_)
  refine lv_iconst (v := 0) hx hb dX6_sum_4 (by decide +kernel) ?_
  refine lv_istore (lv' := [(4, .int 0), (3, .int (-1)), (2, .int (-1)), (0, .ref a0), (1, .int d)]) hx hb dX6_sum_5 hl (by decide +kernel) rfl (fun ls hl => ?_)
  have lp_3946 : ∀ (nn_ : Nat) (v_3528 : Int32) (v_3529 : Int32) (v_3530 : Int32) (v_3531 : Int32) (v_3532 : Int32) (v_3533 : Int32) (v_3534 : Int32) (v_3535 : Int32) (v_3536 : Int32) (f_3537 : Nat → Int32) (hv_3528 : 0 ≤ v_3528.toInt ∧ v_3528.toInt ≤ 401) (hv_3529 : (-1) ≤ v_3529.toInt ∧ v_3529.toInt ≤ 66) (hv_3530 : (-1) ≤ v_3530.toInt ∧ v_3530.toInt ≤ 66) (hv_3531 : 0 ≤ v_3531.toInt ∧ v_3531.toInt ≤ 50) (hv_3532 : 0 ≤ v_3532.toInt ∧ v_3532.toInt ≤ 400) (hv_3533 : 0 ≤ v_3533.toInt ∧ v_3533.toInt ≤ 400) (hv_3535 : (-1) ≤ v_3535.toInt ∧ v_3535.toInt ≤ 1000000) (hv_3536 : 0 ≤ v_3536.toInt ∧ v_3536.toInt ≤ 800) (hf_3537_0 : Rg 800 0 1000 f_3537) (hn : (402 - v_3528.toInt : Int).toNat < nn_) (hE : E_w_sum Es d lw pa ln tf tt ti tu fb us fc = Lp (α := Int32 → Int32 → Int32 → Int32 → Int32 → Int32 → Int32 → Int32 → Int32 → (Nat → Int32) → (Int32 × Int32 × Int32 × Int32 × Int32 × Int32 × Int32 × (Nat → Int32))) (E_w_sum_l7 Es d lw ln fb) (fun _ _ _ _ _ _ _ _ _ _ => ((0, 0, 0, 0, 0, 0, 0, fun _ => 0) : Int32 × Int32 × Int32 × Int32 × Int32 × Int32 × Int32 × (Nat → Int32))) nn_ v_3528 v_3529 v_3530 v_3531 v_3532 v_3533 v_3534 v_3535 v_3536 f_3537) (H : Heap) (locs : List Loc) (hP : va_P D vwCl [(a0, .inr (6, [.ref t0, .ref s0, .int lw, .int v_3531, r_4])), (t0, .inr (8, [.ref t1, .int ln, .int v_3532, .int v_3533, .int v_3534, .int v_3535])), (t1, .inl (K 0, 400, .inl fb)), (s0, .inr (7, [.ref s1, .ref s2, s_2, .int v_3536])), (s2, .inl (K 0, 800, .inl f_3537))] H) (hD : va_D A [(a0, .inr (6, [.ref t0, .ref s0, .int lw, .int v_3531, r_4])), (t0, .inr (8, [.ref t1, .int ln, .int v_3532, .int v_3533, .int v_3534, .int v_3535])), (t1, .inl (K 0, 400, .inl fb)), (s0, .inr (7, [.ref s1, .ref s2, s_2, .int v_3536])), (s2, .inl (K 0, 800, .inl f_3537))]) (hS : va_S A s.heap H locs) (ls : Array Slot) (hl : lv_has ls 5 [(4, .int v_3528), (3, .int v_3529), (2, .int v_3530), (0, .ref a0), (1, .int d)]), W p l e ({ frames := fr + 6, cells := 0, slots := 0, locals := lo + 133 }) s m (([.ref a0, .int d] : List Value).toArray) below meth c H locs 0 0 Q (F0 m 7 ls []) := by
    clear hE hP hD hS hl
    intro nn_
    induction nn_ with
    | zero =>
      intro v_3528 v_3529 v_3530 v_3531 v_3532 v_3533 v_3534 v_3535 v_3536 f_3537 hv_3528 hv_3529 hv_3530 hv_3531 hv_3532 hv_3533 hv_3535 hv_3536 hf_3537_0 hn hE H locs hP hD hS ls hl
      exact absurd hn (Nat.not_lt_zero _)
    | succ nn_ ih_3947 =>
      intro v_3528 v_3529 v_3530 v_3531 v_3532 v_3533 v_3534 v_3535 v_3536 f_3537 hv_3528 hv_3529 hv_3530 hv_3531 hv_3532 hv_3533 hv_3535 hv_3536 hf_3537_0 hn hE H locs hP hD hS ls hl
      replace hE : E_w_sum Es d lw pa ln tf tt ti tu fb us fc = E_w_sum_l7 Es d lw ln fb (Lp (α := Int32 → Int32 → Int32 → Int32 → Int32 → Int32 → Int32 → Int32 → Int32 → (Nat → Int32) → (Int32 × Int32 × Int32 × Int32 × Int32 × Int32 × Int32 × (Nat → Int32))) (E_w_sum_l7 Es d lw ln fb) (fun _ _ _ _ _ _ _ _ _ _ => ((0, 0, 0, 0, 0, 0, 0, fun _ => 0) : Int32 × Int32 × Int32 × Int32 × Int32 × Int32 × Int32 × (Nat → Int32))) nn_) v_3528 v_3529 v_3530 v_3531 v_3532 v_3533 v_3534 v_3535 v_3536 f_3537 := hE
      obtain ⟨rec_3946, hrec_3946⟩ : ∃ z9, z9 = Lp (α := Int32 → Int32 → Int32 → Int32 → Int32 → Int32 → Int32 → Int32 → Int32 → (Nat → Int32) → (Int32 × Int32 × Int32 × Int32 × Int32 × Int32 × Int32 × (Nat → Int32))) (E_w_sum_l7 Es d lw ln fb) (fun _ _ _ _ _ _ _ _ _ _ => ((0, 0, 0, 0, 0, 0, 0, fun _ => 0) : Int32 × Int32 × Int32 × Int32 × Int32 × Int32 × Int32 × (Nat → Int32))) nn_ := ⟨_, rfl⟩
      rw [← hrec_3946] at hE
      replace hE := hE.trans (E_w_sum_l7.eq_def _ _ _ _ _ _ _ _ _ _ _ _ _ _ _ _)
      refine lv_iload hx hb dX6_sum_7 (lv_at hl 0 rfl) ?_
      refine lv_sipush (v := 400) hx hb dX6_sum_9 (by decide +kernel) ?_
      refine lv_icmp_gt (tgt := 92) hx hb dX6_sum_12 (by decide +kernel) (fun c_3948 => ?_) (fun c_3948 => ?_)
      · have c_3948i := i_lt (x := 400) (y := v_3528.toInt) rfl rfl c_3948
        replace hE := hE.trans (if_pos c_3948)
        refine lv_iconst (v := 0) hx hb dX6_sum_92 (by decide +kernel) ?_
        rw [← hQ]
        have hP9 := hP.sub (ws' := [(a0, .inr (6, [.ref t0, .ref s0, .int lw, .int v_3531, r_4])), (t0, .inr (8, [.ref t1, .int ln, .int v_3532, .int v_3533, .int v_3534, .int v_3535])), (t1, .inl (K 0, 400, .inl fb)), (s0, .inr (7, [.ref s1, .ref s2, s_2, .int v_3536])), (s2, .inl (K 0, 800, .inl f_3537))]) [0, 1, 2, 3, 4] rfl
        have hD9 := hD.sub (ws' := [(a0, .inr (6, [.ref t0, .ref s0, .int lw, .int v_3531, r_4])), (t0, .inr (8, [.ref t1, .int ln, .int v_3532, .int v_3533, .int v_3534, .int v_3535])), (t1, .inl (K 0, 400, .inl fb)), (s0, .inr (7, [.ref s1, .ref s2, s_2, .int v_3536])), (s2, .inl (K 0, 800, .inl f_3537))]) [0, 1, 2, 3, 4] (by decide +kernel) rfl
        exact W.zret (v := 0) hx hb hr (by decide +kernel) (fun t ht hW => ⟨⟨0, ((fun _ => 0, fun i => match i with | _ => f_3537, fun _ => fun _ => 0, fun i => match i with | 0 => v_3531 | 1 => v_3532 | 2 => v_3533 | 3 => v_3534 | 4 => v_3535 | _ => v_3536, fun _ => 0, fun _ => fun _ => none) : Su), rfl, ⟨(show 0 ≤ (0 : Int32).toInt ∧ (0 : Int32).toInt ≤ 1 by decide), (show 0 ≤ (v_3531 : Int32).toInt ∧ (v_3531 : Int32).toInt ≤ 50 by omega), (show 0 ≤ (v_3532 : Int32).toInt ∧ (v_3532 : Int32).toInt ≤ 400 by omega), (show 0 ≤ (v_3533 : Int32).toInt ∧ (v_3533 : Int32).toInt ≤ 400 by omega), (show (-1) ≤ (v_3535 : Int32).toInt ∧ (v_3535 : Int32).toInt ≤ 1000000 by omega), (show 0 ≤ (v_3536 : Int32).toInt ∧ (v_3536 : Int32).toInt ≤ 800 by omega), hf_3537_0, hE.symm, trivial⟩, (⟨by rw [ht]; exact hP9, hD9⟩ : Wd D A _ t)⟩, hS.F ht⟩) hS.2.2 dX6_sum_93
      · have c_3948i := i_nlt (x := 400) (y := v_3528.toInt) rfl rfl c_3948
        replace hE := hE.trans (if_neg c_3948)
        refine lv_aload_n hx hb dX6_sum_15 rfl (lv_at hl 3 rfl) ?_
        refine lv_iload_n hx hb dX6_sum_16 rfl (lv_at hl 4 rfl) ?_
        refine kci (S := Su) (wr := []) (va_runV (As := [.int d]) (rest := []) ⟨hx, hb, hml, hown, hts⟩ (w_part fr lo DD zDD Es hsum l D K g L G a0 d t0 s0 lw v_3531 r_4 t1 ln v_3532 v_3533 v_3534 v_3535 fb s1 s2 s_2 v_3536 f_3537 H.size (by first | omega | decide) (by first | omega | decide) (by first | omega | decide) (by first | omega | decide) (by first | omega | decide) (by first | omega | decide) (by first | omega | decide) (by first | omega | decide) hf_3537_0) (cwV 1 hts gX6_sum_X6_part rfl rfl rfl (by decide +kernel) ⟨by show (fr + 5) + 1 ≤ fr + 6; omega, by show 8 + (4 + 11) + (lo + 110) ≤ lo + 133; omega⟩) (mkVY hK hN (hP.sub [0, 1, 2, 3, 4] rfl) (hD.sub [0, 1, 2, 3, 4] (by decide +kernel) rfl) (ci := 6) (q0 := 0) rfl rfl (fun U hU hW => ⟨Gl.at hG hS hW hU (fun q h => va_free hD hS hA [0, 1, 2, 3, 4] rfl q h), Pool.at hPl hS hU (fun q h => va_free hD hS hA [0, 1, 2, 3, 4] rfl q h), Ro.heap hU (Ro.nil)⟩)) rfl rfl hl.1 rfl (lv_room (Nat.le_of_ble_eq_true rfl)) dX6_sum_17 ⟨Nat.le_of_ble_eq_true rfl, Nat.le_of_ble_eq_true rfl⟩) hP hD hS hA [0, 1, 2, 3, 4] [] rfl rfl (by decide +kernel) (by decide +kernel) (fun r_3949 u_3950 H locs hw hP0 hD0 hS0 => ?_)
        clear hP hD hS
        have hP := hP0
        have hD := hD0
        have hS := hS0
        clear hP0 hD0 hS0
        replace hP : va_P D vwCl [(a0, .inr (6, [.ref t0, .ref s0, .int lw, .int (u_3950.2.2.2.1 0), r_4])), (t0, .inr (8, [.ref t1, .int ln, .int (u_3950.2.2.2.1 1), .int (u_3950.2.2.2.1 2), .int (u_3950.2.2.2.1 3), .int (u_3950.2.2.2.1 4)])), (t1, .inl (K 0, 400, .inl fb)), (s0, .inr (7, [.ref s1, .ref s2, s_2, .int (u_3950.2.2.2.1 5)])), (s2, .inl (K 0, 800, .inl (u_3950.2.1 0)))] H := hP
        replace hD : va_D A [(a0, .inr (6, [.ref t0, .ref s0, .int lw, .int (u_3950.2.2.2.1 0), r_4])), (t0, .inr (8, [.ref t1, .int ln, .int (u_3950.2.2.2.1 1), .int (u_3950.2.2.2.1 2), .int (u_3950.2.2.2.1 3), .int (u_3950.2.2.2.1 4)])), (t1, .inl (K 0, 400, .inl fb)), (s0, .inr (7, [.ref s1, .ref s2, s_2, .int (u_3950.2.2.2.1 5)])), (s2, .inl (K 0, 800, .inl (u_3950.2.1 0)))] := hD
        obtain ⟨h_3958, k_3951, k_3952, k_3953, k_3954, k_3955, k_3956, k_3957, -⟩ := hw
        replace hE := ((((((hE.trans (Lt2_in k_3957)).trans (Lt2_in rfl)).trans (Lt2_in rfl)).trans (Lt2_in rfl)).trans (Lt2_in rfl)).trans (Lt2_in rfl)).trans (Lt2_in rfl)
        refine lv_if_ne (tgt := 25) hx hb dX6_sum_20 (by decide +kernel) (fun c_3959 => ?_) (fun c_3959 => ?_)
        · have c_3959i := i_ne (x := r_3949.toInt) (y := 0) rfl rfl c_3959
          replace hE := hE.trans (if_neg c_3959)
          refine lv_iload_n hx hb dX6_sum_25 rfl (lv_at hl 2 rfl) ?_
          refine lv_iconst (v := (-1)) hx hb dX6_sum_26 (by decide +kernel) ?_
          have j_4054 : ∀ (v_3967 : Int32) (f_3968 : Nat → Int32) (hv_3967 : 0 ≤ v_3967.toInt ∧ v_3967.toInt ≤ 800) (hf_3968_0 : Rg 800 0 1000 f_3968) (hE : E_w_sum Es d lw pa ln tf tt ti tu fb us fc = E_w_sum_j40 lw ln fb v_3528 v_3529 rec_3946 (u_3950.2.2.2.1 0) (u_3950.2.2.2.1 1) (u_3950.2.2.2.1 2) (u_3950.2.2.2.1 3) (u_3950.2.2.2.1 4) v_3967 f_3968) (H : Heap) (locs : List Loc) (hP : va_P D vwCl [(a0, .inr (6, [.ref t0, .ref s0, .int lw, .int (u_3950.2.2.2.1 0), r_4])), (t0, .inr (8, [.ref t1, .int ln, .int (u_3950.2.2.2.1 1), .int (u_3950.2.2.2.1 2), .int (u_3950.2.2.2.1 3), .int (u_3950.2.2.2.1 4)])), (t1, .inl (K 0, 400, .inl fb)), (s0, .inr (7, [.ref s1, .ref s2, s_2, .int v_3967])), (s2, .inl (K 0, 800, .inl f_3968))] H) (hD : va_D A [(a0, .inr (6, [.ref t0, .ref s0, .int lw, .int (u_3950.2.2.2.1 0), r_4])), (t0, .inr (8, [.ref t1, .int ln, .int (u_3950.2.2.2.1 1), .int (u_3950.2.2.2.1 2), .int (u_3950.2.2.2.1 3), .int (u_3950.2.2.2.1 4)])), (t1, .inl (K 0, 400, .inl fb)), (s0, .inr (7, [.ref s1, .ref s2, s_2, .int v_3967])), (s2, .inl (K 0, 800, .inl f_3968))]) (hS : va_S A s.heap H locs) (ls : Array Slot) (hl : lv_has ls 5 [(4, .int v_3528), (3, .int v_3529), (0, .ref a0), (1, .int d)]), W p l e ({ frames := fr + 6, cells := 0, slots := 0, locals := lo + 133 }) s m (([.ref a0, .int d] : List Value).toArray) below meth c H locs 0 0 Q (F0 m 40 ls []) := by
            clear hE hP hD hS hl
            intro v_3967 f_3968 hv_3967 hf_3968_0 hE H locs hP hD hS ls hl
            replace hE := hE.trans (E_w_sum_j40.eq_def _ _ _ _ _ _ _ _ _ _ _ _ _)
            refine lv_aload_n hx hb dX6_sum_40 rfl (lv_at hl 2 rfl) ?_
            refine va_ldcS hx hb hown (hG.str 9 (by decide +kernel)).1 dX6_sum_41 ?_
            refine W.eq (g2 := F0 m 43 ls [.ref (g 26), .ref a0]) rfl ?_
            refine lv_iconst (v := 5) hx hb dX6_sum_43 (by decide +kernel) ?_
            refine kci (S := Su) (wr := [(s0, .inr (7, [.ref s1, .ref s2, s_2, .int v_3967])), (s2, .inl (K 0, 800, .inl f_3968))]) (va_runV (As := [.ref (g 26), .int 5]) (rest := []) ⟨hx, hb, hml, hown, hts⟩ (w_operator l D K g L G 9 a0 5 t0 s0 lw (u_3950.2.2.2.1 0) r_4 t1 ln (u_3950.2.2.2.1 1) (u_3950.2.2.2.1 2) (u_3950.2.2.2.1 3) (u_3950.2.2.2.1 4) fb H.size (by decide +kernel) (by first | omega | decide) (by first | omega | decide) (by first | omega | decide) (by first | omega | decide) (by first | omega | decide) (by first | omega | decide) (by first | omega | decide)) (cwV 2 hts gX6_sum_X6_operator rfl rfl rfl (by decide +kernel) ⟨by show (4) + 1 ≤ fr + 6; omega, by show 8 + (4 + 11) + (85) ≤ lo + 133; omega⟩) (mkVY hK hN (hP.sub [0, 1, 2] rfl) (hD.sub [0, 1, 2] (by decide +kernel) rfl) (ci := 6) (q0 := 0) rfl rfl (fun U hU hW => ⟨Gl.at hG hS hW hU (fun q h => va_free hD hS hA [0, 1, 2] rfl q h), Pool.at hPl hS hU (fun q h => va_free hD hS hA [0, 1, 2] rfl q h), Ro.heap hU (Ro.nil)⟩)) rfl rfl hl.1 rfl (lv_room (Nat.le_of_ble_eq_true rfl)) dX6_sum_44 ⟨Nat.le_of_ble_eq_true rfl, Nat.le_of_ble_eq_true rfl⟩) hP hD hS hA [0, 1, 2] [3, 4] rfl rfl (by decide +kernel) (by decide +kernel) (fun r_4055 u_4056 H locs hw hP0 hD0 hS0 => ?_)
            clear hP hD hS
            have hP := hP0
            have hD := hD0
            have hS := hS0
            clear hP0 hD0 hS0
            replace hP : va_P D vwCl [(s0, .inr (7, [.ref s1, .ref s2, s_2, .int v_3967])), (s2, .inl (K 0, 800, .inl f_3968)), (a0, .inr (6, [.ref t0, .ref s0, .int lw, .int (u_3950.2.2.2.1 0), r_4])), (t0, .inr (8, [.ref t1, .int ln, .int (u_4056.2.2.2.1 0), .int (u_4056.2.2.2.1 1), .int (u_4056.2.2.2.1 2), .int (u_4056.2.2.2.1 3)])), (t1, .inl (K 0, 400, .inl fb))] H := hP
            replace hD : va_D A [(s0, .inr (7, [.ref s1, .ref s2, s_2, .int v_3967])), (s2, .inl (K 0, 800, .inl f_3968)), (a0, .inr (6, [.ref t0, .ref s0, .int lw, .int (u_3950.2.2.2.1 0), r_4])), (t0, .inr (8, [.ref t1, .int ln, .int (u_4056.2.2.2.1 0), .int (u_4056.2.2.2.1 1), .int (u_4056.2.2.2.1 2), .int (u_4056.2.2.2.1 3)])), (t1, .inl (K 0, 400, .inl fb))] := hD
            obtain ⟨h_4061, k_4057, k_4058, k_4059, k_4060, -⟩ := hw
            replace hE := (((hE.trans (Lt2_in k_4060)).trans (Lt2_in rfl)).trans (Lt2_in rfl)).trans (Lt2_in rfl)
            refine lv_istore_n (lv' := [(2, .int r_4055), (4, .int v_3528), (3, .int v_3529), (0, .ref a0), (1, .int d)]) hx hb dX6_sum_47 rfl hl (by decide +kernel) rfl (fun ls hl => ?_)
            refine lv_iload_n hx hb dX6_sum_48 rfl (lv_at hl 0 rfl) ?_
            refine lv_iconst (v := (-1)) hx hb dX6_sum_49 (by decide +kernel) ?_
            have j_4104 : ∀ (v_4096 : Int32) (v_4097 : Int32) (v_4098 : Int32) (v_4099 : Int32) (v_4100 : Int32) (v_4101 : Int32) (f_4102 : Nat → Int32) (hv_4096 : (-1) ≤ v_4096.toInt ∧ v_4096.toInt ≤ 66) (hv_4097 : 0 ≤ v_4097.toInt ∧ v_4097.toInt ≤ 800) (hv_4098 : 0 ≤ v_4098.toInt ∧ v_4098.toInt ≤ 400) (hv_4099 : 0 ≤ v_4099.toInt ∧ v_4099.toInt ≤ 400) (hv_4101 : (-1) ≤ v_4101.toInt ∧ v_4101.toInt ≤ 1000000) (hf_4102_0 : Rg 800 0 1000 f_4102) (hE : E_w_sum Es d lw pa ln tf tt ti tu fb us fc = E_w_sum_j86 v_3528 rec_3946 (u_3950.2.2.2.1 0) r_4055 v_4096 v_4097 v_4098 v_4099 v_4100 v_4101 f_4102) (H : Heap) (locs : List Loc) (hP : va_P D vwCl [(s0, .inr (7, [.ref s1, .ref s2, s_2, .int v_4097])), (s2, .inl (K 0, 800, .inl f_4102)), (a0, .inr (6, [.ref t0, .ref s0, .int lw, .int (u_3950.2.2.2.1 0), r_4])), (t0, .inr (8, [.ref t1, .int ln, .int v_4098, .int v_4099, .int v_4100, .int v_4101])), (t1, .inl (K 0, 400, .inl fb))] H) (hD : va_D A [(s0, .inr (7, [.ref s1, .ref s2, s_2, .int v_4097])), (s2, .inl (K 0, 800, .inl f_4102)), (a0, .inr (6, [.ref t0, .ref s0, .int lw, .int (u_3950.2.2.2.1 0), r_4])), (t0, .inr (8, [.ref t1, .int ln, .int v_4098, .int v_4099, .int v_4100, .int v_4101])), (t1, .inl (K 0, 400, .inl fb))]) (hS : va_S A s.heap H locs) (ls : Array Slot) (hl : lv_has ls 5 [(3, .int v_4096), (2, .int r_4055), (4, .int v_3528), (0, .ref a0), (1, .int d)]), W p l e ({ frames := fr + 6, cells := 0, slots := 0, locals := lo + 133 }) s m (([.ref a0, .int d] : List Value).toArray) below meth c H locs 0 0 Q (F0 m 86 ls []) := by
              clear hE hP hD hS hl
              intro v_4096 v_4097 v_4098 v_4099 v_4100 v_4101 f_4102 hv_4096 hv_4097 hv_4098 hv_4099 hv_4101 hf_4102_0 hE H locs hP hD hS ls hl
              replace hE := hE.trans (E_w_sum_j86.eq_def _ _ _ _ _ _ _ _ _ _ _)
              obtain ⟨x_4105, ex_4105⟩ : ∃ y : Int32, y = v_3528 + Int32.ofInt 1 := ⟨_, rfl⟩
              replace hE := hE.trans (Lt_in ex_4105)
              have hx_4105 : x_4105.toInt = (v_3528.toInt + 1) := by rw [ex_4105]; exact i_add rfl (show (Int32.ofInt 1).toInt = 1 from rfl) (by omega)
              refine lv_iinc (v := x_4105) (lv' := [(4, .int x_4105), (3, .int v_4096), (2, .int r_4055), (0, .ref a0), (1, .int d)]) hx hb dX6_sum_86 hl (k := 2) rfl (by rw [ex_4105]) (by decide +kernel) rfl (fun ls hl => ?_)
              refine lv_goto (tgt := 7) hx hb dX6_sum_89 (by decide +kernel) ?_
              exact ih_3947 x_4105 v_4096 r_4055 (u_3950.2.2.2.1 0) v_4098 v_4099 v_4100 v_4101 v_4097 f_4102 (by rw [hx_4105]; omega) (by omega) (by omega) (by omega) (by omega) (by omega) (by omega) (by omega) hf_4102_0 (by omega) (hE.trans (by rw [hrec_3946])) _ _ (hP.sub [2, 3, 4, 0, 1] rfl) (hD.sub [2, 3, 4, 0, 1] (by decide +kernel) rfl) hS ls (lv_sub hl [0, 1, 2, 3, 4] rfl)
            refine lv_icmp_eq (tgt := 56) hx hb dX6_sum_50 (by decide +kernel) (fun c_4106 => ?_) (fun c_4106 => ?_)
            · have c_4106i := i_eq (x := r_4055.toInt) (y := (-1)) rfl rfl c_4106
              replace hE := hE.trans (if_pos c_4106)
              refine lv_iload_n hx hb dX6_sum_56 rfl (lv_at hl 2 rfl) ?_
              refine lv_iconst (v := (-1)) hx hb dX6_sum_57 (by decide +kernel) ?_
              have j_4124 : ∀ (v_4114 : Int32) (f_4115 : Nat → Int32) (hv_4114 : 0 ≤ v_4114.toInt ∧ v_4114.toInt ≤ 800) (hf_4115_0 : Rg 800 0 1000 f_4115) (hE : E_w_sum Es d lw pa ln tf tt ti tu fb us fc = E_w_sum_j71 lw ln fb v_3528 rec_3946 (u_3950.2.2.2.1 0) r_4055 (u_4056.2.2.2.1 0) (u_4056.2.2.2.1 1) (u_4056.2.2.2.1 2) (u_4056.2.2.2.1 3) v_4114 f_4115) (H : Heap) (locs : List Loc) (hP : va_P D vwCl [(s0, .inr (7, [.ref s1, .ref s2, s_2, .int v_4114])), (s2, .inl (K 0, 800, .inl f_4115)), (a0, .inr (6, [.ref t0, .ref s0, .int lw, .int (u_3950.2.2.2.1 0), r_4])), (t0, .inr (8, [.ref t1, .int ln, .int (u_4056.2.2.2.1 0), .int (u_4056.2.2.2.1 1), .int (u_4056.2.2.2.1 2), .int (u_4056.2.2.2.1 3)])), (t1, .inl (K 0, 400, .inl fb))] H) (hD : va_D A [(s0, .inr (7, [.ref s1, .ref s2, s_2, .int v_4114])), (s2, .inl (K 0, 800, .inl f_4115)), (a0, .inr (6, [.ref t0, .ref s0, .int lw, .int (u_3950.2.2.2.1 0), r_4])), (t0, .inr (8, [.ref t1, .int ln, .int (u_4056.2.2.2.1 0), .int (u_4056.2.2.2.1 1), .int (u_4056.2.2.2.1 2), .int (u_4056.2.2.2.1 3)])), (t1, .inl (K 0, 400, .inl fb))]) (hS : va_S A s.heap H locs) (ls : Array Slot) (hl : lv_has ls 5 [(2, .int r_4055), (4, .int v_3528), (0, .ref a0), (1, .int d)]), W p l e ({ frames := fr + 6, cells := 0, slots := 0, locals := lo + 133 }) s m (([.ref a0, .int d] : List Value).toArray) below meth c H locs 0 0 Q (F0 m 71 ls []) := by
                clear hE hP hD hS hl
                intro v_4114 f_4115 hv_4114 hf_4115_0 hE H locs hP hD hS ls hl
                replace hE := hE.trans (E_w_sum_j71.eq_def _ _ _ _ _ _ _ _ _ _ _ _ _)
                refine lv_aload_n hx hb dX6_sum_71 rfl (lv_at hl 2 rfl) ?_
                refine va_ldcS hx hb hown (hG.str 10 (by decide +kernel)).1 dX6_sum_72 ?_
                refine W.eq (g2 := F0 m 74 ls [.ref (g 28), .ref a0]) rfl ?_
                refine lv_iconst (v := 3) hx hb dX6_sum_74 (by decide +kernel) ?_
                refine kci (S := Su) (wr := [(s0, .inr (7, [.ref s1, .ref s2, s_2, .int v_4114])), (s2, .inl (K 0, 800, .inl f_4115))]) (va_runV (As := [.ref (g 28), .int 3]) (rest := []) ⟨hx, hb, hml, hown, hts⟩ (w_operator l D K g L G 10 a0 3 t0 s0 lw (u_3950.2.2.2.1 0) r_4 t1 ln (u_4056.2.2.2.1 0) (u_4056.2.2.2.1 1) (u_4056.2.2.2.1 2) (u_4056.2.2.2.1 3) fb H.size (by decide +kernel) (by first | omega | decide) (by first | omega | decide) (by first | omega | decide) (by first | omega | decide) (by first | omega | decide) (by first | omega | decide) (by first | omega | decide)) (cwV 2 hts gX6_sum_X6_operator rfl rfl rfl (by decide +kernel) ⟨by show (4) + 1 ≤ fr + 6; omega, by show 8 + (4 + 11) + (85) ≤ lo + 133; omega⟩) (mkVY hK hN (hP.sub [2, 3, 4] rfl) (hD.sub [2, 3, 4] (by decide +kernel) rfl) (ci := 6) (q0 := 0) rfl rfl (fun U hU hW => ⟨Gl.at hG hS hW hU (fun q h => va_free hD hS hA [2, 3, 4] rfl q h), Pool.at hPl hS hU (fun q h => va_free hD hS hA [2, 3, 4] rfl q h), Ro.heap hU (Ro.nil)⟩)) rfl rfl hl.1 rfl (lv_room (Nat.le_of_ble_eq_true rfl)) dX6_sum_75 ⟨Nat.le_of_ble_eq_true rfl, Nat.le_of_ble_eq_true rfl⟩) hP hD hS hA [2, 3, 4] [0, 1] rfl rfl (by decide +kernel) (by decide +kernel) (fun r_4125 u_4126 H locs hw hP0 hD0 hS0 => ?_)
                clear hP hD hS
                have hP := hP0
                have hD := hD0
                have hS := hS0
                clear hP0 hD0 hS0
                replace hP : va_P D vwCl [(s0, .inr (7, [.ref s1, .ref s2, s_2, .int v_4114])), (s2, .inl (K 0, 800, .inl f_4115)), (a0, .inr (6, [.ref t0, .ref s0, .int lw, .int (u_3950.2.2.2.1 0), r_4])), (t0, .inr (8, [.ref t1, .int ln, .int (u_4126.2.2.2.1 0), .int (u_4126.2.2.2.1 1), .int (u_4126.2.2.2.1 2), .int (u_4126.2.2.2.1 3)])), (t1, .inl (K 0, 400, .inl fb))] H := hP
                replace hD : va_D A [(s0, .inr (7, [.ref s1, .ref s2, s_2, .int v_4114])), (s2, .inl (K 0, 800, .inl f_4115)), (a0, .inr (6, [.ref t0, .ref s0, .int lw, .int (u_3950.2.2.2.1 0), r_4])), (t0, .inr (8, [.ref t1, .int ln, .int (u_4126.2.2.2.1 0), .int (u_4126.2.2.2.1 1), .int (u_4126.2.2.2.1 2), .int (u_4126.2.2.2.1 3)])), (t1, .inl (K 0, 400, .inl fb))] := hD
                obtain ⟨h_4131, k_4127, k_4128, k_4129, k_4130, -⟩ := hw
                replace hE := (((hE.trans (Lt2_in k_4130)).trans (Lt2_in rfl)).trans (Lt2_in rfl)).trans (Lt2_in rfl)
                refine lv_istore_n (lv' := [(3, .int r_4125), (2, .int r_4055), (4, .int v_3528), (0, .ref a0), (1, .int d)]) hx hb dX6_sum_78 rfl hl (by decide +kernel) rfl (fun ls hl => ?_)
                refine lv_iload_n hx hb dX6_sum_79 rfl (lv_at hl 0 rfl) ?_
                refine lv_iconst (v := (-1)) hx hb dX6_sum_80 (by decide +kernel) ?_
                refine lv_icmp_ne (tgt := 86) hx hb dX6_sum_81 (by decide +kernel) (fun c_4132 => ?_) (fun c_4132 => ?_)
                · have c_4132i := i_ne (x := r_4125.toInt) (y := (-1)) rfl rfl c_4132
                  replace hE := hE.trans (if_neg c_4132)
                  exact j_4104 r_4125 v_4114 (u_4126.2.2.2.1 0) (u_4126.2.2.2.1 1) (u_4126.2.2.2.1 2) (u_4126.2.2.2.1 3) f_4115 (by omega) (by omega) (by omega) (by omega) (by omega) hf_4115_0 hE _ _ hP hD hS ls (lv_sub hl [0, 1, 2, 3, 4] rfl)
                · have c_4132i := i_eq (x := r_4125.toInt) (y := (-1)) rfl rfl c_4132
                  replace hE := hE.trans (if_pos c_4132)
                  refine lv_iconst (v := 1) hx hb dX6_sum_84 (by decide +kernel) ?_
                  rw [← hQ]
                  have hP9 := hP.sub (ws' := [(a0, .inr (6, [.ref t0, .ref s0, .int lw, .int (u_3950.2.2.2.1 0), r_4])), (t0, .inr (8, [.ref t1, .int ln, .int (u_4126.2.2.2.1 0), .int (u_4126.2.2.2.1 1), .int (u_4126.2.2.2.1 2), .int (u_4126.2.2.2.1 3)])), (t1, .inl (K 0, 400, .inl fb)), (s0, .inr (7, [.ref s1, .ref s2, s_2, .int v_4114])), (s2, .inl (K 0, 800, .inl f_4115))]) [2, 3, 4, 0, 1] rfl
                  have hD9 := hD.sub (ws' := [(a0, .inr (6, [.ref t0, .ref s0, .int lw, .int (u_3950.2.2.2.1 0), r_4])), (t0, .inr (8, [.ref t1, .int ln, .int (u_4126.2.2.2.1 0), .int (u_4126.2.2.2.1 1), .int (u_4126.2.2.2.1 2), .int (u_4126.2.2.2.1 3)])), (t1, .inl (K 0, 400, .inl fb)), (s0, .inr (7, [.ref s1, .ref s2, s_2, .int v_4114])), (s2, .inl (K 0, 800, .inl f_4115))]) [2, 3, 4, 0, 1] (by decide +kernel) rfl
                  exact W.zret (v := 1) hx hb hr (by decide +kernel) (fun t ht hW => ⟨⟨1, ((fun _ => 0, fun i => match i with | _ => f_4115, fun _ => fun _ => 0, fun i => match i with | 0 => (u_3950.2.2.2.1 0) | 1 => (u_4126.2.2.2.1 0) | 2 => (u_4126.2.2.2.1 1) | 3 => (u_4126.2.2.2.1 2) | 4 => (u_4126.2.2.2.1 3) | _ => v_4114, fun _ => 0, fun _ => fun _ => none) : Su), rfl, ⟨(show 0 ≤ (1 : Int32).toInt ∧ (1 : Int32).toInt ≤ 1 by decide), (show 0 ≤ ((u_3950.2.2.2.1 0) : Int32).toInt ∧ ((u_3950.2.2.2.1 0) : Int32).toInt ≤ 50 by omega), (show 0 ≤ ((u_4126.2.2.2.1 0) : Int32).toInt ∧ ((u_4126.2.2.2.1 0) : Int32).toInt ≤ 400 by omega), (show 0 ≤ ((u_4126.2.2.2.1 1) : Int32).toInt ∧ ((u_4126.2.2.2.1 1) : Int32).toInt ≤ 400 by omega), (show (-1) ≤ ((u_4126.2.2.2.1 3) : Int32).toInt ∧ ((u_4126.2.2.2.1 3) : Int32).toInt ≤ 1000000 by omega), (show 0 ≤ (v_4114 : Int32).toInt ∧ (v_4114 : Int32).toInt ≤ 800 by omega), hf_4115_0, hE.symm, trivial⟩, (⟨by rw [ht]; exact hP9, hD9⟩ : Wd D A _ t)⟩, hS.F ht⟩) hS.2.2 dX6_sum_85
              refine lv_icmp_eq (tgt := 71) hx hb dX6_sum_58 (by decide +kernel) (fun c_4133 => ?_) (fun c_4133 => ?_)
              · have c_4133i := i_eq (x := v_3529.toInt) (y := (-1)) rfl rfl c_4133
                replace hE := hE.trans (if_pos c_4133)
                exact j_4124 v_3967 f_3968 (by omega) hf_3968_0 hE _ _ hP hD hS ls (lv_sub hl [0, 1, 3, 4] rfl)
              · have c_4133i := i_ne (x := v_3529.toInt) (y := (-1)) rfl rfl c_4133
                replace hE := hE.trans (if_neg c_4133)
                refine lv_aload_n hx hb dX6_sum_61 rfl (lv_at hl 3 rfl) ?_
                refine va_get (ci := 6) (v := .ref s0) (C := RX6) (T := TX6) (N := 5) hx hb hts hw6 hown hK hP 2 rfl rfl 1 (by decide +kernel) (hts _ mm_X6_sum_232) (fun _ h9 => h9) rfl dX6_sum_62 ?_
                refine lv_iload_n hx hb dX6_sum_65 rfl (lv_at hl 2 rfl) ?_
                refine lv_iconst (v := 0) hx hb dX6_sum_66 (by decide +kernel) ?_
                refine kci (S := Su) (wr := [(a0, .inr (6, [.ref t0, .ref s0, .int lw, .int (u_3950.2.2.2.1 0), r_4])), (t0, .inr (8, [.ref t1, .int ln, .int (u_4056.2.2.2.1 0), .int (u_4056.2.2.2.1 1), .int (u_4056.2.2.2.1 2), .int (u_4056.2.2.2.1 3)])), (t1, .inl (K 0, 400, .inl fb))]) (va_runVN (As := [.int v_3529, .int 0]) (rest := []) ⟨hx, hb, hml, hown, hts⟩ (w_emit l D K s0 v_3529 0 s1 s2 s_2 v_3967 f_3968 H.size (by first | omega | decide) (by first | omega | decide) (by first | omega | decide) hf_3968_0) ⟨va_cnB 2 hts gX6_sum_X7_emit_n95 rfl rfl rfl (nst_at hN 36 rfl) (hts _ mm_X6_sum_148) (by decide +kernel) ⟨by show (0) + 1 ≤ fr + 6; omega, by show 8 + (3 + 11) + (0) ≤ lo + 133; omega⟩, (hts _ mm_X6_sum_539), (hts _ mm_X6_sum_29)⟩ (mkV hK hN (hP.sub [0, 1] rfl) (hD.sub [0, 1] (by decide +kernel) rfl) (ci := 7) (q0 := 0) rfl rfl) rfl rfl hl.1 rfl (lv_room (Nat.le_of_ble_eq_true rfl)) dX6_sum_67 ⟨Nat.le_of_ble_eq_true rfl, Nat.le_of_ble_eq_true rfl⟩) hP hD hS hA [0, 1] [2, 3, 4] rfl rfl (by decide +kernel) (by decide +kernel) (fun r_4134 u_4135 H locs hw hP0 hD0 hS0 => ?_)
                clear hP hD hS
                have hP := hP0
                have hD := hD0
                have hS := hS0
                clear hP0 hD0 hS0
                replace hP : va_P D vwCl [(a0, .inr (6, [.ref t0, .ref s0, .int lw, .int (u_3950.2.2.2.1 0), r_4])), (t0, .inr (8, [.ref t1, .int ln, .int (u_4056.2.2.2.1 0), .int (u_4056.2.2.2.1 1), .int (u_4056.2.2.2.1 2), .int (u_4056.2.2.2.1 3)])), (t1, .inl (K 0, 400, .inl fb)), (s0, .inr (7, [.ref s1, .ref s2, s_2, .int (u_4135.2.2.2.1 0)])), (s2, .inl (K 0, 800, .inl (u_4135.2.1 0)))] H := hP
                replace hD : va_D A [(a0, .inr (6, [.ref t0, .ref s0, .int lw, .int (u_3950.2.2.2.1 0), r_4])), (t0, .inr (8, [.ref t1, .int ln, .int (u_4056.2.2.2.1 0), .int (u_4056.2.2.2.1 1), .int (u_4056.2.2.2.1 2), .int (u_4056.2.2.2.1 3)])), (t1, .inl (K 0, 400, .inl fb)), (s0, .inr (7, [.ref s1, .ref s2, s_2, .int (u_4135.2.2.2.1 0)])), (s2, .inl (K 0, 800, .inl (u_4135.2.1 0)))] := hD
                obtain ⟨h_4139, k_4136, k_4137, k_4138, -⟩ := hw
                replace hE := (hE.trans (Lt2_in k_4138)).trans (Lt2_in rfl)
                refine lv_pop hx hb dX6_sum_70 rfl ?_
                exact j_4124 (u_4135.2.2.2.1 0) (u_4135.2.1 0) (by omega) k_4137 hE _ _ (hP.sub [3, 4, 0, 1, 2] rfl) (hD.sub [3, 4, 0, 1, 2] (by decide +kernel) rfl) hS ls (lv_sub hl [0, 1, 3, 4] rfl)
            · have c_4106i := i_ne (x := r_4055.toInt) (y := (-1)) rfl rfl c_4106
              replace hE := hE.trans (if_neg c_4106)
              refine lv_goto (tgt := 86) hx hb dX6_sum_53 (by decide +kernel) ?_
              exact j_4104 v_3529 v_3967 (u_4056.2.2.2.1 0) (u_4056.2.2.2.1 1) (u_4056.2.2.2.1 2) (u_4056.2.2.2.1 3) f_3968 (by omega) (by omega) (by omega) (by omega) (by omega) hf_3968_0 hE _ _ hP hD hS ls (lv_sub hl [2, 0, 1, 3, 4] rfl)
          refine lv_icmp_eq (tgt := 40) hx hb dX6_sum_27 (by decide +kernel) (fun c_4140 => ?_) (fun c_4140 => ?_)
          · have c_4140i := i_eq (x := v_3530.toInt) (y := (-1)) rfl rfl c_4140
            replace hE := hE.trans (if_pos c_4140)
            exact j_4054 (u_3950.2.2.2.1 5) (u_3950.2.1 0) (by omega) k_3956 hE _ _ hP hD hS ls (lv_sub hl [0, 1, 3, 4] rfl)
          · have c_4140i := i_ne (x := v_3530.toInt) (y := (-1)) rfl rfl c_4140
            replace hE := hE.trans (if_neg c_4140)
            refine lv_aload_n hx hb dX6_sum_30 rfl (lv_at hl 3 rfl) ?_
            refine va_get (ci := 6) (v := .ref s0) (C := RX6) (T := TX6) (N := 5) hx hb hts hw6 hown hK hP 0 rfl rfl 1 (by decide +kernel) (hts _ mm_X6_sum_232) (fun _ h9 => h9) rfl dX6_sum_31 ?_
            refine lv_iload_n hx hb dX6_sum_34 rfl (lv_at hl 2 rfl) ?_
            refine lv_iconst (v := 0) hx hb dX6_sum_35 (by decide +kernel) ?_
            refine kci (S := Su) (wr := [(a0, .inr (6, [.ref t0, .ref s0, .int lw, .int (u_3950.2.2.2.1 0), r_4])), (t0, .inr (8, [.ref t1, .int ln, .int (u_3950.2.2.2.1 1), .int (u_3950.2.2.2.1 2), .int (u_3950.2.2.2.1 3), .int (u_3950.2.2.2.1 4)])), (t1, .inl (K 0, 400, .inl fb))]) (va_runVN (As := [.int v_3530, .int 0]) (rest := []) ⟨hx, hb, hml, hown, hts⟩ (w_emit l D K s0 v_3530 0 s1 s2 s_2 (u_3950.2.2.2.1 5) (u_3950.2.1 0) H.size (by first | omega | decide) (by first | omega | decide) (by first | omega | decide) k_3956) ⟨va_cnB 2 hts gX6_sum_X7_emit_n95 rfl rfl rfl (nst_at hN 36 rfl) (hts _ mm_X6_sum_148) (by decide +kernel) ⟨by show (0) + 1 ≤ fr + 6; omega, by show 8 + (3 + 11) + (0) ≤ lo + 133; omega⟩, (hts _ mm_X6_sum_539), (hts _ mm_X6_sum_29)⟩ (mkV hK hN (hP.sub [3, 4] rfl) (hD.sub [3, 4] (by decide +kernel) rfl) (ci := 7) (q0 := 0) rfl rfl) rfl rfl hl.1 rfl (lv_room (Nat.le_of_ble_eq_true rfl)) dX6_sum_36 ⟨Nat.le_of_ble_eq_true rfl, Nat.le_of_ble_eq_true rfl⟩) hP hD hS hA [3, 4] [0, 1, 2] rfl rfl (by decide +kernel) (by decide +kernel) (fun r_4141 u_4142 H locs hw hP0 hD0 hS0 => ?_)
            clear hP hD hS
            have hP := hP0
            have hD := hD0
            have hS := hS0
            clear hP0 hD0 hS0
            replace hP : va_P D vwCl [(a0, .inr (6, [.ref t0, .ref s0, .int lw, .int (u_3950.2.2.2.1 0), r_4])), (t0, .inr (8, [.ref t1, .int ln, .int (u_3950.2.2.2.1 1), .int (u_3950.2.2.2.1 2), .int (u_3950.2.2.2.1 3), .int (u_3950.2.2.2.1 4)])), (t1, .inl (K 0, 400, .inl fb)), (s0, .inr (7, [.ref s1, .ref s2, s_2, .int (u_4142.2.2.2.1 0)])), (s2, .inl (K 0, 800, .inl (u_4142.2.1 0)))] H := hP
            replace hD : va_D A [(a0, .inr (6, [.ref t0, .ref s0, .int lw, .int (u_3950.2.2.2.1 0), r_4])), (t0, .inr (8, [.ref t1, .int ln, .int (u_3950.2.2.2.1 1), .int (u_3950.2.2.2.1 2), .int (u_3950.2.2.2.1 3), .int (u_3950.2.2.2.1 4)])), (t1, .inl (K 0, 400, .inl fb)), (s0, .inr (7, [.ref s1, .ref s2, s_2, .int (u_4142.2.2.2.1 0)])), (s2, .inl (K 0, 800, .inl (u_4142.2.1 0)))] := hD
            obtain ⟨h_4146, k_4143, k_4144, k_4145, -⟩ := hw
            replace hE := (hE.trans (Lt2_in k_4145)).trans (Lt2_in rfl)
            refine lv_pop hx hb dX6_sum_39 rfl ?_
            exact j_4054 (u_4142.2.2.2.1 0) (u_4142.2.1 0) (by omega) k_4144 hE _ _ hP hD hS ls (lv_sub hl [0, 1, 3, 4] rfl)
        · have c_3959i := i_eq (x := r_3949.toInt) (y := 0) rfl rfl c_3959
          replace hE := hE.trans (if_pos c_3959)
          refine lv_iconst (v := 0) hx hb dX6_sum_23 (by decide +kernel) ?_
          rw [← hQ]
          have hP9 := hP.sub (ws' := [(a0, .inr (6, [.ref t0, .ref s0, .int lw, .int (u_3950.2.2.2.1 0), r_4])), (t0, .inr (8, [.ref t1, .int ln, .int (u_3950.2.2.2.1 1), .int (u_3950.2.2.2.1 2), .int (u_3950.2.2.2.1 3), .int (u_3950.2.2.2.1 4)])), (t1, .inl (K 0, 400, .inl fb)), (s0, .inr (7, [.ref s1, .ref s2, s_2, .int (u_3950.2.2.2.1 5)])), (s2, .inl (K 0, 800, .inl (u_3950.2.1 0)))]) [0, 1, 2, 3, 4] rfl
          have hD9 := hD.sub (ws' := [(a0, .inr (6, [.ref t0, .ref s0, .int lw, .int (u_3950.2.2.2.1 0), r_4])), (t0, .inr (8, [.ref t1, .int ln, .int (u_3950.2.2.2.1 1), .int (u_3950.2.2.2.1 2), .int (u_3950.2.2.2.1 3), .int (u_3950.2.2.2.1 4)])), (t1, .inl (K 0, 400, .inl fb)), (s0, .inr (7, [.ref s1, .ref s2, s_2, .int (u_3950.2.2.2.1 5)])), (s2, .inl (K 0, 800, .inl (u_3950.2.1 0)))]) [0, 1, 2, 3, 4] (by decide +kernel) rfl
          exact W.zret (v := 0) hx hb hr (by decide +kernel) (fun t ht hW => ⟨⟨0, ((fun _ => 0, fun i => match i with | _ => (u_3950.2.1 0), fun _ => fun _ => 0, fun i => match i with | 0 => (u_3950.2.2.2.1 0) | 1 => (u_3950.2.2.2.1 1) | 2 => (u_3950.2.2.2.1 2) | 3 => (u_3950.2.2.2.1 3) | 4 => (u_3950.2.2.2.1 4) | _ => (u_3950.2.2.2.1 5), fun _ => 0, fun _ => fun _ => none) : Su), rfl, ⟨(show 0 ≤ (0 : Int32).toInt ∧ (0 : Int32).toInt ≤ 1 by decide), (show 0 ≤ ((u_3950.2.2.2.1 0) : Int32).toInt ∧ ((u_3950.2.2.2.1 0) : Int32).toInt ≤ 50 by omega), (show 0 ≤ ((u_3950.2.2.2.1 1) : Int32).toInt ∧ ((u_3950.2.2.2.1 1) : Int32).toInt ≤ 400 by omega), (show 0 ≤ ((u_3950.2.2.2.1 2) : Int32).toInt ∧ ((u_3950.2.2.2.1 2) : Int32).toInt ≤ 400 by omega), (show (-1) ≤ ((u_3950.2.2.2.1 4) : Int32).toInt ∧ ((u_3950.2.2.2.1 4) : Int32).toInt ≤ 1000000 by omega), (show 0 ≤ ((u_3950.2.2.2.1 5) : Int32).toInt ∧ ((u_3950.2.2.2.1 5) : Int32).toInt ≤ 800 by omega), k_3956, hE.symm, trivial⟩, (⟨by rw [ht]; exact hP9, hD9⟩ : Wd D A _ t)⟩, hS.F ht⟩) hS.2.2 dX6_sum_24
  exact lp_3946 ((402 - (0 : Int32).toInt : Int).toNat + 1) 0 (-1) (-1) pa tf tt ti tu us fc (by decide +kernel) (by decide +kernel) (by decide +kernel) (by omega) (by omega) (by omega) (by omega) (by omega) zfc (Nat.lt_succ_self _) hE _ _ hP hD hS ls (lv_sub hl [0, 1, 2, 3, 4] rfl)
