theorem BX10_nextHour_0 : bsegs (ByteArray.data cX10_nextHour |>.toList.drop 0) 0 [(0, [43]), (1, [180, 0, 56]), (4, [3]), (5, [46]), (6, [16, 23]), (8, [160, 0, 7]), (11, [4]), (12, [167, 0, 4]), (15, [3]), (16, [61]), (17, [28]), (18, [153, 0, 18]), (21, [43]), (22, [180, 0, 56]), (25, [4]), (26, [46]), (27, [17, 3, 231]), (30, [161, 0, 6]), (33, [16, 253]), (35, [172]), (36, [43]), (37, [182, 0, 60]), (40, [153, 0, 7]), (43, [4])] = true := by decide +kernel
theorem dX10_nextHour_0 : decode cX10_nextHour 0 = .ok (.aload_n 1, 1) := dk_43 (bs_at BX10_nextHour_0 0 rfl)
theorem dX10_nextHour_1 : decode cX10_nextHour 1 = .ok (.getfield 56, 3) := dk_180 0 56 (bs_at BX10_nextHour_0 1 rfl) rfl
theorem dX10_nextHour_4 : decode cX10_nextHour 4 = .ok (.iconst 0, 1) := dk_3 (bs_at BX10_nextHour_0 2 rfl)
theorem dX10_nextHour_5 : decode cX10_nextHour 5 = .ok (.iaload, 1) := dk_46 (bs_at BX10_nextHour_0 3 rfl)
theorem dX10_nextHour_6 : decode cX10_nextHour 6 = .ok (.bipush 23, 2) := dk_16 23 (bs_at BX10_nextHour_0 4 rfl) rfl
theorem dX10_nextHour_8 : decode cX10_nextHour 8 = .ok (.if_icmp .ne 7, 3) := dk_160 0 7 (bs_at BX10_nextHour_0 5 rfl) rfl
theorem dX10_nextHour_11 : decode cX10_nextHour 11 = .ok (.iconst 1, 1) := dk_4 (bs_at BX10_nextHour_0 6 rfl)
theorem dX10_nextHour_12 : decode cX10_nextHour 12 = .ok (.goto 4, 3) := dk_167 0 4 (bs_at BX10_nextHour_0 7 rfl) rfl
theorem dX10_nextHour_15 : decode cX10_nextHour 15 = .ok (.iconst 0, 1) := dk_3 (bs_at BX10_nextHour_0 8 rfl)
theorem dX10_nextHour_16 : decode cX10_nextHour 16 = .ok (.istore_n 2, 1) := dk_61 (bs_at BX10_nextHour_0 9 rfl)
theorem dX10_nextHour_17 : decode cX10_nextHour 17 = .ok (.iload_n 2, 1) := dk_28 (bs_at BX10_nextHour_0 10 rfl)
theorem dX10_nextHour_18 : decode cX10_nextHour 18 = .ok (.ifCond .eq 18, 3) := dk_153 0 18 (bs_at BX10_nextHour_0 11 rfl) rfl
theorem dX10_nextHour_21 : decode cX10_nextHour 21 = .ok (.aload_n 1, 1) := dk_43 (bs_at BX10_nextHour_0 12 rfl)
theorem dX10_nextHour_22 : decode cX10_nextHour 22 = .ok (.getfield 56, 3) := dk_180 0 56 (bs_at BX10_nextHour_0 13 rfl) rfl
theorem dX10_nextHour_25 : decode cX10_nextHour 25 = .ok (.iconst 1, 1) := dk_4 (bs_at BX10_nextHour_0 14 rfl)
theorem dX10_nextHour_26 : decode cX10_nextHour 26 = .ok (.iaload, 1) := dk_46 (bs_at BX10_nextHour_0 15 rfl)
theorem dX10_nextHour_27 : decode cX10_nextHour 27 = .ok (.sipush 999, 3) := dk_17 3 231 (bs_at BX10_nextHour_0 16 rfl) rfl
theorem dX10_nextHour_30 : decode cX10_nextHour 30 = .ok (.if_icmp .lt 6, 3) := dk_161 0 6 (bs_at BX10_nextHour_0 17 rfl) rfl
theorem dX10_nextHour_33 : decode cX10_nextHour 33 = .ok (.bipush (-3), 2) := dk_16 253 (bs_at BX10_nextHour_0 18 rfl) rfl
theorem dX10_nextHour_35 : decode cX10_nextHour 35 = .ok (.ireturn, 1) := dk_172 (bs_at BX10_nextHour_0 19 rfl)
theorem dX10_nextHour_36 : decode cX10_nextHour 36 = .ok (.aload_n 1, 1) := dk_43 (bs_at BX10_nextHour_0 20 rfl)
theorem dX10_nextHour_37 : decode cX10_nextHour 37 = .ok (.invokevirtual 60, 3) := dk_182 0 60 (bs_at BX10_nextHour_0 21 rfl) rfl
theorem dX10_nextHour_40 : decode cX10_nextHour 40 = .ok (.ifCond .eq 7, 3) := dk_153 0 7 (bs_at BX10_nextHour_0 22 rfl) rfl
theorem dX10_nextHour_43 : decode cX10_nextHour 43 = .ok (.iconst 1, 1) := dk_4 (bs_at BX10_nextHour_0 23 rfl)
theorem BX10_nextHour_44 : bsegs (ByteArray.data cX10_nextHour |>.toList.drop 44) 44 [(44, [167, 0, 4]), (47, [3]), (48, [62]), (49, [43]), (50, [18, 64]), (52, [43]), (53, [180, 0, 65]), (56, [42]), (57, [43]), (58, [182, 0, 69]), (61, [96]), (62, [184, 0, 40]), (65, [181, 0, 65]), (68, [42]), (69, [43]), (70, [182, 0, 73]), (73, [43]), (74, [180, 0, 56]), (77, [3]), (78, [28]), (79, [153, 0, 7]), (82, [3]), (83, [167, 0, 11]), (86, [43])] = true := by decide +kernel
theorem dX10_nextHour_44 : decode cX10_nextHour 44 = .ok (.goto 4, 3) := dk_167 0 4 (bs_at BX10_nextHour_44 0 rfl) rfl
theorem dX10_nextHour_47 : decode cX10_nextHour 47 = .ok (.iconst 0, 1) := dk_3 (bs_at BX10_nextHour_44 1 rfl)
theorem dX10_nextHour_48 : decode cX10_nextHour 48 = .ok (.istore_n 3, 1) := dk_62 (bs_at BX10_nextHour_44 2 rfl)
theorem dX10_nextHour_49 : decode cX10_nextHour 49 = .ok (.aload_n 1, 1) := dk_43 (bs_at BX10_nextHour_44 3 rfl)
theorem dX10_nextHour_50 : decode cX10_nextHour 50 = .ok (.ldc 64, 2) := dk_18 64 (bs_at BX10_nextHour_44 4 rfl)
theorem dX10_nextHour_52 : decode cX10_nextHour 52 = .ok (.aload_n 1, 1) := dk_43 (bs_at BX10_nextHour_44 5 rfl)
theorem dX10_nextHour_53 : decode cX10_nextHour 53 = .ok (.getfield 65, 3) := dk_180 0 65 (bs_at BX10_nextHour_44 6 rfl) rfl
theorem dX10_nextHour_56 : decode cX10_nextHour 56 = .ok (.aload_n 0, 1) := dk_42 (bs_at BX10_nextHour_44 7 rfl)
theorem dX10_nextHour_57 : decode cX10_nextHour 57 = .ok (.aload_n 1, 1) := dk_43 (bs_at BX10_nextHour_44 8 rfl)
theorem dX10_nextHour_58 : decode cX10_nextHour 58 = .ok (.invokevirtual 69, 3) := dk_182 0 69 (bs_at BX10_nextHour_44 9 rfl) rfl
theorem dX10_nextHour_61 : decode cX10_nextHour 61 = .ok (.iadd, 1) := dk_96 (bs_at BX10_nextHour_44 10 rfl)
theorem dX10_nextHour_62 : decode cX10_nextHour 62 = .ok (.invokestatic 40, 3) := dk_184 0 40 (bs_at BX10_nextHour_44 11 rfl) rfl
theorem dX10_nextHour_65 : decode cX10_nextHour 65 = .ok (.putfield 65, 3) := dk_181 0 65 (bs_at BX10_nextHour_44 12 rfl) rfl
theorem dX10_nextHour_68 : decode cX10_nextHour 68 = .ok (.aload_n 0, 1) := dk_42 (bs_at BX10_nextHour_44 13 rfl)
theorem dX10_nextHour_69 : decode cX10_nextHour 69 = .ok (.aload_n 1, 1) := dk_43 (bs_at BX10_nextHour_44 14 rfl)
theorem dX10_nextHour_70 : decode cX10_nextHour 70 = .ok (.invokevirtual 73, 3) := dk_182 0 73 (bs_at BX10_nextHour_44 15 rfl) rfl
theorem dX10_nextHour_73 : decode cX10_nextHour 73 = .ok (.aload_n 1, 1) := dk_43 (bs_at BX10_nextHour_44 16 rfl)
theorem dX10_nextHour_74 : decode cX10_nextHour 74 = .ok (.getfield 56, 3) := dk_180 0 56 (bs_at BX10_nextHour_44 17 rfl) rfl
theorem dX10_nextHour_77 : decode cX10_nextHour 77 = .ok (.iconst 0, 1) := dk_3 (bs_at BX10_nextHour_44 18 rfl)
theorem dX10_nextHour_78 : decode cX10_nextHour 78 = .ok (.iload_n 2, 1) := dk_28 (bs_at BX10_nextHour_44 19 rfl)
theorem dX10_nextHour_79 : decode cX10_nextHour 79 = .ok (.ifCond .eq 7, 3) := dk_153 0 7 (bs_at BX10_nextHour_44 20 rfl) rfl
theorem dX10_nextHour_82 : decode cX10_nextHour 82 = .ok (.iconst 0, 1) := dk_3 (bs_at BX10_nextHour_44 21 rfl)
theorem dX10_nextHour_83 : decode cX10_nextHour 83 = .ok (.goto 11, 3) := dk_167 0 11 (bs_at BX10_nextHour_44 22 rfl) rfl
theorem dX10_nextHour_86 : decode cX10_nextHour 86 = .ok (.aload_n 1, 1) := dk_43 (bs_at BX10_nextHour_44 23 rfl)
theorem BX10_nextHour_87 : bsegs (ByteArray.data cX10_nextHour |>.toList.drop 87) 87 [(87, [180, 0, 56]), (90, [3]), (91, [46]), (92, [4]), (93, [96]), (94, [79]), (95, [43]), (96, [180, 0, 56]), (99, [4]), (100, [92]), (101, [46]), (102, [28]), (103, [153, 0, 7]), (106, [4]), (107, [167, 0, 4]), (110, [3]), (111, [96]), (112, [79]), (113, [29]), (114, [172])] = true := by decide +kernel
theorem dX10_nextHour_87 : decode cX10_nextHour 87 = .ok (.getfield 56, 3) := dk_180 0 56 (bs_at BX10_nextHour_87 0 rfl) rfl
theorem dX10_nextHour_90 : decode cX10_nextHour 90 = .ok (.iconst 0, 1) := dk_3 (bs_at BX10_nextHour_87 1 rfl)
theorem dX10_nextHour_91 : decode cX10_nextHour 91 = .ok (.iaload, 1) := dk_46 (bs_at BX10_nextHour_87 2 rfl)
theorem dX10_nextHour_92 : decode cX10_nextHour 92 = .ok (.iconst 1, 1) := dk_4 (bs_at BX10_nextHour_87 3 rfl)
theorem dX10_nextHour_93 : decode cX10_nextHour 93 = .ok (.iadd, 1) := dk_96 (bs_at BX10_nextHour_87 4 rfl)
theorem dX10_nextHour_94 : decode cX10_nextHour 94 = .ok (.iastore, 1) := dk_79 (bs_at BX10_nextHour_87 5 rfl)
theorem dX10_nextHour_95 : decode cX10_nextHour 95 = .ok (.aload_n 1, 1) := dk_43 (bs_at BX10_nextHour_87 6 rfl)
theorem dX10_nextHour_96 : decode cX10_nextHour 96 = .ok (.getfield 56, 3) := dk_180 0 56 (bs_at BX10_nextHour_87 7 rfl) rfl
theorem dX10_nextHour_99 : decode cX10_nextHour 99 = .ok (.iconst 1, 1) := dk_4 (bs_at BX10_nextHour_87 8 rfl)
theorem dX10_nextHour_100 : decode cX10_nextHour 100 = .ok (.dup2, 1) := dk_92 (bs_at BX10_nextHour_87 9 rfl)
theorem dX10_nextHour_101 : decode cX10_nextHour 101 = .ok (.iaload, 1) := dk_46 (bs_at BX10_nextHour_87 10 rfl)
theorem dX10_nextHour_102 : decode cX10_nextHour 102 = .ok (.iload_n 2, 1) := dk_28 (bs_at BX10_nextHour_87 11 rfl)
theorem dX10_nextHour_103 : decode cX10_nextHour 103 = .ok (.ifCond .eq 7, 3) := dk_153 0 7 (bs_at BX10_nextHour_87 12 rfl) rfl
theorem dX10_nextHour_106 : decode cX10_nextHour 106 = .ok (.iconst 1, 1) := dk_4 (bs_at BX10_nextHour_87 13 rfl)
theorem dX10_nextHour_107 : decode cX10_nextHour 107 = .ok (.goto 4, 3) := dk_167 0 4 (bs_at BX10_nextHour_87 14 rfl) rfl
theorem dX10_nextHour_110 : decode cX10_nextHour 110 = .ok (.iconst 0, 1) := dk_3 (bs_at BX10_nextHour_87 15 rfl)
theorem dX10_nextHour_111 : decode cX10_nextHour 111 = .ok (.iadd, 1) := dk_96 (bs_at BX10_nextHour_87 16 rfl)
theorem dX10_nextHour_112 : decode cX10_nextHour 112 = .ok (.iastore, 1) := dk_79 (bs_at BX10_nextHour_87 17 rfl)
theorem dX10_nextHour_113 : decode cX10_nextHour 113 = .ok (.iload_n 3, 1) := dk_29 (bs_at BX10_nextHour_87 18 rfl)
theorem dX10_nextHour_114 : decode cX10_nextHour 114 = .ok (.ireturn, 1) := dk_172 (bs_at BX10_nextHour_87 19 rfl)
theorem BX10_byDraws_0 : bsegs (ByteArray.data cX10_byDraws |>.toList.drop 0) 0 [(0, [28]), (1, [54, 4]), (3, [3]), (4, [54, 5]), (6, [3]), (7, [54, 6]), (9, [21, 6]), (11, [29]), (12, [162, 0, 69]), (15, [43]), (16, [180, 0, 77]), (19, [158, 0, 34]), (22, [21, 4]), (24, [133]), (25, [20, 0, 91]), (28, [105]), (29, [20, 0, 93]), (32, [97]), (33, [20, 0, 95]), (36, [113]), (37, [136]), (38, [54, 4]), (40, [42]), (41, [43])] = true := by decide +kernel
theorem dX10_byDraws_0 : decode cX10_byDraws 0 = .ok (.iload_n 2, 1) := dk_28 (bs_at BX10_byDraws_0 0 rfl)
theorem dX10_byDraws_1 : decode cX10_byDraws 1 = .ok (.istore 4, 2) := dk_54 4 (bs_at BX10_byDraws_0 1 rfl)
theorem dX10_byDraws_3 : decode cX10_byDraws 3 = .ok (.iconst 0, 1) := dk_3 (bs_at BX10_byDraws_0 2 rfl)
theorem dX10_byDraws_4 : decode cX10_byDraws 4 = .ok (.istore 5, 2) := dk_54 5 (bs_at BX10_byDraws_0 3 rfl)
theorem dX10_byDraws_6 : decode cX10_byDraws 6 = .ok (.iconst 0, 1) := dk_3 (bs_at BX10_byDraws_0 4 rfl)
theorem dX10_byDraws_7 : decode cX10_byDraws 7 = .ok (.istore 6, 2) := dk_54 6 (bs_at BX10_byDraws_0 5 rfl)
theorem dX10_byDraws_9 : decode cX10_byDraws 9 = .ok (.iload 6, 2) := dk_21 6 (bs_at BX10_byDraws_0 6 rfl)
theorem dX10_byDraws_11 : decode cX10_byDraws 11 = .ok (.iload_n 3, 1) := dk_29 (bs_at BX10_byDraws_0 7 rfl)
theorem dX10_byDraws_12 : decode cX10_byDraws 12 = .ok (.if_icmp .ge 69, 3) := dk_162 0 69 (bs_at BX10_byDraws_0 8 rfl) rfl
theorem dX10_byDraws_15 : decode cX10_byDraws 15 = .ok (.aload_n 1, 1) := dk_43 (bs_at BX10_byDraws_0 9 rfl)
theorem dX10_byDraws_16 : decode cX10_byDraws 16 = .ok (.getfield 77, 3) := dk_180 0 77 (bs_at BX10_byDraws_0 10 rfl) rfl
theorem dX10_byDraws_19 : decode cX10_byDraws 19 = .ok (.ifCond .le 34, 3) := dk_158 0 34 (bs_at BX10_byDraws_0 11 rfl) rfl
theorem dX10_byDraws_22 : decode cX10_byDraws 22 = .ok (.iload 4, 2) := dk_21 4 (bs_at BX10_byDraws_0 12 rfl)
theorem dX10_byDraws_24 : decode cX10_byDraws 24 = .ok (.i2l, 1) := dk_133 (bs_at BX10_byDraws_0 13 rfl)
theorem dX10_byDraws_25 : decode cX10_byDraws 25 = .ok (.ldc2_w 91, 3) := dk_20 0 91 (bs_at BX10_byDraws_0 14 rfl) rfl
theorem dX10_byDraws_28 : decode cX10_byDraws 28 = .ok (.lmul, 1) := dk_105 (bs_at BX10_byDraws_0 15 rfl)
theorem dX10_byDraws_29 : decode cX10_byDraws 29 = .ok (.ldc2_w 93, 3) := dk_20 0 93 (bs_at BX10_byDraws_0 16 rfl) rfl
theorem dX10_byDraws_32 : decode cX10_byDraws 32 = .ok (.ladd, 1) := dk_97 (bs_at BX10_byDraws_0 17 rfl)
theorem dX10_byDraws_33 : decode cX10_byDraws 33 = .ok (.ldc2_w 95, 3) := dk_20 0 95 (bs_at BX10_byDraws_0 18 rfl) rfl
theorem dX10_byDraws_36 : decode cX10_byDraws 36 = .ok (.lrem, 1) := dk_113 (bs_at BX10_byDraws_0 19 rfl)
theorem dX10_byDraws_37 : decode cX10_byDraws 37 = .ok (.l2i, 1) := dk_136 (bs_at BX10_byDraws_0 20 rfl)
theorem dX10_byDraws_38 : decode cX10_byDraws 38 = .ok (.istore 4, 2) := dk_54 4 (bs_at BX10_byDraws_0 21 rfl)
theorem dX10_byDraws_40 : decode cX10_byDraws 40 = .ok (.aload_n 0, 1) := dk_42 (bs_at BX10_byDraws_0 22 rfl)
theorem dX10_byDraws_41 : decode cX10_byDraws 41 = .ok (.aload_n 1, 1) := dk_43 (bs_at BX10_byDraws_0 23 rfl)
theorem BX10_byDraws_42 : bsegs (ByteArray.data cX10_byDraws |>.toList.drop 42) 42 [(42, [21, 4]), (44, [43]), (45, [180, 0, 77]), (48, [112]), (49, [182, 0, 97]), (52, [87]), (53, [42]), (54, [43]), (55, [182, 0, 101]), (58, [54, 7]), (60, [21, 7]), (62, [156, 0, 6]), (65, [21, 5]), (67, [172]), (68, [21, 5]), (70, [21, 7]), (72, [96]), (73, [54, 5]), (75, [132, 6, 1]), (78, [167, 255, 187]), (81, [21, 5]), (83, [172])] = true := by decide +kernel
theorem dX10_byDraws_42 : decode cX10_byDraws 42 = .ok (.iload 4, 2) := dk_21 4 (bs_at BX10_byDraws_42 0 rfl)
theorem dX10_byDraws_44 : decode cX10_byDraws 44 = .ok (.aload_n 1, 1) := dk_43 (bs_at BX10_byDraws_42 1 rfl)
theorem dX10_byDraws_45 : decode cX10_byDraws 45 = .ok (.getfield 77, 3) := dk_180 0 77 (bs_at BX10_byDraws_42 2 rfl) rfl
theorem dX10_byDraws_48 : decode cX10_byDraws 48 = .ok (.irem, 1) := dk_112 (bs_at BX10_byDraws_42 3 rfl)
theorem dX10_byDraws_49 : decode cX10_byDraws 49 = .ok (.invokevirtual 97, 3) := dk_182 0 97 (bs_at BX10_byDraws_42 4 rfl) rfl
theorem dX10_byDraws_52 : decode cX10_byDraws 52 = .ok (.pop, 1) := dk_87 (bs_at BX10_byDraws_42 5 rfl)
theorem dX10_byDraws_53 : decode cX10_byDraws 53 = .ok (.aload_n 0, 1) := dk_42 (bs_at BX10_byDraws_42 6 rfl)
theorem dX10_byDraws_54 : decode cX10_byDraws 54 = .ok (.aload_n 1, 1) := dk_43 (bs_at BX10_byDraws_42 7 rfl)
theorem dX10_byDraws_55 : decode cX10_byDraws 55 = .ok (.invokevirtual 101, 3) := dk_182 0 101 (bs_at BX10_byDraws_42 8 rfl) rfl
theorem dX10_byDraws_58 : decode cX10_byDraws 58 = .ok (.istore 7, 2) := dk_54 7 (bs_at BX10_byDraws_42 9 rfl)
theorem dX10_byDraws_60 : decode cX10_byDraws 60 = .ok (.iload 7, 2) := dk_21 7 (bs_at BX10_byDraws_42 10 rfl)
theorem dX10_byDraws_62 : decode cX10_byDraws 62 = .ok (.ifCond .ge 6, 3) := dk_156 0 6 (bs_at BX10_byDraws_42 11 rfl) rfl
theorem dX10_byDraws_65 : decode cX10_byDraws 65 = .ok (.iload 5, 2) := dk_21 5 (bs_at BX10_byDraws_42 12 rfl)
theorem dX10_byDraws_67 : decode cX10_byDraws 67 = .ok (.ireturn, 1) := dk_172 (bs_at BX10_byDraws_42 13 rfl)
theorem dX10_byDraws_68 : decode cX10_byDraws 68 = .ok (.iload 5, 2) := dk_21 5 (bs_at BX10_byDraws_42 14 rfl)
theorem dX10_byDraws_70 : decode cX10_byDraws 70 = .ok (.iload 7, 2) := dk_21 7 (bs_at BX10_byDraws_42 15 rfl)
theorem dX10_byDraws_72 : decode cX10_byDraws 72 = .ok (.iadd, 1) := dk_96 (bs_at BX10_byDraws_42 16 rfl)
theorem dX10_byDraws_73 : decode cX10_byDraws 73 = .ok (.istore 5, 2) := dk_54 5 (bs_at BX10_byDraws_42 17 rfl)
theorem dX10_byDraws_75 : decode cX10_byDraws 75 = .ok (.iinc 6 1, 3) := dk_132 6 1 (bs_at BX10_byDraws_42 18 rfl) rfl
theorem dX10_byDraws_78 : decode cX10_byDraws 78 = .ok (.goto (-69), 3) := dk_167 255 187 (bs_at BX10_byDraws_42 19 rfl) rfl
theorem dX10_byDraws_81 : decode cX10_byDraws 81 = .ok (.iload 5, 2) := dk_21 5 (bs_at BX10_byDraws_42 20 rfl)
theorem dX10_byDraws_83 : decode cX10_byDraws 83 = .ok (.ireturn, 1) := dk_172 (bs_at BX10_byDraws_42 21 rfl)
theorem ggX10_nextHour_X9_meetsChord : GoodIn wsX10_nextHour wsX9_meetsChord := gi_ch ch_X10_nextHour ch_X9_meetsChord (by decide +kernel)
set_option maxRecDepth 20000 in
theorem gX10_nextHour_X9_meetsChord_n60 : GoodIn wsX10_nextHour (wsX9_meetsChord) := ggX10_nextHour_X9_meetsChord
theorem ggX10_nextHour_X10_discords : GoodIn wsX10_nextHour wsX10_discords := gi_ch ch_X10_nextHour ch_X10_discords (by decide +kernel)
theorem gX10_nextHour_X10_discords : GoodIn wsX10_nextHour (wsV RX10 69 RX10 yX10_discords wsX10_discords) := gi_ch ch_X10_nextHour (ch_v [616, 617, 48, 150] rfl ch_X10_discords) (by decide +kernel)
theorem ggX10_nextHour_X10_burnDown : GoodIn wsX10_nextHour wsX10_burnDown := gi_ch ch_X10_nextHour ch_X10_burnDown (by decide +kernel)
theorem gX10_nextHour_X10_burnDown : GoodIn wsX10_nextHour (wsV RX10 73 RX10 yX10_burnDown wsX10_burnDown) := gi_ch ch_X10_nextHour (ch_v [626, 627, 51, 150] rfl ch_X10_burnDown) (by decide +kernel)
theorem ggX10_byDraws_X10_nextHour : GoodIn wsX10_byDraws wsX10_nextHour := gi_ch ch_X10_byDraws ch_X10_nextHour (by decide +kernel)
theorem gX10_byDraws_X10_nextHour : GoodIn wsX10_byDraws (wsV RX10 101 RX10 yX10_nextHour wsX10_nextHour) := gi_ch ch_X10_byDraws (ch_v [785, 606, 45, 150] rfl ch_X10_nextHour) (by decide +kernel)
theorem ggX10_byDraws_X10_kindle : GoodIn wsX10_byDraws wsX10_kindle := gi_ch ch_X10_byDraws ch_X10_kindle (by decide +kernel)
theorem gX10_byDraws_X10_kindle : GoodIn wsX10_byDraws (wsV RX10 97 RX10 yX10_kindle wsX10_kindle) := gi_ch ch_X10_byDraws (ch_v [784, 598, 42, 150] rfl ch_X10_kindle) (by decide +kernel)
set_option maxRecDepth 100000 in
noncomputable def E_w_nextHour_j36 (G : Nat → LC) (br : Int32) (fs : Nat → Int32) (fw : Nat → Int32) (n : Int32) (lt : Int32) (nf : Int32) (fi : Int32) (f1 : Nat → Int32) (f2 : Nat → Int32) (f3 : Nat → Int32) (fl : Nat → Option Nat) (v_301 : Int32) : Int32 × Int32 × (Nat → Int32) × (Nat → Int32) × Int32 × (Nat → Int32) × (Nat → Int32) :=
  Lt (E_w_meetsChord n f1 f2 f3) (fun r_355 => if r_355 = 0 then (Lt2 (E_w_discords G br fs fw n lt nf fi f1 f2 f3 fl) (fun r_359 q0_r_359 => Lt2 q0_r_359 (fun u_360_2_2_2_1_0 q1_u_360_2_2_2_1_0 => Lt2 q1_u_360_2_2_2_1_0 (fun u_360_2_1_0 u_360_2_1_1 => Lt (fi + r_359 : Int32) (fun x_363 => Lt (if (x_363 : Int32) < (99999 : Int32) then (x_363 : Int32) else (99999 : Int32) : Int32) (fun x_364 => Lt2 (E_w_burnDown G u_360_2_2_2_1_0 u_360_2_1_0 u_360_2_1_1 n lt nf x_364 f1 f2 f3 fl) (fun u_366_2_2_2_1_0 q0_u_366_2_2_2_1_0 => Lt2 q0_u_366_2_2_2_1_0 (fun u_366_2_1_0 q1_u_366_2_1_0 => Lt2 q1_u_366_2_1_0 (fun u_366_2_1_1 u_366_2_1_2 => if v_301 = 0 then (Lt (f2 (0 : Int32).toNatClampNeg : Int32) (fun x_371 => Lt (x_371 + 1 : Int32) (fun x_372 => Lt (upd f2 (0 : Int32).toNatClampNeg x_372 : Nat → Int32) (fun f_373 => Lt (f_373 (1 : Int32).toNatClampNeg : Int32) (fun x_374 => if v_301 = 0 then (Lt (x_374 + 0 : Int32) (fun x_376 => Lt (upd f_373 (1 : Int32).toNatClampNeg x_376 : Nat → Int32) (fun f_377 => ((0, u_366_2_2_2_1_0, u_366_2_1_0, u_366_2_1_1, x_364, u_366_2_1_2, f_377) : Int32 × Int32 × (Nat → Int32) × (Nat → Int32) × Int32 × (Nat → Int32) × (Nat → Int32))))) else (((0, 0, fun _ => 0, fun _ => 0, 0, fun _ => 0, fun _ => 0) : Int32 × Int32 × (Nat → Int32) × (Nat → Int32) × Int32 × (Nat → Int32) × (Nat → Int32)))))))) else (Lt (upd f2 (0 : Int32).toNatClampNeg 0 : Nat → Int32) (fun f_378 => Lt (f_378 (1 : Int32).toNatClampNeg : Int32) (fun x_379 => if v_301 = 0 then (((0, 0, fun _ => 0, fun _ => 0, 0, fun _ => 0, fun _ => 0) : Int32 × Int32 × (Nat → Int32) × (Nat → Int32) × Int32 × (Nat → Int32) × (Nat → Int32))) else (Lt (x_379 + 1 : Int32) (fun x_381 => Lt (upd f_378 (1 : Int32).toNatClampNeg x_381 : Nat → Int32) (fun f_382 => ((0, u_366_2_2_2_1_0, u_366_2_1_0, u_366_2_1_1, x_364, u_366_2_1_2, f_382) : Int32 × Int32 × (Nat → Int32) × (Nat → Int32) × Int32 × (Nat → Int32) × (Nat → Int32))))))))))))))))) else (Lt2 (E_w_discords G br fs fw n lt nf fi f1 f2 f3 fl) (fun r_383 q0_r_383 => Lt2 q0_r_383 (fun u_384_2_2_2_1_0 q1_u_384_2_2_2_1_0 => Lt2 q1_u_384_2_2_2_1_0 (fun u_384_2_1_0 u_384_2_1_1 => Lt (fi + r_383 : Int32) (fun x_387 => Lt (if (x_387 : Int32) < (99999 : Int32) then (x_387 : Int32) else (99999 : Int32) : Int32) (fun x_388 => Lt2 (E_w_burnDown G u_384_2_2_2_1_0 u_384_2_1_0 u_384_2_1_1 n lt nf x_388 f1 f2 f3 fl) (fun u_390_2_2_2_1_0 q0_u_390_2_2_2_1_0 => Lt2 q0_u_390_2_2_2_1_0 (fun u_390_2_1_0 q1_u_390_2_1_0 => Lt2 q1_u_390_2_1_0 (fun u_390_2_1_1 u_390_2_1_2 => if v_301 = 0 then (Lt (f2 (0 : Int32).toNatClampNeg : Int32) (fun x_395 => Lt (x_395 + 1 : Int32) (fun x_396 => Lt (upd f2 (0 : Int32).toNatClampNeg x_396 : Nat → Int32) (fun f_397 => Lt (f_397 (1 : Int32).toNatClampNeg : Int32) (fun x_398 => if v_301 = 0 then (Lt (x_398 + 0 : Int32) (fun x_400 => Lt (upd f_397 (1 : Int32).toNatClampNeg x_400 : Nat → Int32) (fun f_401 => ((1, u_390_2_2_2_1_0, u_390_2_1_0, u_390_2_1_1, x_388, u_390_2_1_2, f_401) : Int32 × Int32 × (Nat → Int32) × (Nat → Int32) × Int32 × (Nat → Int32) × (Nat → Int32))))) else (((0, 0, fun _ => 0, fun _ => 0, 0, fun _ => 0, fun _ => 0) : Int32 × Int32 × (Nat → Int32) × (Nat → Int32) × Int32 × (Nat → Int32) × (Nat → Int32)))))))) else (Lt (upd f2 (0 : Int32).toNatClampNeg 0 : Nat → Int32) (fun f_402 => Lt (f_402 (1 : Int32).toNatClampNeg : Int32) (fun x_403 => if v_301 = 0 then (((0, 0, fun _ => 0, fun _ => 0, 0, fun _ => 0, fun _ => 0) : Int32 × Int32 × (Nat → Int32) × (Nat → Int32) × Int32 × (Nat → Int32) × (Nat → Int32))) else (Lt (x_403 + 1 : Int32) (fun x_405 => Lt (upd f_402 (1 : Int32).toNatClampNeg x_405 : Nat → Int32) (fun f_406 => ((1, u_390_2_2_2_1_0, u_390_2_1_0, u_390_2_1_1, x_388, u_390_2_1_2, f_406) : Int32 × Int32 × (Nat → Int32) × (Nat → Int32) × Int32 × (Nat → Int32) × (Nat → Int32))))))))))))))))))
set_option maxRecDepth 100000 in
noncomputable def E_w_nextHour (G : Nat → LC) (br : Int32) (fs : Nat → Int32) (fw : Nat → Int32) (n : Int32) (lt : Int32) (nf : Int32) (fi : Int32) (f1 : Nat → Int32) (f2 : Nat → Int32) (f3 : Nat → Int32) (fl : Nat → Option Nat) : Int32 × Int32 × (Nat → Int32) × (Nat → Int32) × Int32 × (Nat → Int32) × (Nat → Int32) :=
  Lt (f2 (0 : Int32).toNatClampNeg : Int32) (fun x_295 => if x_295 = 23 then (Lt (f2 (1 : Int32).toNatClampNeg : Int32) (fun x_410 => if x_410 < 999 then (E_w_nextHour_j36 G br fs fw n lt nf fi f1 f2 f3 fl 1) else ((((-3), br, fs, fw, fi, f1, f2) : Int32 × Int32 × (Nat → Int32) × (Nat → Int32) × Int32 × (Nat → Int32) × (Nat → Int32))))) else (E_w_nextHour_j36 G br fs fw n lt nf fi f1 f2 f3 fl 0))
set_option maxHeartbeats 4000000 in
set_option maxRecDepth 100000 in
theorem w_nextHour (l : Launch) (D : va_G) (K : Nat → ClassId) (g : Nat → Nat) (L : Nat → Prop) (G : Nat → LC) (r0 : Nat) (t0 : Nat) (a0 : Nat) (m0 : Nat) (w0 : Nat) (m1 : Nat) (br : Int32) (fs : Nat → Int32) (fw : Nat → Int32) (t1 : Nat) (t3 : Nat) (t2 : Nat) (l0 : Nat) (n : Int32) (lt : Int32) (nf : Int32) (fi : Int32) (k_8 : Value) (k_9 : Value) (f1 : Nat → Int32) (gt : Nat → Int32) (f2 : Nat → Int32) (f3 : Nat → Int32) (gc : Nat → Int32) (fl : Nat → Option Nat) (sz : Nat) (zn : 0 ≤ n.toInt ∧ n.toInt ≤ 8) (zlt : 0 ≤ lt.toInt ∧ lt.toInt ≤ 6) (zbr : 0 ≤ br.toInt ∧ br.toInt ≤ 1) (zgt : FzC gt f1) (zgc : FzH gc f3) (zfl : InL L fl) : Met l yX10_nextHour wsX10_nextHour ({ frames := 4, cells := 0, slots := 0, locals := 105 }) (va_Pc [.ref r0, .ref t0] (PreY D K [(r0, .inr (10, [.ref a0])), (a0, .inr (0, [.ref m0, .ref w0])), (m0, .inr (3, [.ref m1, .int br])), (m1, .inl (K 0, 64, .inl fs)), (w0, .inl (K 0, 9, .inl fw)), (t0, .inr (9, [.ref t1, .ref t3, .ref t2, .ref l0, .int n, .int lt, .int nf, .int fi, k_8, k_9])), (t1, .inl (K 0, 56, .inl f1)), (t2, .inl (K 0, 6, .inl f2)), (t3, .inl (K 0, 24, .inl f3)), (l0, .inl (K 4, 6, .inr (.inr (.inr (.inr fl)))))] [] sz g L G (va_A [(r0, .inr (10, [.ref a0])), (a0, .inr (0, [.ref m0, .ref w0])), (m0, .inr (3, [.ref m1, .int br])), (m1, .inl (K 0, 64, .inl fs)), (w0, .inl (K 0, 9, .inl fw)), (t0, .inr (9, [.ref t1, .ref t3, .ref t2, .ref l0, .int n, .int lt, .int nf, .int fi, k_8, k_9])), (t1, .inl (K 0, 56, .inl f1)), (t2, .inl (K 0, 6, .inl f2)), (t3, .inl (K 0, 24, .inl f3)), (l0, .inl (K 4, 6, .inr (.inr (.inr (.inr fl)))))] sz))) (va_Qi (S := Su) (fun (r : Int32) (u : Su) => ((-3) ≤ r.toInt ∧ r.toInt ≤ 1) ∧ (0 ≤ (u.2.2.2.1 0).toInt ∧ (u.2.2.2.1 0).toInt ≤ 1) ∧ (FzC gt (u.2.1 2)) ∧ ((r, (u.2.2.2.1 0), (u.2.1 0), (u.2.1 1), (u.2.2.2.1 1), (u.2.1 2), (u.2.1 3)) = E_w_nextHour G br fs fw n lt nf fi f1 f2 f3 fl) ∧ True) (fun u t => Wd D (va_A [(r0, .inr (10, [.ref a0])), (a0, .inr (0, [.ref m0, .ref w0])), (m0, .inr (3, [.ref m1, .int br])), (m1, .inl (K 0, 64, .inl fs)), (w0, .inl (K 0, 9, .inl fw)), (t0, .inr (9, [.ref t1, .ref t3, .ref t2, .ref l0, .int n, .int lt, .int nf, .int fi, k_8, k_9])), (t1, .inl (K 0, 56, .inl f1)), (t2, .inl (K 0, 6, .inl f2)), (t3, .inl (K 0, 24, .inl f3)), (l0, .inl (K 4, 6, .inr (.inr (.inr (.inr fl)))))] sz) ((fun u => [(r0, .inr (10, [.ref a0])), (a0, .inr (0, [.ref m0, .ref w0])), (m0, .inr (3, [.ref m1, .int (u.2.2.2.1 0)])), (m1, .inl (K 0, 64, .inl (u.2.1 0))), (w0, .inl (K 0, 9, .inl (u.2.1 1))), (t0, .inr (9, [.ref t1, .ref t3, .ref t2, .ref l0, .int n, .int lt, .int nf, .int (u.2.2.2.1 1), k_8, k_9])), (t1, .inl (K 0, 56, .inl (u.2.1 2))), (t2, .inl (K 0, 6, .inl (u.2.1 3))), (t3, .inl (K 0, 24, .inl f3)), (l0, .inl (K 4, 6, .inr (.inr (.inr (.inr fl)))))]) u) t) (va_A [(r0, .inr (10, [.ref a0])), (a0, .inr (0, [.ref m0, .ref w0])), (m0, .inr (3, [.ref m1, .int br])), (m1, .inl (K 0, 64, .inl fs)), (w0, .inl (K 0, 9, .inl fw)), (t0, .inr (9, [.ref t1, .ref t3, .ref t2, .ref l0, .int n, .int lt, .int nf, .int fi, k_8, k_9])), (t1, .inl (K 0, 56, .inl f1)), (t2, .inl (K 0, 6, .inl f2)), (t3, .inl (K 0, 24, .inl f3)), (l0, .inl (K 4, 6, .inr (.inr (.inr (.inr fl)))))] sz)) 0 0 (va_A [(r0, .inr (10, [.ref a0])), (a0, .inr (0, [.ref m0, .ref w0])), (m0, .inr (3, [.ref m1, .int br])), (m1, .inl (K 0, 64, .inl fs)), (w0, .inl (K 0, 9, .inl fw)), (t0, .inr (9, [.ref t1, .ref t3, .ref t2, .ref l0, .int n, .int lt, .int nf, .int fi, k_8, k_9])), (t1, .inl (K 0, 56, .inl f1)), (t2, .inl (K 0, 6, .inl f2)), (t3, .inl (K 0, 24, .inl f3)), (l0, .inl (K 4, 6, .inr (.inr (.inr (.inr fl)))))] sz) := by
  refine Met.ofW (cc := cX10_nextHour) (maxL := 4) (ret := (some .int)) (by decide +kernel) rfl ?_
  intro p e s m args below meth c s₁ B hml hv
  obtain ⟨rfl, ⟨hsz, hP, hK, hD0, hN⟩, hG, hPl, hRo⟩ := hv
  have hx := B.exec
  have hb := B.bytes
  have hr := B.returns
  have hts := atoms_spec (ws := wsX10_nextHour) B.pre
  have hown : s.vm.findClass RX10 = some m.cls := findClass_of_methodNamed B.named
  have hlocks := B.notSynchronized
  subst hsz
  have hD := hD0.self (sz := s.heap.size)
  generalize hAe : va_A [(r0, .inr (10, [.ref a0])), (a0, .inr (0, [.ref m0, .ref w0])), (m0, .inr (3, [.ref m1, .int br])), (m1, .inl (K 0, 64, .inl fs)), (w0, .inl (K 0, 9, .inl fw)), (t0, .inr (9, [.ref t1, .ref t3, .ref t2, .ref l0, .int n, .int lt, .int nf, .int fi, k_8, k_9])), (t1, .inl (K 0, 56, .inl f1)), (t2, .inl (K 0, 6, .inl f2)), (t3, .inl (K 0, 24, .inl f3)), (l0, .inl (K 4, 6, .inr (.inr (.inr (.inr fl)))))] s.heap.size = A at hD hG hPl hRo ⊢
  have hA : ∀ q : Nat, s.heap.size ≤ q → A q := fun q h => by rw [← hAe]; exact Or.inr h
  clear hAe
  have hS : va_S A s.heap s.heap [] := va_S.rf
  replace hP : va_P D vwCl [(r0, .inr (10, [.ref a0])), (a0, .inr (0, [.ref m0, .ref w0])), (m0, .inr (3, [.ref m1, .int br])), (m1, .inl (K 0, 64, .inl fs)), (w0, .inl (K 0, 9, .inl fw)), (t0, .inr (9, [.ref t1, .ref t3, .ref t2, .ref l0, .int n, .int lt, .int nf, .int fi, k_8, k_9])), (t1, .inl (K 0, 56, .inl f1)), (t2, .inl (K 0, 6, .inl f2)), (t3, .inl (K 0, 24, .inl f3)), (l0, .inl (K 4, 6, .inr (.inr (.inr (.inr fl)))))] s.heap := hP
  have hl := lv_entry [.ref r0, .ref t0] (n := 4) (Nat.le_of_ble_eq_true rfl)
  rw [lg_entry_eq]
  generalize (lg_sl [.ref r0, .ref t0] ++ List.replicate (4 - (lg_sl [.ref r0, .ref t0]).length) Slot.unset).toArray = ls at hl ⊢
  have hl : lv_has ls 4 [(0, .ref r0), (1, .ref t0)] := hl
  have hw0 : ∀ w ∈ wsX00, w ∈ wsX10_nextHour := fun w h => (List.mem_cons_of_mem _ (List.mem_append_left _ (List.mem_append_left _ (List.mem_append_right _ h))))
  have hw3 : ∀ w ∈ wsX30, w ∈ wsX10_nextHour := fun w h => (List.mem_cons_of_mem _ (List.mem_append_right _ h))
  have hw7 : ∀ w ∈ wsX70, w ∈ wsX10_nextHour := fun w h => (List.mem_cons_of_mem _ (List.mem_append_left _ (List.mem_append_right _ h)))
  have hw9 : ∀ w ∈ wsX90, w ∈ wsX10_nextHour := fun w h => (List.mem_cons_of_mem _ (List.mem_append_left _ (List.mem_append_left _ (List.mem_append_left _ (List.mem_append_left _ (List.mem_append_right _ h))))))
  have hw10 : ∀ w ∈ wsX100, w ∈ wsX10_nextHour := fun w h => (List.mem_cons_of_mem _ (List.mem_append_left _ (List.mem_append_left _ (List.mem_append_left _ (List.mem_append_right _ h)))))
  generalize hQ : MQ below _ _ s _ _ _ = Q
  have hE := E_w_nextHour.eq_def G br fs fw n lt nf fi f1 f2 f3 fl
  refine lv_aload_n hx hb dX10_nextHour_0 rfl (lv_at hl 1 rfl) ?_
  refine va_getN (ci := 9) (v := .ref t2) (C := RX9) (T := TX9) (N := 10) hx hb hts hw9 hown hK hP 5 rfl rfl 2 (by decide +kernel) (nst_use hN 101 rfl) (fun _ h9 => h9) rfl dX10_nextHour_1 ?_
  refine lv_iconst (v := 0) hx hb dX10_nextHour_4 (by decide +kernel) ?_
  refine va_iald hx hb hK hP 7 0 rfl rfl (i_in (x := 0) rfl (by omega)) dX10_nextHour_5 ?_
  refine lv_topi (fun x_295 ex_295 => ?_)
  replace hE := hE.trans (Lt_in ex_295)
  refine lv_bipush (v := 23) hx hb dX10_nextHour_6 (by decide +kernel) ?_
  have j_354 : ∀ (v_301 : Int32) (hv_301 : 0 ≤ v_301.toInt ∧ v_301.toInt ≤ 1) (hE : E_w_nextHour G br fs fw n lt nf fi f1 f2 f3 fl = E_w_nextHour_j36 G br fs fw n lt nf fi f1 f2 f3 fl v_301) (H : Heap) (locs : List Loc) (hP : va_P D vwCl [(r0, .inr (10, [.ref a0])), (a0, .inr (0, [.ref m0, .ref w0])), (m0, .inr (3, [.ref m1, .int br])), (m1, .inl (K 0, 64, .inl fs)), (w0, .inl (K 0, 9, .inl fw)), (t0, .inr (9, [.ref t1, .ref t3, .ref t2, .ref l0, .int n, .int lt, .int nf, .int fi, k_8, k_9])), (t1, .inl (K 0, 56, .inl f1)), (t2, .inl (K 0, 6, .inl f2)), (t3, .inl (K 0, 24, .inl f3)), (l0, .inl (K 4, 6, .inr (.inr (.inr (.inr fl)))))] H) (hD : va_D A [(r0, .inr (10, [.ref a0])), (a0, .inr (0, [.ref m0, .ref w0])), (m0, .inr (3, [.ref m1, .int br])), (m1, .inl (K 0, 64, .inl fs)), (w0, .inl (K 0, 9, .inl fw)), (t0, .inr (9, [.ref t1, .ref t3, .ref t2, .ref l0, .int n, .int lt, .int nf, .int fi, k_8, k_9])), (t1, .inl (K 0, 56, .inl f1)), (t2, .inl (K 0, 6, .inl f2)), (t3, .inl (K 0, 24, .inl f3)), (l0, .inl (K 4, 6, .inr (.inr (.inr (.inr fl)))))]) (hS : va_S A s.heap H locs) (ls : Array Slot) (hl : lv_has ls 4 [(2, .int v_301), (0, .ref r0), (1, .ref t0)]), W p l e ({ frames := 4, cells := 0, slots := 0, locals := 105 }) s m (([.ref r0, .ref t0] : List Value).toArray) below meth c H locs 0 0 Q (F0 m 36 ls []) := by
    clear hE hP hD hS hl
    intro v_301 hv_301 hE H locs hP hD hS ls hl
    replace hE := hE.trans (E_w_nextHour_j36.eq_def _ _ _ _ _ _ _ _ _ _ _ _ _)
    refine lv_aload_n hx hb dX10_nextHour_36 rfl (lv_at hl 2 rfl) ?_
    refine pci (va_runVN (As := []) (rest := []) ⟨hx, hb, hml, hown, hts⟩ (w_meetsChord l D K t0 t1 t3 t2 (.ref l0) n (.int lt) (.int nf) (.int fi) k_8 k_9 f1 f2 f3 H.size (by first | omega | decide)) ⟨va_cnB 0 hts gX10_nextHour_X9_meetsChord_n60 rfl rfl rfl (nst_at hN 60 rfl) (hts _ mm_X10_nextHour_145) (by decide +kernel) ⟨Nat.le_of_ble_eq_true rfl, Nat.le_of_ble_eq_true rfl⟩, (hts _ mm_X10_nextHour_608), (hts _ mm_X10_nextHour_46)⟩ (mkV hK hN (hP.sub [5, 6, 7, 8] rfl) (hD.sub [5, 6, 7, 8] (by decide +kernel) rfl) (ci := 9) (q0 := 0) rfl rfl) rfl rfl hl.1 rfl (lv_room (Nat.le_of_ble_eq_true rfl)) dX10_nextHour_37 ⟨Nat.le_of_ble_eq_true rfl, Nat.le_of_ble_eq_true rfl⟩) (fun r_355 hw => ?_)
    obtain ⟨h_357, k_356, -⟩ := hw
    replace hE := hE.trans (Lt_in k_356)
    refine lv_if_eq (tgt := 47) hx hb dX10_nextHour_40 (by decide +kernel) (fun c_358 => ?_) (fun c_358 => ?_)
    · have c_358i := i_eq (x := r_355.toInt) (y := 0) rfl rfl c_358
      replace hE := hE.trans (if_pos c_358)
      refine lv_iconst (v := 0) hx hb dX10_nextHour_47 (by decide +kernel) ?_
      refine lv_istore_n (lv' := [(3, .int 0), (2, .int v_301), (0, .ref r0), (1, .ref t0)]) hx hb dX10_nextHour_48 rfl hl (by decide +kernel) rfl (fun ls hl => ?_)
      refine lv_aload_n hx hb dX10_nextHour_49 rfl (lv_at hl 3 rfl) ?_
      refine lv_ldc (v := 99999) hx hb hown (hts _ mm_X10_nextHour_615) dX10_nextHour_50 ?_
      refine lv_aload_n hx hb dX10_nextHour_52 rfl (lv_at hl 3 rfl) ?_
      refine va_getN (ci := 9) (v := .int fi) (C := RX9) (T := TX9) (N := 10) hx hb hts hw9 hown hK hP 5 rfl rfl 7 (by decide +kernel) (nst_use hN 114 rfl) (fun _ h9 => h9) rfl dX10_nextHour_53 ?_
      refine lv_aload_n hx hb dX10_nextHour_56 rfl (lv_at hl 2 rfl) ?_
      refine lv_aload_n hx hb dX10_nextHour_57 rfl (lv_at hl 3 rfl) ?_
      refine kci (S := Su) (wr := []) (va_runV (As := [.ref t0]) (rest := [.int fi, .int 99999, .ref t0]) ⟨hx, hb, hml, hown, hts⟩ (w_discords l D K g L G r0 t0 a0 m0 w0 m1 br fs fw t1 t3 t2 l0 n lt nf fi k_8 k_9 f1 gt f2 f3 gc fl H.size (by first | omega | decide) (by first | omega | decide) (by first | omega | decide) zgt zgc zfl) (cwV 1 hts gX10_nextHour_X10_discords rfl rfl rfl (by decide +kernel) ⟨Nat.le_of_ble_eq_true rfl, Nat.le_of_ble_eq_true rfl⟩) (mkVY hK hN (hP.sub [0, 1, 2, 3, 4, 5, 6, 7, 8, 9] rfl) (hD.sub [0, 1, 2, 3, 4, 5, 6, 7, 8, 9] (by decide +kernel) rfl) (ci := 10) (q0 := 0) rfl rfl (fun U hU hW => ⟨Gl.at hG hS hW hU (fun q h => va_free hD hS hA [0, 1, 2, 3, 4, 5, 6, 7, 8, 9] rfl q h), Pool.at hPl hS hU (fun q h => va_free hD hS hA [0, 1, 2, 3, 4, 5, 6, 7, 8, 9] rfl q h), Ro.heap hU (Ro.nil)⟩)) rfl rfl hl.1 rfl (lv_room (Nat.le_of_ble_eq_true rfl)) dX10_nextHour_58 ⟨Nat.le_of_ble_eq_true rfl, Nat.le_of_ble_eq_true rfl⟩) hP hD hS hA [0, 1, 2, 3, 4, 5, 6, 7, 8, 9] [] rfl rfl (by decide +kernel) (by decide +kernel) (fun r_359 u_360 H locs hw hP0 hD0 hS0 => ?_)
      clear hP hD hS
      have hP := hP0
      have hD := hD0
      have hS := hS0
      clear hP0 hD0 hS0
      replace hP : va_P D vwCl [(r0, .inr (10, [.ref a0])), (a0, .inr (0, [.ref m0, .ref w0])), (m0, .inr (3, [.ref m1, .int (u_360.2.2.2.1 0)])), (m1, .inl (K 0, 64, .inl (u_360.2.1 0))), (w0, .inl (K 0, 9, .inl (u_360.2.1 1))), (t0, .inr (9, [.ref t1, .ref t3, .ref t2, .ref l0, .int n, .int lt, .int nf, .int fi, k_8, k_9])), (t1, .inl (K 0, 56, .inl f1)), (t2, .inl (K 0, 6, .inl f2)), (t3, .inl (K 0, 24, .inl f3)), (l0, .inl (K 4, 6, .inr (.inr (.inr (.inr fl)))))] H := hP
      replace hD : va_D A [(r0, .inr (10, [.ref a0])), (a0, .inr (0, [.ref m0, .ref w0])), (m0, .inr (3, [.ref m1, .int (u_360.2.2.2.1 0)])), (m1, .inl (K 0, 64, .inl (u_360.2.1 0))), (w0, .inl (K 0, 9, .inl (u_360.2.1 1))), (t0, .inr (9, [.ref t1, .ref t3, .ref t2, .ref l0, .int n, .int lt, .int nf, .int fi, k_8, k_9])), (t1, .inl (K 0, 56, .inl f1)), (t2, .inl (K 0, 6, .inl f2)), (t3, .inl (K 0, 24, .inl f3)), (l0, .inl (K 4, 6, .inr (.inr (.inr (.inr fl)))))] := hD
      obtain ⟨k_361, k_362, -⟩ := hw
      replace hE := ((hE.trans (Lt2_in k_362)).trans (Lt2_in rfl)).trans (Lt2_in rfl)
      refine lv_iadd hx hb dX10_nextHour_61 ?_
      refine lv_topi (fun x_363 ex_363 => ?_)
      replace hE := hE.trans (Lt_in ex_363)
      refine va_mmin hx hb (hml.trans hl.1.symm) hown (hts _ mm_X10_nextHour_600) (hts _ mm_X10_nextHour_426) (hts _ mm_X10_nextHour_157) (hts _ mm_X10_nextHour_427) (Nat.le_of_ble_eq_true rfl) (Nat.le_of_ble_eq_true rfl) (Nat.le_of_ble_eq_true rfl) (Nat.le_of_ble_eq_true rfl) dX10_nextHour_62 ?_
      refine lv_topi (fun x_364 ex_364 => ?_)
      replace hE := hE.trans (Lt_in ex_364)
      have hx_364 : (99999 ≤ x_363.toInt ∧ x_364.toInt = 99999) ∨ (x_363.toInt < 99999 ∧ x_364.toInt = x_363.toInt) := by rw [ex_364]; exact i_min (show (99999 : Int32).toInt = 99999 from rfl) rfl
      replace hx_364 : x_364.toInt ≤ x_363.toInt ∧ x_364.toInt ≤ 99999 := by omega
      refine va_putN (ci := 9) (v := .int x_364) (ty := .int) (C := RX9) (T := TX9) (N := 10) hx hb hts hw9 tyX9 tyX9_ok nmX9 hown hK hP hD hS 5 rfl rfl 7 (by decide +kernel) (nst_use hN 114 rfl) (fun _ h9 => h9) rfl (by decide +kernel) (by first | rfl | decide) (by first | rfl | decide) (Nat.le_of_ble_eq_true rfl) dX10_nextHour_65 (fun H locs hP0 hD0 hS0 => ?_)
      clear hP hD hS
      have hP := hP0
      have hD := hD0
      have hS := hS0
      clear hP0 hD0 hS0
      replace hP : va_P D vwCl [(r0, .inr (10, [.ref a0])), (a0, .inr (0, [.ref m0, .ref w0])), (m0, .inr (3, [.ref m1, .int (u_360.2.2.2.1 0)])), (m1, .inl (K 0, 64, .inl (u_360.2.1 0))), (w0, .inl (K 0, 9, .inl (u_360.2.1 1))), (t0, .inr (9, [.ref t1, .ref t3, .ref t2, .ref l0, .int n, .int lt, .int nf, .int x_364, k_8, k_9])), (t1, .inl (K 0, 56, .inl f1)), (t2, .inl (K 0, 6, .inl f2)), (t3, .inl (K 0, 24, .inl f3)), (l0, .inl (K 4, 6, .inr (.inr (.inr (.inr fl)))))] H := hP
      replace hD : va_D A [(r0, .inr (10, [.ref a0])), (a0, .inr (0, [.ref m0, .ref w0])), (m0, .inr (3, [.ref m1, .int (u_360.2.2.2.1 0)])), (m1, .inl (K 0, 64, .inl (u_360.2.1 0))), (w0, .inl (K 0, 9, .inl (u_360.2.1 1))), (t0, .inr (9, [.ref t1, .ref t3, .ref t2, .ref l0, .int n, .int lt, .int nf, .int x_364, k_8, k_9])), (t1, .inl (K 0, 56, .inl f1)), (t2, .inl (K 0, 6, .inl f2)), (t3, .inl (K 0, 24, .inl f3)), (l0, .inl (K 4, 6, .inr (.inr (.inr (.inr fl)))))] := hD
      refine lv_aload_n hx hb dX10_nextHour_68 rfl (lv_at hl 2 rfl) ?_
      refine lv_aload_n hx hb dX10_nextHour_69 rfl (lv_at hl 3 rfl) ?_
      refine kcv (S := Su) (wr := []) (va_runV (As := [.ref t0]) (rest := []) ⟨hx, hb, hml, hown, hts⟩ (w_burnDown l D K g L G r0 t0 a0 m0 w0 m1 (u_360.2.2.2.1 0) (u_360.2.1 0) (u_360.2.1 1) t1 t3 t2 l0 n lt nf x_364 k_8 k_9 f1 gt f2 f3 gc fl H.size (by first | omega | decide) (by first | omega | decide) (by first | omega | decide) zgt zgc zfl) (cwV 1 hts gX10_nextHour_X10_burnDown rfl rfl rfl (by decide +kernel) ⟨Nat.le_of_ble_eq_true rfl, Nat.le_of_ble_eq_true rfl⟩) (mkVY hK hN (hP.sub [0, 1, 2, 3, 4, 5, 6, 7, 8, 9] rfl) (hD.sub [0, 1, 2, 3, 4, 5, 6, 7, 8, 9] (by decide +kernel) rfl) (ci := 10) (q0 := 0) rfl rfl (fun U hU hW => ⟨Gl.at hG hS hW hU (fun q h => va_free hD hS hA [0, 1, 2, 3, 4, 5, 6, 7, 8, 9] rfl q h), Pool.at hPl hS hU (fun q h => va_free hD hS hA [0, 1, 2, 3, 4, 5, 6, 7, 8, 9] rfl q h), Ro.heap hU (Ro.nil)⟩)) rfl rfl hl.1 rfl (lv_room (Nat.le_of_ble_eq_true rfl)) dX10_nextHour_70 ⟨Nat.le_of_ble_eq_true rfl, Nat.le_of_ble_eq_true rfl⟩) hP hD hS hA [0, 1, 2, 3, 4, 5, 6, 7, 8, 9] [] rfl rfl (by decide +kernel) (by decide +kernel) (fun u_366 H locs hw hP0 hD0 hS0 => ?_)
      clear hP hD hS
      have hP := hP0
      have hD := hD0
      have hS := hS0
      clear hP0 hD0 hS0
      replace hP : va_P D vwCl [(r0, .inr (10, [.ref a0])), (a0, .inr (0, [.ref m0, .ref w0])), (m0, .inr (3, [.ref m1, .int (u_366.2.2.2.1 0)])), (m1, .inl (K 0, 64, .inl (u_366.2.1 0))), (w0, .inl (K 0, 9, .inl (u_366.2.1 1))), (t0, .inr (9, [.ref t1, .ref t3, .ref t2, .ref l0, .int n, .int lt, .int nf, .int x_364, k_8, k_9])), (t1, .inl (K 0, 56, .inl (u_366.2.1 2))), (t2, .inl (K 0, 6, .inl f2)), (t3, .inl (K 0, 24, .inl f3)), (l0, .inl (K 4, 6, .inr (.inr (.inr (.inr fl)))))] H := hP
      replace hD : va_D A [(r0, .inr (10, [.ref a0])), (a0, .inr (0, [.ref m0, .ref w0])), (m0, .inr (3, [.ref m1, .int (u_366.2.2.2.1 0)])), (m1, .inl (K 0, 64, .inl (u_366.2.1 0))), (w0, .inl (K 0, 9, .inl (u_366.2.1 1))), (t0, .inr (9, [.ref t1, .ref t3, .ref t2, .ref l0, .int n, .int lt, .int nf, .int x_364, k_8, k_9])), (t1, .inl (K 0, 56, .inl (u_366.2.1 2))), (t2, .inl (K 0, 6, .inl f2)), (t3, .inl (K 0, 24, .inl f3)), (l0, .inl (K 4, 6, .inr (.inr (.inr (.inr fl)))))] := hD
      obtain ⟨k_367, k_368, k_369, -⟩ := hw
      replace hE := ((hE.trans (Lt2_in k_369)).trans (Lt2_in rfl)).trans (Lt2_in rfl)
      refine lv_aload_n hx hb dX10_nextHour_73 rfl (lv_at hl 3 rfl) ?_
      refine va_getN (ci := 9) (v := .ref t2) (C := RX9) (T := TX9) (N := 10) hx hb hts hw9 hown hK hP 5 rfl rfl 2 (by decide +kernel) (nst_use hN 101 rfl) (fun _ h9 => h9) rfl dX10_nextHour_74 ?_
      refine lv_iconst (v := 0) hx hb dX10_nextHour_77 (by decide +kernel) ?_
      refine lv_iload_n hx hb dX10_nextHour_78 rfl (lv_at hl 1 rfl) ?_
      refine lv_if_eq (tgt := 86) hx hb dX10_nextHour_79 (by decide +kernel) (fun c_370 => ?_) (fun c_370 => ?_)
      · have c_370i := i_eq (x := v_301.toInt) (y := 0) rfl rfl c_370
        replace hE := hE.trans (if_pos c_370)
        refine lv_aload_n hx hb dX10_nextHour_86 rfl (lv_at hl 3 rfl) ?_
        refine va_getN (ci := 9) (v := .ref t2) (C := RX9) (T := TX9) (N := 10) hx hb hts hw9 hown hK hP 5 rfl rfl 2 (by decide +kernel) (nst_use hN 101 rfl) (fun _ h9 => h9) rfl dX10_nextHour_87 ?_
        refine lv_iconst (v := 0) hx hb dX10_nextHour_90 (by decide +kernel) ?_
        refine va_iald hx hb hK hP 7 0 rfl rfl (i_in (x := 0) rfl (by omega)) dX10_nextHour_91 ?_
        refine lv_topi (fun x_371 ex_371 => ?_)
        replace hE := hE.trans (Lt_in ex_371)
        refine lv_iconst (v := 1) hx hb dX10_nextHour_92 (by decide +kernel) ?_
        refine lv_iadd hx hb dX10_nextHour_93 ?_
        refine lv_topi (fun x_372 ex_372 => ?_)
        replace hE := hE.trans (Lt_in ex_372)
        refine va_iast hx hb hK hP hD hS 7 0 rfl rfl (i_in (x := 0) rfl (by omega)) dX10_nextHour_94 (fun H locs hP0 hD0 hS0 => ?_)
        clear hP hD hS
        have hP := hP0
        have hD := hD0
        have hS := hS0
        clear hP0 hD0 hS0
        generalize hf_373 : (upd f2 (0 : Int32).toNatClampNeg x_372) = f_373 at hP hD
        replace hE := hE.trans (Lt_in hf_373.symm)
        replace hP : va_P D vwCl [(r0, .inr (10, [.ref a0])), (a0, .inr (0, [.ref m0, .ref w0])), (m0, .inr (3, [.ref m1, .int (u_366.2.2.2.1 0)])), (m1, .inl (K 0, 64, .inl (u_366.2.1 0))), (w0, .inl (K 0, 9, .inl (u_366.2.1 1))), (t0, .inr (9, [.ref t1, .ref t3, .ref t2, .ref l0, .int n, .int lt, .int nf, .int x_364, k_8, k_9])), (t1, .inl (K 0, 56, .inl (u_366.2.1 2))), (t2, .inl (K 0, 6, .inl f_373)), (t3, .inl (K 0, 24, .inl f3)), (l0, .inl (K 4, 6, .inr (.inr (.inr (.inr fl)))))] H := hP
        replace hD : va_D A [(r0, .inr (10, [.ref a0])), (a0, .inr (0, [.ref m0, .ref w0])), (m0, .inr (3, [.ref m1, .int (u_366.2.2.2.1 0)])), (m1, .inl (K 0, 64, .inl (u_366.2.1 0))), (w0, .inl (K 0, 9, .inl (u_366.2.1 1))), (t0, .inr (9, [.ref t1, .ref t3, .ref t2, .ref l0, .int n, .int lt, .int nf, .int x_364, k_8, k_9])), (t1, .inl (K 0, 56, .inl (u_366.2.1 2))), (t2, .inl (K 0, 6, .inl f_373)), (t3, .inl (K 0, 24, .inl f3)), (l0, .inl (K 4, 6, .inr (.inr (.inr (.inr fl)))))] := hD
        refine lv_aload_n hx hb dX10_nextHour_95 rfl (lv_at hl 3 rfl) ?_
        refine va_getN (ci := 9) (v := .ref t2) (C := RX9) (T := TX9) (N := 10) hx hb hts hw9 hown hK hP 5 rfl rfl 2 (by decide +kernel) (nst_use hN 101 rfl) (fun _ h9 => h9) rfl dX10_nextHour_96 ?_
        refine lv_iconst (v := 1) hx hb dX10_nextHour_99 (by decide +kernel) ?_
        refine lv_dup2_11 hx hb dX10_nextHour_100 rfl rfl ?_
        refine va_iald hx hb hK hP 7 0 rfl rfl (i_in (x := 1) rfl (by omega)) dX10_nextHour_101 ?_
        refine lv_topi (fun x_374 ex_374 => ?_)
        replace hE := hE.trans (Lt_in ex_374)
        refine lv_iload_n hx hb dX10_nextHour_102 rfl (lv_at hl 1 rfl) ?_
        refine lv_if_eq (tgt := 110) hx hb dX10_nextHour_103 (by decide +kernel) (fun c_375 => ?_) (fun c_375 => ?_)
        · have c_375i := i_eq (x := v_301.toInt) (y := 0) rfl rfl c_375
          replace hE := hE.trans (if_pos c_375)
          refine lv_iconst (v := 0) hx hb dX10_nextHour_110 (by decide +kernel) ?_
          refine lv_iadd hx hb dX10_nextHour_111 ?_
          refine lv_topi (fun x_376 ex_376 => ?_)
          replace hE := hE.trans (Lt_in ex_376)
          have hx_376 : x_376.toInt = (x_374.toInt + 0) := by rw [ex_376]; exact i_add rfl (show (0 : Int32).toInt = 0 from rfl) (by have q1 := i_rng (a := x_374) rfl; omega)
          refine va_iast hx hb hK hP hD hS 7 0 rfl rfl (i_in (x := 1) rfl (by omega)) dX10_nextHour_112 (fun H locs hP0 hD0 hS0 => ?_)
          clear hP hD hS
          have hP := hP0
          have hD := hD0
          have hS := hS0
          clear hP0 hD0 hS0
          generalize hf_377 : (upd f_373 (1 : Int32).toNatClampNeg x_376) = f_377 at hP hD
          replace hE := hE.trans (Lt_in hf_377.symm)
          replace hP : va_P D vwCl [(r0, .inr (10, [.ref a0])), (a0, .inr (0, [.ref m0, .ref w0])), (m0, .inr (3, [.ref m1, .int (u_366.2.2.2.1 0)])), (m1, .inl (K 0, 64, .inl (u_366.2.1 0))), (w0, .inl (K 0, 9, .inl (u_366.2.1 1))), (t0, .inr (9, [.ref t1, .ref t3, .ref t2, .ref l0, .int n, .int lt, .int nf, .int x_364, k_8, k_9])), (t1, .inl (K 0, 56, .inl (u_366.2.1 2))), (t2, .inl (K 0, 6, .inl f_377)), (t3, .inl (K 0, 24, .inl f3)), (l0, .inl (K 4, 6, .inr (.inr (.inr (.inr fl)))))] H := hP
          replace hD : va_D A [(r0, .inr (10, [.ref a0])), (a0, .inr (0, [.ref m0, .ref w0])), (m0, .inr (3, [.ref m1, .int (u_366.2.2.2.1 0)])), (m1, .inl (K 0, 64, .inl (u_366.2.1 0))), (w0, .inl (K 0, 9, .inl (u_366.2.1 1))), (t0, .inr (9, [.ref t1, .ref t3, .ref t2, .ref l0, .int n, .int lt, .int nf, .int x_364, k_8, k_9])), (t1, .inl (K 0, 56, .inl (u_366.2.1 2))), (t2, .inl (K 0, 6, .inl f_377)), (t3, .inl (K 0, 24, .inl f3)), (l0, .inl (K 4, 6, .inr (.inr (.inr (.inr fl)))))] := hD
          refine lv_iload_n hx hb dX10_nextHour_113 rfl (lv_at hl 0 rfl) ?_
          rw [← hQ]
          have hP9 := hP.sub (ws' := [(r0, .inr (10, [.ref a0])), (a0, .inr (0, [.ref m0, .ref w0])), (m0, .inr (3, [.ref m1, .int (u_366.2.2.2.1 0)])), (m1, .inl (K 0, 64, .inl (u_366.2.1 0))), (w0, .inl (K 0, 9, .inl (u_366.2.1 1))), (t0, .inr (9, [.ref t1, .ref t3, .ref t2, .ref l0, .int n, .int lt, .int nf, .int x_364, k_8, k_9])), (t1, .inl (K 0, 56, .inl (u_366.2.1 2))), (t2, .inl (K 0, 6, .inl f_377)), (t3, .inl (K 0, 24, .inl f3)), (l0, .inl (K 4, 6, .inr (.inr (.inr (.inr fl)))))]) [0, 1, 2, 3, 4, 5, 6, 7, 8, 9] rfl
          have hD9 := hD.sub (ws' := [(r0, .inr (10, [.ref a0])), (a0, .inr (0, [.ref m0, .ref w0])), (m0, .inr (3, [.ref m1, .int (u_366.2.2.2.1 0)])), (m1, .inl (K 0, 64, .inl (u_366.2.1 0))), (w0, .inl (K 0, 9, .inl (u_366.2.1 1))), (t0, .inr (9, [.ref t1, .ref t3, .ref t2, .ref l0, .int n, .int lt, .int nf, .int x_364, k_8, k_9])), (t1, .inl (K 0, 56, .inl (u_366.2.1 2))), (t2, .inl (K 0, 6, .inl f_377)), (t3, .inl (K 0, 24, .inl f3)), (l0, .inl (K 4, 6, .inr (.inr (.inr (.inr fl)))))]) [0, 1, 2, 3, 4, 5, 6, 7, 8, 9] (by decide +kernel) rfl
          exact W.iret (v := 0) hx hb hr (fun t ht hW => ⟨⟨0, ((fun _ => 0, fun i => match i with | 0 => (u_366.2.1 0) | 1 => (u_366.2.1 1) | 2 => (u_366.2.1 2) | _ => f_377, fun _ => fun _ => 0, fun i => match i with | 0 => (u_366.2.2.2.1 0) | _ => x_364, fun _ => 0, fun _ => fun _ => none) : Su), rfl, ⟨(show (-3) ≤ (0 : Int32).toInt ∧ (0 : Int32).toInt ≤ 1 by decide), (show 0 ≤ ((u_366.2.2.2.1 0) : Int32).toInt ∧ ((u_366.2.2.2.1 0) : Int32).toInt ≤ 1 by omega), k_368, hE.symm, trivial⟩, (⟨by rw [ht]; exact hP9, hD9⟩ : Wd D A _ t)⟩, hS.F ht⟩) hS.2.2 dX10_nextHour_114
        · have c_375i := i_ne (x := v_301.toInt) (y := 0) rfl rfl c_375
          exfalso; omega
      · have c_370i := i_ne (x := v_301.toInt) (y := 0) rfl rfl c_370
        replace hE := hE.trans (if_neg c_370)
        refine lv_iconst (v := 0) hx hb dX10_nextHour_82 (by decide +kernel) ?_
        refine lv_goto (tgt := 94) hx hb dX10_nextHour_83 (by decide +kernel) ?_
        refine va_iast hx hb hK hP hD hS 7 0 rfl rfl (i_in (x := 0) rfl (by omega)) dX10_nextHour_94 (fun H locs hP0 hD0 hS0 => ?_)
        clear hP hD hS
        have hP := hP0
        have hD := hD0
        have hS := hS0
        clear hP0 hD0 hS0
        generalize hf_378 : (upd f2 (0 : Int32).toNatClampNeg 0) = f_378 at hP hD
        replace hE := hE.trans (Lt_in hf_378.symm)
        replace hP : va_P D vwCl [(r0, .inr (10, [.ref a0])), (a0, .inr (0, [.ref m0, .ref w0])), (m0, .inr (3, [.ref m1, .int (u_366.2.2.2.1 0)])), (m1, .inl (K 0, 64, .inl (u_366.2.1 0))), (w0, .inl (K 0, 9, .inl (u_366.2.1 1))), (t0, .inr (9, [.ref t1, .ref t3, .ref t2, .ref l0, .int n, .int lt, .int nf, .int x_364, k_8, k_9])), (t1, .inl (K 0, 56, .inl (u_366.2.1 2))), (t2, .inl (K 0, 6, .inl f_378)), (t3, .inl (K 0, 24, .inl f3)), (l0, .inl (K 4, 6, .inr (.inr (.inr (.inr fl)))))] H := hP
        replace hD : va_D A [(r0, .inr (10, [.ref a0])), (a0, .inr (0, [.ref m0, .ref w0])), (m0, .inr (3, [.ref m1, .int (u_366.2.2.2.1 0)])), (m1, .inl (K 0, 64, .inl (u_366.2.1 0))), (w0, .inl (K 0, 9, .inl (u_366.2.1 1))), (t0, .inr (9, [.ref t1, .ref t3, .ref t2, .ref l0, .int n, .int lt, .int nf, .int x_364, k_8, k_9])), (t1, .inl (K 0, 56, .inl (u_366.2.1 2))), (t2, .inl (K 0, 6, .inl f_378)), (t3, .inl (K 0, 24, .inl f3)), (l0, .inl (K 4, 6, .inr (.inr (.inr (.inr fl)))))] := hD
        refine lv_aload_n hx hb dX10_nextHour_95 rfl (lv_at hl 3 rfl) ?_
        refine va_getN (ci := 9) (v := .ref t2) (C := RX9) (T := TX9) (N := 10) hx hb hts hw9 hown hK hP 5 rfl rfl 2 (by decide +kernel) (nst_use hN 101 rfl) (fun _ h9 => h9) rfl dX10_nextHour_96 ?_
        refine lv_iconst (v := 1) hx hb dX10_nextHour_99 (by decide +kernel) ?_
        refine lv_dup2_11 hx hb dX10_nextHour_100 rfl rfl ?_
        refine va_iald hx hb hK hP 7 0 rfl rfl (i_in (x := 1) rfl (by omega)) dX10_nextHour_101 ?_
        refine lv_topi (fun x_379 ex_379 => ?_)
        replace hE := hE.trans (Lt_in ex_379)
        refine lv_iload_n hx hb dX10_nextHour_102 rfl (lv_at hl 1 rfl) ?_
        refine lv_if_eq (tgt := 110) hx hb dX10_nextHour_103 (by decide +kernel) (fun c_380 => ?_) (fun c_380 => ?_)
        · have c_380i := i_eq (x := v_301.toInt) (y := 0) rfl rfl c_380
          exfalso; omega
        · have c_380i := i_ne (x := v_301.toInt) (y := 0) rfl rfl c_380
          replace hE := hE.trans (if_neg c_380)
          refine lv_iconst (v := 1) hx hb dX10_nextHour_106 (by decide +kernel) ?_
          refine lv_goto (tgt := 111) hx hb dX10_nextHour_107 (by decide +kernel) ?_
          refine lv_iadd hx hb dX10_nextHour_111 ?_
          refine lv_topi (fun x_381 ex_381 => ?_)
          replace hE := hE.trans (Lt_in ex_381)
          refine va_iast hx hb hK hP hD hS 7 0 rfl rfl (i_in (x := 1) rfl (by omega)) dX10_nextHour_112 (fun H locs hP0 hD0 hS0 => ?_)
          clear hP hD hS
          have hP := hP0
          have hD := hD0
          have hS := hS0
          clear hP0 hD0 hS0
          generalize hf_382 : (upd f_378 (1 : Int32).toNatClampNeg x_381) = f_382 at hP hD
          replace hE := hE.trans (Lt_in hf_382.symm)
          replace hP : va_P D vwCl [(r0, .inr (10, [.ref a0])), (a0, .inr (0, [.ref m0, .ref w0])), (m0, .inr (3, [.ref m1, .int (u_366.2.2.2.1 0)])), (m1, .inl (K 0, 64, .inl (u_366.2.1 0))), (w0, .inl (K 0, 9, .inl (u_366.2.1 1))), (t0, .inr (9, [.ref t1, .ref t3, .ref t2, .ref l0, .int n, .int lt, .int nf, .int x_364, k_8, k_9])), (t1, .inl (K 0, 56, .inl (u_366.2.1 2))), (t2, .inl (K 0, 6, .inl f_382)), (t3, .inl (K 0, 24, .inl f3)), (l0, .inl (K 4, 6, .inr (.inr (.inr (.inr fl)))))] H := hP
          replace hD : va_D A [(r0, .inr (10, [.ref a0])), (a0, .inr (0, [.ref m0, .ref w0])), (m0, .inr (3, [.ref m1, .int (u_366.2.2.2.1 0)])), (m1, .inl (K 0, 64, .inl (u_366.2.1 0))), (w0, .inl (K 0, 9, .inl (u_366.2.1 1))), (t0, .inr (9, [.ref t1, .ref t3, .ref t2, .ref l0, .int n, .int lt, .int nf, .int x_364, k_8, k_9])), (t1, .inl (K 0, 56, .inl (u_366.2.1 2))), (t2, .inl (K 0, 6, .inl f_382)), (t3, .inl (K 0, 24, .inl f3)), (l0, .inl (K 4, 6, .inr (.inr (.inr (.inr fl)))))] := hD
          refine lv_iload_n hx hb dX10_nextHour_113 rfl (lv_at hl 0 rfl) ?_
          rw [← hQ]
          have hP9 := hP.sub (ws' := [(r0, .inr (10, [.ref a0])), (a0, .inr (0, [.ref m0, .ref w0])), (m0, .inr (3, [.ref m1, .int (u_366.2.2.2.1 0)])), (m1, .inl (K 0, 64, .inl (u_366.2.1 0))), (w0, .inl (K 0, 9, .inl (u_366.2.1 1))), (t0, .inr (9, [.ref t1, .ref t3, .ref t2, .ref l0, .int n, .int lt, .int nf, .int x_364, k_8, k_9])), (t1, .inl (K 0, 56, .inl (u_366.2.1 2))), (t2, .inl (K 0, 6, .inl f_382)), (t3, .inl (K 0, 24, .inl f3)), (l0, .inl (K 4, 6, .inr (.inr (.inr (.inr fl)))))]) [0, 1, 2, 3, 4, 5, 6, 7, 8, 9] rfl
          have hD9 := hD.sub (ws' := [(r0, .inr (10, [.ref a0])), (a0, .inr (0, [.ref m0, .ref w0])), (m0, .inr (3, [.ref m1, .int (u_366.2.2.2.1 0)])), (m1, .inl (K 0, 64, .inl (u_366.2.1 0))), (w0, .inl (K 0, 9, .inl (u_366.2.1 1))), (t0, .inr (9, [.ref t1, .ref t3, .ref t2, .ref l0, .int n, .int lt, .int nf, .int x_364, k_8, k_9])), (t1, .inl (K 0, 56, .inl (u_366.2.1 2))), (t2, .inl (K 0, 6, .inl f_382)), (t3, .inl (K 0, 24, .inl f3)), (l0, .inl (K 4, 6, .inr (.inr (.inr (.inr fl)))))]) [0, 1, 2, 3, 4, 5, 6, 7, 8, 9] (by decide +kernel) rfl
          exact W.iret (v := 0) hx hb hr (fun t ht hW => ⟨⟨0, ((fun _ => 0, fun i => match i with | 0 => (u_366.2.1 0) | 1 => (u_366.2.1 1) | 2 => (u_366.2.1 2) | _ => f_382, fun _ => fun _ => 0, fun i => match i with | 0 => (u_366.2.2.2.1 0) | _ => x_364, fun _ => 0, fun _ => fun _ => none) : Su), rfl, ⟨(show (-3) ≤ (0 : Int32).toInt ∧ (0 : Int32).toInt ≤ 1 by decide), (show 0 ≤ ((u_366.2.2.2.1 0) : Int32).toInt ∧ ((u_366.2.2.2.1 0) : Int32).toInt ≤ 1 by omega), k_368, hE.symm, trivial⟩, (⟨by rw [ht]; exact hP9, hD9⟩ : Wd D A _ t)⟩, hS.F ht⟩) hS.2.2 dX10_nextHour_114
    · have c_358i := i_ne (x := r_355.toInt) (y := 0) rfl rfl c_358
      replace hE := hE.trans (if_neg c_358)
      refine lv_iconst (v := 1) hx hb dX10_nextHour_43 (by decide +kernel) ?_
      refine lv_goto (tgt := 48) hx hb dX10_nextHour_44 (by decide +kernel) ?_
      refine lv_istore_n (lv' := [(3, .int 1), (2, .int v_301), (0, .ref r0), (1, .ref t0)]) hx hb dX10_nextHour_48 rfl hl (by decide +kernel) rfl (fun ls hl => ?_)
      refine lv_aload_n hx hb dX10_nextHour_49 rfl (lv_at hl 3 rfl) ?_
      refine lv_ldc (v := 99999) hx hb hown (hts _ mm_X10_nextHour_615) dX10_nextHour_50 ?_
      refine lv_aload_n hx hb dX10_nextHour_52 rfl (lv_at hl 3 rfl) ?_
      refine va_getN (ci := 9) (v := .int fi) (C := RX9) (T := TX9) (N := 10) hx hb hts hw9 hown hK hP 5 rfl rfl 7 (by decide +kernel) (nst_use hN 114 rfl) (fun _ h9 => h9) rfl dX10_nextHour_53 ?_
      refine lv_aload_n hx hb dX10_nextHour_56 rfl (lv_at hl 2 rfl) ?_
      refine lv_aload_n hx hb dX10_nextHour_57 rfl (lv_at hl 3 rfl) ?_
      refine kci (S := Su) (wr := []) (va_runV (As := [.ref t0]) (rest := [.int fi, .int 99999, .ref t0]) ⟨hx, hb, hml, hown, hts⟩ (w_discords l D K g L G r0 t0 a0 m0 w0 m1 br fs fw t1 t3 t2 l0 n lt nf fi k_8 k_9 f1 gt f2 f3 gc fl H.size (by first | omega | decide) (by first | omega | decide) (by first | omega | decide) zgt zgc zfl) (cwV 1 hts gX10_nextHour_X10_discords rfl rfl rfl (by decide +kernel) ⟨Nat.le_of_ble_eq_true rfl, Nat.le_of_ble_eq_true rfl⟩) (mkVY hK hN (hP.sub [0, 1, 2, 3, 4, 5, 6, 7, 8, 9] rfl) (hD.sub [0, 1, 2, 3, 4, 5, 6, 7, 8, 9] (by decide +kernel) rfl) (ci := 10) (q0 := 0) rfl rfl (fun U hU hW => ⟨Gl.at hG hS hW hU (fun q h => va_free hD hS hA [0, 1, 2, 3, 4, 5, 6, 7, 8, 9] rfl q h), Pool.at hPl hS hU (fun q h => va_free hD hS hA [0, 1, 2, 3, 4, 5, 6, 7, 8, 9] rfl q h), Ro.heap hU (Ro.nil)⟩)) rfl rfl hl.1 rfl (lv_room (Nat.le_of_ble_eq_true rfl)) dX10_nextHour_58 ⟨Nat.le_of_ble_eq_true rfl, Nat.le_of_ble_eq_true rfl⟩) hP hD hS hA [0, 1, 2, 3, 4, 5, 6, 7, 8, 9] [] rfl rfl (by decide +kernel) (by decide +kernel) (fun r_383 u_384 H locs hw hP0 hD0 hS0 => ?_)
      clear hP hD hS
      have hP := hP0
      have hD := hD0
      have hS := hS0
      clear hP0 hD0 hS0
      replace hP : va_P D vwCl [(r0, .inr (10, [.ref a0])), (a0, .inr (0, [.ref m0, .ref w0])), (m0, .inr (3, [.ref m1, .int (u_384.2.2.2.1 0)])), (m1, .inl (K 0, 64, .inl (u_384.2.1 0))), (w0, .inl (K 0, 9, .inl (u_384.2.1 1))), (t0, .inr (9, [.ref t1, .ref t3, .ref t2, .ref l0, .int n, .int lt, .int nf, .int fi, k_8, k_9])), (t1, .inl (K 0, 56, .inl f1)), (t2, .inl (K 0, 6, .inl f2)), (t3, .inl (K 0, 24, .inl f3)), (l0, .inl (K 4, 6, .inr (.inr (.inr (.inr fl)))))] H := hP
      replace hD : va_D A [(r0, .inr (10, [.ref a0])), (a0, .inr (0, [.ref m0, .ref w0])), (m0, .inr (3, [.ref m1, .int (u_384.2.2.2.1 0)])), (m1, .inl (K 0, 64, .inl (u_384.2.1 0))), (w0, .inl (K 0, 9, .inl (u_384.2.1 1))), (t0, .inr (9, [.ref t1, .ref t3, .ref t2, .ref l0, .int n, .int lt, .int nf, .int fi, k_8, k_9])), (t1, .inl (K 0, 56, .inl f1)), (t2, .inl (K 0, 6, .inl f2)), (t3, .inl (K 0, 24, .inl f3)), (l0, .inl (K 4, 6, .inr (.inr (.inr (.inr fl)))))] := hD
      obtain ⟨k_385, k_386, -⟩ := hw
      replace hE := ((hE.trans (Lt2_in k_386)).trans (Lt2_in rfl)).trans (Lt2_in rfl)
      refine lv_iadd hx hb dX10_nextHour_61 ?_
      refine lv_topi (fun x_387 ex_387 => ?_)
      replace hE := hE.trans (Lt_in ex_387)
      refine va_mmin hx hb (hml.trans hl.1.symm) hown (hts _ mm_X10_nextHour_600) (hts _ mm_X10_nextHour_426) (hts _ mm_X10_nextHour_157) (hts _ mm_X10_nextHour_427) (Nat.le_of_ble_eq_true rfl) (Nat.le_of_ble_eq_true rfl) (Nat.le_of_ble_eq_true rfl) (Nat.le_of_ble_eq_true rfl) dX10_nextHour_62 ?_
      refine lv_topi (fun x_388 ex_388 => ?_)
      replace hE := hE.trans (Lt_in ex_388)
      have hx_388 : (99999 ≤ x_387.toInt ∧ x_388.toInt = 99999) ∨ (x_387.toInt < 99999 ∧ x_388.toInt = x_387.toInt) := by rw [ex_388]; exact i_min (show (99999 : Int32).toInt = 99999 from rfl) rfl
      replace hx_388 : x_388.toInt ≤ x_387.toInt ∧ x_388.toInt ≤ 99999 := by omega
      refine va_putN (ci := 9) (v := .int x_388) (ty := .int) (C := RX9) (T := TX9) (N := 10) hx hb hts hw9 tyX9 tyX9_ok nmX9 hown hK hP hD hS 5 rfl rfl 7 (by decide +kernel) (nst_use hN 114 rfl) (fun _ h9 => h9) rfl (by decide +kernel) (by first | rfl | decide) (by first | rfl | decide) (Nat.le_of_ble_eq_true rfl) dX10_nextHour_65 (fun H locs hP0 hD0 hS0 => ?_)
      clear hP hD hS
      have hP := hP0
      have hD := hD0
      have hS := hS0
      clear hP0 hD0 hS0
      replace hP : va_P D vwCl [(r0, .inr (10, [.ref a0])), (a0, .inr (0, [.ref m0, .ref w0])), (m0, .inr (3, [.ref m1, .int (u_384.2.2.2.1 0)])), (m1, .inl (K 0, 64, .inl (u_384.2.1 0))), (w0, .inl (K 0, 9, .inl (u_384.2.1 1))), (t0, .inr (9, [.ref t1, .ref t3, .ref t2, .ref l0, .int n, .int lt, .int nf, .int x_388, k_8, k_9])), (t1, .inl (K 0, 56, .inl f1)), (t2, .inl (K 0, 6, .inl f2)), (t3, .inl (K 0, 24, .inl f3)), (l0, .inl (K 4, 6, .inr (.inr (.inr (.inr fl)))))] H := hP
      replace hD : va_D A [(r0, .inr (10, [.ref a0])), (a0, .inr (0, [.ref m0, .ref w0])), (m0, .inr (3, [.ref m1, .int (u_384.2.2.2.1 0)])), (m1, .inl (K 0, 64, .inl (u_384.2.1 0))), (w0, .inl (K 0, 9, .inl (u_384.2.1 1))), (t0, .inr (9, [.ref t1, .ref t3, .ref t2, .ref l0, .int n, .int lt, .int nf, .int x_388, k_8, k_9])), (t1, .inl (K 0, 56, .inl f1)), (t2, .inl (K 0, 6, .inl f2)), (t3, .inl (K 0, 24, .inl f3)), (l0, .inl (K 4, 6, .inr (.inr (.inr (.inr fl)))))] := hD
      refine lv_aload_n hx hb dX10_nextHour_68 rfl (lv_at hl 2 rfl) ?_
      refine lv_aload_n hx hb dX10_nextHour_69 rfl (lv_at hl 3 rfl) ?_
      refine kcv (S := Su) (wr := []) (va_runV (As := [.ref t0]) (rest := []) ⟨hx, hb, hml, hown, hts⟩ (w_burnDown l D K g L G r0 t0 a0 m0 w0 m1 (u_384.2.2.2.1 0) (u_384.2.1 0) (u_384.2.1 1) t1 t3 t2 l0 n lt nf x_388 k_8 k_9 f1 gt f2 f3 gc fl H.size (by first | omega | decide) (by first | omega | decide) (by first | omega | decide) zgt zgc zfl) (cwV 1 hts gX10_nextHour_X10_burnDown rfl rfl rfl (by decide +kernel) ⟨Nat.le_of_ble_eq_true rfl, Nat.le_of_ble_eq_true rfl⟩) (mkVY hK hN (hP.sub [0, 1, 2, 3, 4, 5, 6, 7, 8, 9] rfl) (hD.sub [0, 1, 2, 3, 4, 5, 6, 7, 8, 9] (by decide +kernel) rfl) (ci := 10) (q0 := 0) rfl rfl (fun U hU hW => ⟨Gl.at hG hS hW hU (fun q h => va_free hD hS hA [0, 1, 2, 3, 4, 5, 6, 7, 8, 9] rfl q h), Pool.at hPl hS hU (fun q h => va_free hD hS hA [0, 1, 2, 3, 4, 5, 6, 7, 8, 9] rfl q h), Ro.heap hU (Ro.nil)⟩)) rfl rfl hl.1 rfl (lv_room (Nat.le_of_ble_eq_true rfl)) dX10_nextHour_70 ⟨Nat.le_of_ble_eq_true rfl, Nat.le_of_ble_eq_true rfl⟩) hP hD hS hA [0, 1, 2, 3, 4, 5, 6, 7, 8, 9] [] rfl rfl (by decide +kernel) (by decide +kernel) (fun u_390 H locs hw hP0 hD0 hS0 => ?_)
      clear hP hD hS
      have hP := hP0
      have hD := hD0
      have hS := hS0
      clear hP0 hD0 hS0
      replace hP : va_P D vwCl [(r0, .inr (10, [.ref a0])), (a0, .inr (0, [.ref m0, .ref w0])), (m0, .inr (3, [.ref m1, .int (u_390.2.2.2.1 0)])), (m1, .inl (K 0, 64, .inl (u_390.2.1 0))), (w0, .inl (K 0, 9, .inl (u_390.2.1 1))), (t0, .inr (9, [.ref t1, .ref t3, .ref t2, .ref l0, .int n, .int lt, .int nf, .int x_388, k_8, k_9])), (t1, .inl (K 0, 56, .inl (u_390.2.1 2))), (t2, .inl (K 0, 6, .inl f2)), (t3, .inl (K 0, 24, .inl f3)), (l0, .inl (K 4, 6, .inr (.inr (.inr (.inr fl)))))] H := hP
      replace hD : va_D A [(r0, .inr (10, [.ref a0])), (a0, .inr (0, [.ref m0, .ref w0])), (m0, .inr (3, [.ref m1, .int (u_390.2.2.2.1 0)])), (m1, .inl (K 0, 64, .inl (u_390.2.1 0))), (w0, .inl (K 0, 9, .inl (u_390.2.1 1))), (t0, .inr (9, [.ref t1, .ref t3, .ref t2, .ref l0, .int n, .int lt, .int nf, .int x_388, k_8, k_9])), (t1, .inl (K 0, 56, .inl (u_390.2.1 2))), (t2, .inl (K 0, 6, .inl f2)), (t3, .inl (K 0, 24, .inl f3)), (l0, .inl (K 4, 6, .inr (.inr (.inr (.inr fl)))))] := hD
      obtain ⟨k_391, k_392, k_393, -⟩ := hw
      replace hE := ((hE.trans (Lt2_in k_393)).trans (Lt2_in rfl)).trans (Lt2_in rfl)
      refine lv_aload_n hx hb dX10_nextHour_73 rfl (lv_at hl 3 rfl) ?_
      refine va_getN (ci := 9) (v := .ref t2) (C := RX9) (T := TX9) (N := 10) hx hb hts hw9 hown hK hP 5 rfl rfl 2 (by decide +kernel) (nst_use hN 101 rfl) (fun _ h9 => h9) rfl dX10_nextHour_74 ?_
      refine lv_iconst (v := 0) hx hb dX10_nextHour_77 (by decide +kernel) ?_
      refine lv_iload_n hx hb dX10_nextHour_78 rfl (lv_at hl 1 rfl) ?_
      refine lv_if_eq (tgt := 86) hx hb dX10_nextHour_79 (by decide +kernel) (fun c_394 => ?_) (fun c_394 => ?_)
      · have c_394i := i_eq (x := v_301.toInt) (y := 0) rfl rfl c_394
        replace hE := hE.trans (if_pos c_394)
        refine lv_aload_n hx hb dX10_nextHour_86 rfl (lv_at hl 3 rfl) ?_
        refine va_getN (ci := 9) (v := .ref t2) (C := RX9) (T := TX9) (N := 10) hx hb hts hw9 hown hK hP 5 rfl rfl 2 (by decide +kernel) (nst_use hN 101 rfl) (fun _ h9 => h9) rfl dX10_nextHour_87 ?_
        refine lv_iconst (v := 0) hx hb dX10_nextHour_90 (by decide +kernel) ?_
        refine va_iald hx hb hK hP 7 0 rfl rfl (i_in (x := 0) rfl (by omega)) dX10_nextHour_91 ?_
        refine lv_topi (fun x_395 ex_395 => ?_)
        replace hE := hE.trans (Lt_in ex_395)
        refine lv_iconst (v := 1) hx hb dX10_nextHour_92 (by decide +kernel) ?_
        refine lv_iadd hx hb dX10_nextHour_93 ?_
        refine lv_topi (fun x_396 ex_396 => ?_)
        replace hE := hE.trans (Lt_in ex_396)
        refine va_iast hx hb hK hP hD hS 7 0 rfl rfl (i_in (x := 0) rfl (by omega)) dX10_nextHour_94 (fun H locs hP0 hD0 hS0 => ?_)
        clear hP hD hS
        have hP := hP0
        have hD := hD0
        have hS := hS0
        clear hP0 hD0 hS0
        generalize hf_397 : (upd f2 (0 : Int32).toNatClampNeg x_396) = f_397 at hP hD
        replace hE := hE.trans (Lt_in hf_397.symm)
        replace hP : va_P D vwCl [(r0, .inr (10, [.ref a0])), (a0, .inr (0, [.ref m0, .ref w0])), (m0, .inr (3, [.ref m1, .int (u_390.2.2.2.1 0)])), (m1, .inl (K 0, 64, .inl (u_390.2.1 0))), (w0, .inl (K 0, 9, .inl (u_390.2.1 1))), (t0, .inr (9, [.ref t1, .ref t3, .ref t2, .ref l0, .int n, .int lt, .int nf, .int x_388, k_8, k_9])), (t1, .inl (K 0, 56, .inl (u_390.2.1 2))), (t2, .inl (K 0, 6, .inl f_397)), (t3, .inl (K 0, 24, .inl f3)), (l0, .inl (K 4, 6, .inr (.inr (.inr (.inr fl)))))] H := hP
        replace hD : va_D A [(r0, .inr (10, [.ref a0])), (a0, .inr (0, [.ref m0, .ref w0])), (m0, .inr (3, [.ref m1, .int (u_390.2.2.2.1 0)])), (m1, .inl (K 0, 64, .inl (u_390.2.1 0))), (w0, .inl (K 0, 9, .inl (u_390.2.1 1))), (t0, .inr (9, [.ref t1, .ref t3, .ref t2, .ref l0, .int n, .int lt, .int nf, .int x_388, k_8, k_9])), (t1, .inl (K 0, 56, .inl (u_390.2.1 2))), (t2, .inl (K 0, 6, .inl f_397)), (t3, .inl (K 0, 24, .inl f3)), (l0, .inl (K 4, 6, .inr (.inr (.inr (.inr fl)))))] := hD
        refine lv_aload_n hx hb dX10_nextHour_95 rfl (lv_at hl 3 rfl) ?_
        refine va_getN (ci := 9) (v := .ref t2) (C := RX9) (T := TX9) (N := 10) hx hb hts hw9 hown hK hP 5 rfl rfl 2 (by decide +kernel) (nst_use hN 101 rfl) (fun _ h9 => h9) rfl dX10_nextHour_96 ?_
        refine lv_iconst (v := 1) hx hb dX10_nextHour_99 (by decide +kernel) ?_
        refine lv_dup2_11 hx hb dX10_nextHour_100 rfl rfl ?_
        refine va_iald hx hb hK hP 7 0 rfl rfl (i_in (x := 1) rfl (by omega)) dX10_nextHour_101 ?_
        refine lv_topi (fun x_398 ex_398 => ?_)
        replace hE := hE.trans (Lt_in ex_398)
        refine lv_iload_n hx hb dX10_nextHour_102 rfl (lv_at hl 1 rfl) ?_
        refine lv_if_eq (tgt := 110) hx hb dX10_nextHour_103 (by decide +kernel) (fun c_399 => ?_) (fun c_399 => ?_)
        · have c_399i := i_eq (x := v_301.toInt) (y := 0) rfl rfl c_399
          replace hE := hE.trans (if_pos c_399)
          refine lv_iconst (v := 0) hx hb dX10_nextHour_110 (by decide +kernel) ?_
          refine lv_iadd hx hb dX10_nextHour_111 ?_
          refine lv_topi (fun x_400 ex_400 => ?_)
          replace hE := hE.trans (Lt_in ex_400)
          have hx_400 : x_400.toInt = (x_398.toInt + 0) := by rw [ex_400]; exact i_add rfl (show (0 : Int32).toInt = 0 from rfl) (by have q1 := i_rng (a := x_398) rfl; omega)
          refine va_iast hx hb hK hP hD hS 7 0 rfl rfl (i_in (x := 1) rfl (by omega)) dX10_nextHour_112 (fun H locs hP0 hD0 hS0 => ?_)
          clear hP hD hS
          have hP := hP0
          have hD := hD0
          have hS := hS0
          clear hP0 hD0 hS0
          generalize hf_401 : (upd f_397 (1 : Int32).toNatClampNeg x_400) = f_401 at hP hD
          replace hE := hE.trans (Lt_in hf_401.symm)
          replace hP : va_P D vwCl [(r0, .inr (10, [.ref a0])), (a0, .inr (0, [.ref m0, .ref w0])), (m0, .inr (3, [.ref m1, .int (u_390.2.2.2.1 0)])), (m1, .inl (K 0, 64, .inl (u_390.2.1 0))), (w0, .inl (K 0, 9, .inl (u_390.2.1 1))), (t0, .inr (9, [.ref t1, .ref t3, .ref t2, .ref l0, .int n, .int lt, .int nf, .int x_388, k_8, k_9])), (t1, .inl (K 0, 56, .inl (u_390.2.1 2))), (t2, .inl (K 0, 6, .inl f_401)), (t3, .inl (K 0, 24, .inl f3)), (l0, .inl (K 4, 6, .inr (.inr (.inr (.inr fl)))))] H := hP
          replace hD : va_D A [(r0, .inr (10, [.ref a0])), (a0, .inr (0, [.ref m0, .ref w0])), (m0, .inr (3, [.ref m1, .int (u_390.2.2.2.1 0)])), (m1, .inl (K 0, 64, .inl (u_390.2.1 0))), (w0, .inl (K 0, 9, .inl (u_390.2.1 1))), (t0, .inr (9, [.ref t1, .ref t3, .ref t2, .ref l0, .int n, .int lt, .int nf, .int x_388, k_8, k_9])), (t1, .inl (K 0, 56, .inl (u_390.2.1 2))), (t2, .inl (K 0, 6, .inl f_401)), (t3, .inl (K 0, 24, .inl f3)), (l0, .inl (K 4, 6, .inr (.inr (.inr (.inr fl)))))] := hD
          refine lv_iload_n hx hb dX10_nextHour_113 rfl (lv_at hl 0 rfl) ?_
          rw [← hQ]
          have hP9 := hP.sub (ws' := [(r0, .inr (10, [.ref a0])), (a0, .inr (0, [.ref m0, .ref w0])), (m0, .inr (3, [.ref m1, .int (u_390.2.2.2.1 0)])), (m1, .inl (K 0, 64, .inl (u_390.2.1 0))), (w0, .inl (K 0, 9, .inl (u_390.2.1 1))), (t0, .inr (9, [.ref t1, .ref t3, .ref t2, .ref l0, .int n, .int lt, .int nf, .int x_388, k_8, k_9])), (t1, .inl (K 0, 56, .inl (u_390.2.1 2))), (t2, .inl (K 0, 6, .inl f_401)), (t3, .inl (K 0, 24, .inl f3)), (l0, .inl (K 4, 6, .inr (.inr (.inr (.inr fl)))))]) [0, 1, 2, 3, 4, 5, 6, 7, 8, 9] rfl
          have hD9 := hD.sub (ws' := [(r0, .inr (10, [.ref a0])), (a0, .inr (0, [.ref m0, .ref w0])), (m0, .inr (3, [.ref m1, .int (u_390.2.2.2.1 0)])), (m1, .inl (K 0, 64, .inl (u_390.2.1 0))), (w0, .inl (K 0, 9, .inl (u_390.2.1 1))), (t0, .inr (9, [.ref t1, .ref t3, .ref t2, .ref l0, .int n, .int lt, .int nf, .int x_388, k_8, k_9])), (t1, .inl (K 0, 56, .inl (u_390.2.1 2))), (t2, .inl (K 0, 6, .inl f_401)), (t3, .inl (K 0, 24, .inl f3)), (l0, .inl (K 4, 6, .inr (.inr (.inr (.inr fl)))))]) [0, 1, 2, 3, 4, 5, 6, 7, 8, 9] (by decide +kernel) rfl
          exact W.iret (v := 1) hx hb hr (fun t ht hW => ⟨⟨1, ((fun _ => 0, fun i => match i with | 0 => (u_390.2.1 0) | 1 => (u_390.2.1 1) | 2 => (u_390.2.1 2) | _ => f_401, fun _ => fun _ => 0, fun i => match i with | 0 => (u_390.2.2.2.1 0) | _ => x_388, fun _ => 0, fun _ => fun _ => none) : Su), rfl, ⟨(show (-3) ≤ (1 : Int32).toInt ∧ (1 : Int32).toInt ≤ 1 by decide), (show 0 ≤ ((u_390.2.2.2.1 0) : Int32).toInt ∧ ((u_390.2.2.2.1 0) : Int32).toInt ≤ 1 by omega), k_392, hE.symm, trivial⟩, (⟨by rw [ht]; exact hP9, hD9⟩ : Wd D A _ t)⟩, hS.F ht⟩) hS.2.2 dX10_nextHour_114
        · have c_399i := i_ne (x := v_301.toInt) (y := 0) rfl rfl c_399
          exfalso; omega
      · have c_394i := i_ne (x := v_301.toInt) (y := 0) rfl rfl c_394
        replace hE := hE.trans (if_neg c_394)
        refine lv_iconst (v := 0) hx hb dX10_nextHour_82 (by decide +kernel) ?_
        refine lv_goto (tgt := 94) hx hb dX10_nextHour_83 (by decide +kernel) ?_
        refine va_iast hx hb hK hP hD hS 7 0 rfl rfl (i_in (x := 0) rfl (by omega)) dX10_nextHour_94 (fun H locs hP0 hD0 hS0 => ?_)
        clear hP hD hS
        have hP := hP0
        have hD := hD0
        have hS := hS0
        clear hP0 hD0 hS0
        generalize hf_402 : (upd f2 (0 : Int32).toNatClampNeg 0) = f_402 at hP hD
        replace hE := hE.trans (Lt_in hf_402.symm)
        replace hP : va_P D vwCl [(r0, .inr (10, [.ref a0])), (a0, .inr (0, [.ref m0, .ref w0])), (m0, .inr (3, [.ref m1, .int (u_390.2.2.2.1 0)])), (m1, .inl (K 0, 64, .inl (u_390.2.1 0))), (w0, .inl (K 0, 9, .inl (u_390.2.1 1))), (t0, .inr (9, [.ref t1, .ref t3, .ref t2, .ref l0, .int n, .int lt, .int nf, .int x_388, k_8, k_9])), (t1, .inl (K 0, 56, .inl (u_390.2.1 2))), (t2, .inl (K 0, 6, .inl f_402)), (t3, .inl (K 0, 24, .inl f3)), (l0, .inl (K 4, 6, .inr (.inr (.inr (.inr fl)))))] H := hP
        replace hD : va_D A [(r0, .inr (10, [.ref a0])), (a0, .inr (0, [.ref m0, .ref w0])), (m0, .inr (3, [.ref m1, .int (u_390.2.2.2.1 0)])), (m1, .inl (K 0, 64, .inl (u_390.2.1 0))), (w0, .inl (K 0, 9, .inl (u_390.2.1 1))), (t0, .inr (9, [.ref t1, .ref t3, .ref t2, .ref l0, .int n, .int lt, .int nf, .int x_388, k_8, k_9])), (t1, .inl (K 0, 56, .inl (u_390.2.1 2))), (t2, .inl (K 0, 6, .inl f_402)), (t3, .inl (K 0, 24, .inl f3)), (l0, .inl (K 4, 6, .inr (.inr (.inr (.inr fl)))))] := hD
        refine lv_aload_n hx hb dX10_nextHour_95 rfl (lv_at hl 3 rfl) ?_
        refine va_getN (ci := 9) (v := .ref t2) (C := RX9) (T := TX9) (N := 10) hx hb hts hw9 hown hK hP 5 rfl rfl 2 (by decide +kernel) (nst_use hN 101 rfl) (fun _ h9 => h9) rfl dX10_nextHour_96 ?_
        refine lv_iconst (v := 1) hx hb dX10_nextHour_99 (by decide +kernel) ?_
        refine lv_dup2_11 hx hb dX10_nextHour_100 rfl rfl ?_
        refine va_iald hx hb hK hP 7 0 rfl rfl (i_in (x := 1) rfl (by omega)) dX10_nextHour_101 ?_
        refine lv_topi (fun x_403 ex_403 => ?_)
        replace hE := hE.trans (Lt_in ex_403)
        refine lv_iload_n hx hb dX10_nextHour_102 rfl (lv_at hl 1 rfl) ?_
        refine lv_if_eq (tgt := 110) hx hb dX10_nextHour_103 (by decide +kernel) (fun c_404 => ?_) (fun c_404 => ?_)
        · have c_404i := i_eq (x := v_301.toInt) (y := 0) rfl rfl c_404
          exfalso; omega
        · have c_404i := i_ne (x := v_301.toInt) (y := 0) rfl rfl c_404
          replace hE := hE.trans (if_neg c_404)
          refine lv_iconst (v := 1) hx hb dX10_nextHour_106 (by decide +kernel) ?_
          refine lv_goto (tgt := 111) hx hb dX10_nextHour_107 (by decide +kernel) ?_
          refine lv_iadd hx hb dX10_nextHour_111 ?_
          refine lv_topi (fun x_405 ex_405 => ?_)
          replace hE := hE.trans (Lt_in ex_405)
          refine va_iast hx hb hK hP hD hS 7 0 rfl rfl (i_in (x := 1) rfl (by omega)) dX10_nextHour_112 (fun H locs hP0 hD0 hS0 => ?_)
          clear hP hD hS
          have hP := hP0
          have hD := hD0
          have hS := hS0
          clear hP0 hD0 hS0
          generalize hf_406 : (upd f_402 (1 : Int32).toNatClampNeg x_405) = f_406 at hP hD
          replace hE := hE.trans (Lt_in hf_406.symm)
          replace hP : va_P D vwCl [(r0, .inr (10, [.ref a0])), (a0, .inr (0, [.ref m0, .ref w0])), (m0, .inr (3, [.ref m1, .int (u_390.2.2.2.1 0)])), (m1, .inl (K 0, 64, .inl (u_390.2.1 0))), (w0, .inl (K 0, 9, .inl (u_390.2.1 1))), (t0, .inr (9, [.ref t1, .ref t3, .ref t2, .ref l0, .int n, .int lt, .int nf, .int x_388, k_8, k_9])), (t1, .inl (K 0, 56, .inl (u_390.2.1 2))), (t2, .inl (K 0, 6, .inl f_406)), (t3, .inl (K 0, 24, .inl f3)), (l0, .inl (K 4, 6, .inr (.inr (.inr (.inr fl)))))] H := hP
          replace hD : va_D A [(r0, .inr (10, [.ref a0])), (a0, .inr (0, [.ref m0, .ref w0])), (m0, .inr (3, [.ref m1, .int (u_390.2.2.2.1 0)])), (m1, .inl (K 0, 64, .inl (u_390.2.1 0))), (w0, .inl (K 0, 9, .inl (u_390.2.1 1))), (t0, .inr (9, [.ref t1, .ref t3, .ref t2, .ref l0, .int n, .int lt, .int nf, .int x_388, k_8, k_9])), (t1, .inl (K 0, 56, .inl (u_390.2.1 2))), (t2, .inl (K 0, 6, .inl f_406)), (t3, .inl (K 0, 24, .inl f3)), (l0, .inl (K 4, 6, .inr (.inr (.inr (.inr fl)))))] := hD
          refine lv_iload_n hx hb dX10_nextHour_113 rfl (lv_at hl 0 rfl) ?_
          rw [← hQ]
          have hP9 := hP.sub (ws' := [(r0, .inr (10, [.ref a0])), (a0, .inr (0, [.ref m0, .ref w0])), (m0, .inr (3, [.ref m1, .int (u_390.2.2.2.1 0)])), (m1, .inl (K 0, 64, .inl (u_390.2.1 0))), (w0, .inl (K 0, 9, .inl (u_390.2.1 1))), (t0, .inr (9, [.ref t1, .ref t3, .ref t2, .ref l0, .int n, .int lt, .int nf, .int x_388, k_8, k_9])), (t1, .inl (K 0, 56, .inl (u_390.2.1 2))), (t2, .inl (K 0, 6, .inl f_406)), (t3, .inl (K 0, 24, .inl f3)), (l0, .inl (K 4, 6, .inr (.inr (.inr (.inr fl)))))]) [0, 1, 2, 3, 4, 5, 6, 7, 8, 9] rfl
          have hD9 := hD.sub (ws' := [(r0, .inr (10, [.ref a0])), (a0, .inr (0, [.ref m0, .ref w0])), (m0, .inr (3, [.ref m1, .int (u_390.2.2.2.1 0)])), (m1, .inl (K 0, 64, .inl (u_390.2.1 0))), (w0, .inl (K 0, 9, .inl (u_390.2.1 1))), (t0, .inr (9, [.ref t1, .ref t3, .ref t2, .ref l0, .int n, .int lt, .int nf, .int x_388, k_8, k_9])), (t1, .inl (K 0, 56, .inl (u_390.2.1 2))), (t2, .inl (K 0, 6, .inl f_406)), (t3, .inl (K 0, 24, .inl f3)), (l0, .inl (K 4, 6, .inr (.inr (.inr (.inr fl)))))]) [0, 1, 2, 3, 4, 5, 6, 7, 8, 9] (by decide +kernel) rfl
          exact W.iret (v := 1) hx hb hr (fun t ht hW => ⟨⟨1, ((fun _ => 0, fun i => match i with | 0 => (u_390.2.1 0) | 1 => (u_390.2.1 1) | 2 => (u_390.2.1 2) | _ => f_406, fun _ => fun _ => 0, fun i => match i with | 0 => (u_390.2.2.2.1 0) | _ => x_388, fun _ => 0, fun _ => fun _ => none) : Su), rfl, ⟨(show (-3) ≤ (1 : Int32).toInt ∧ (1 : Int32).toInt ≤ 1 by decide), (show 0 ≤ ((u_390.2.2.2.1 0) : Int32).toInt ∧ ((u_390.2.2.2.1 0) : Int32).toInt ≤ 1 by omega), k_392, hE.symm, trivial⟩, (⟨by rw [ht]; exact hP9, hD9⟩ : Wd D A _ t)⟩, hS.F ht⟩) hS.2.2 dX10_nextHour_114
  refine lv_icmp_ne (tgt := 15) hx hb dX10_nextHour_8 (by decide +kernel) (fun c_407 => ?_) (fun c_407 => ?_)
  · have c_407i := i_ne (x := x_295.toInt) (y := 23) rfl rfl c_407
    replace hE := hE.trans (if_neg c_407)
    refine lv_iconst (v := 0) hx hb dX10_nextHour_15 (by decide +kernel) ?_
    refine lv_istore_n (lv' := [(2, .int 0), (0, .ref r0), (1, .ref t0)]) hx hb dX10_nextHour_16 rfl hl (by decide +kernel) rfl (fun ls hl => ?_)
    refine lv_iload_n hx hb dX10_nextHour_17 rfl (lv_at hl 0 rfl) ?_
    refine lv_if_eq (tgt := 36) hx hb dX10_nextHour_18 (by decide +kernel) (fun c_408 => ?_) (fun c_408 => absurd (by decide +kernel) c_408)
    exact j_354 0 (by decide +kernel) hE _ _ hP hD hS ls (lv_sub hl [0, 1, 2] rfl)
  · have c_407i := i_eq (x := x_295.toInt) (y := 23) rfl rfl c_407
    replace hE := hE.trans (if_pos c_407)
    refine lv_iconst (v := 1) hx hb dX10_nextHour_11 (by decide +kernel) ?_
    refine lv_goto (tgt := 16) hx hb dX10_nextHour_12 (by decide +kernel) ?_
    refine lv_istore_n (lv' := [(2, .int 1), (0, .ref r0), (1, .ref t0)]) hx hb dX10_nextHour_16 rfl hl (by decide +kernel) rfl (fun ls hl => ?_)
    refine lv_iload_n hx hb dX10_nextHour_17 rfl (lv_at hl 0 rfl) ?_
    refine lv_if_eq (tgt := 36) hx hb dX10_nextHour_18 (by decide +kernel) (fun c_409 => absurd c_409 (by decide +kernel)) (fun c_409 => ?_)
    refine lv_aload_n hx hb dX10_nextHour_21 rfl (lv_at hl 2 rfl) ?_
    refine va_getN (ci := 9) (v := .ref t2) (C := RX9) (T := TX9) (N := 10) hx hb hts hw9 hown hK hP 5 rfl rfl 2 (by decide +kernel) (nst_use hN 101 rfl) (fun _ h9 => h9) rfl dX10_nextHour_22 ?_
    refine lv_iconst (v := 1) hx hb dX10_nextHour_25 (by decide +kernel) ?_
    refine va_iald hx hb hK hP 7 0 rfl rfl (i_in (x := 1) rfl (by omega)) dX10_nextHour_26 ?_
    refine lv_topi (fun x_410 ex_410 => ?_)
    replace hE := hE.trans (Lt_in ex_410)
    refine lv_sipush (v := 999) hx hb dX10_nextHour_27 (by decide +kernel) ?_
    refine lv_icmp_lt (tgt := 36) hx hb dX10_nextHour_30 (by decide +kernel) (fun c_411 => ?_) (fun c_411 => ?_)
    · have c_411i := i_lt (x := x_410.toInt) (y := 999) rfl rfl c_411
      replace hE := hE.trans (if_pos c_411)
      exact j_354 1 (by decide +kernel) hE _ _ hP hD hS ls (lv_sub hl [0, 1, 2] rfl)
    · have c_411i := i_nlt (x := x_410.toInt) (y := 999) rfl rfl c_411
      replace hE := hE.trans (if_neg c_411)
      refine lv_bipush (v := (-3)) hx hb dX10_nextHour_33 (by decide +kernel) ?_
      rw [← hQ]
      have hP9 := hP.sub (ws' := [(r0, .inr (10, [.ref a0])), (a0, .inr (0, [.ref m0, .ref w0])), (m0, .inr (3, [.ref m1, .int br])), (m1, .inl (K 0, 64, .inl fs)), (w0, .inl (K 0, 9, .inl fw)), (t0, .inr (9, [.ref t1, .ref t3, .ref t2, .ref l0, .int n, .int lt, .int nf, .int fi, k_8, k_9])), (t1, .inl (K 0, 56, .inl f1)), (t2, .inl (K 0, 6, .inl f2)), (t3, .inl (K 0, 24, .inl f3)), (l0, .inl (K 4, 6, .inr (.inr (.inr (.inr fl)))))]) [0, 1, 2, 3, 4, 5, 6, 7, 8, 9] rfl
      have hD9 := hD.sub (ws' := [(r0, .inr (10, [.ref a0])), (a0, .inr (0, [.ref m0, .ref w0])), (m0, .inr (3, [.ref m1, .int br])), (m1, .inl (K 0, 64, .inl fs)), (w0, .inl (K 0, 9, .inl fw)), (t0, .inr (9, [.ref t1, .ref t3, .ref t2, .ref l0, .int n, .int lt, .int nf, .int fi, k_8, k_9])), (t1, .inl (K 0, 56, .inl f1)), (t2, .inl (K 0, 6, .inl f2)), (t3, .inl (K 0, 24, .inl f3)), (l0, .inl (K 4, 6, .inr (.inr (.inr (.inr fl)))))]) [0, 1, 2, 3, 4, 5, 6, 7, 8, 9] (by decide +kernel) rfl
      exact W.iret (v := (-3)) hx hb hr (fun t ht hW => ⟨⟨(-3), ((fun _ => 0, fun i => match i with | 0 => fs | 1 => fw | 2 => f1 | _ => f2, fun _ => fun _ => 0, fun i => match i with | 0 => br | _ => fi, fun _ => 0, fun _ => fun _ => none) : Su), rfl, ⟨(show (-3) ≤ ((-3) : Int32).toInt ∧ ((-3) : Int32).toInt ≤ 1 by decide), (show 0 ≤ (br : Int32).toInt ∧ (br : Int32).toInt ≤ 1 by omega), zgt, hE.symm, trivial⟩, (⟨by rw [ht]; exact hP9, hD9⟩ : Wd D A _ t)⟩, hS.F ht⟩) hS.2.2 dX10_nextHour_35
set_option maxRecDepth 100000 in
noncomputable def E_w_byDraws_j53 (G : Nat → LC) (n : Int32) (lt : Int32) (nf : Int32) (f3 : Nat → Int32) (fl : Nat → Option Nat) (v_1274 : Int32) (v_1275 : Int32) (v_1278 : Int32) (f_1282 : Nat → Int32) (rec_1394 : Int32 → Int32 → Int32 → Int32 → Int32 → (Nat → Int32) → (Nat → Int32) → (Nat → Int32) → (Nat → Int32) → (Int32 × Int32 × (Nat → Int32) × (Nat → Int32) × Int32 × (Nat → Int32) × (Nat → Int32))) (v_1410 : Int32) (v_1411 : Int32) (f_1412 : Nat → Int32) (f_1413 : Nat → Int32) (f_1414 : Nat → Int32) : Int32 × Int32 × (Nat → Int32) × (Nat → Int32) × Int32 × (Nat → Int32) × (Nat → Int32) :=
  Lt2 (E_w_nextHour G v_1411 f_1412 f_1413 n lt nf v_1278 f_1414 f_1282 f3 fl) (fun r_1425 q0_r_1425 => Lt2 q0_r_1425 (fun u_1426_2_2_2_1_0 q1_u_1426_2_2_2_1_0 => Lt2 q1_u_1426_2_2_2_1_0 (fun u_1426_2_1_0 q2_u_1426_2_1_0 => Lt2 q2_u_1426_2_1_0 (fun u_1426_2_1_1 q3_u_1426_2_1_1 => Lt2 q3_u_1426_2_1_1 (fun u_1426_2_2_2_1_1 q4_u_1426_2_2_2_1_1 => Lt2 q4_u_1426_2_2_2_1_1 (fun u_1426_2_1_2 u_1426_2_1_3 => if 0 ≤ r_1425 then (Lt (v_1275 + r_1425 : Int32) (fun x_1432 => Lt (v_1274 + Int32.ofInt 1 : Int32) (fun x_1433 => rec_1394 x_1433 x_1432 v_1410 u_1426_2_2_2_1_0 u_1426_2_2_2_1_1 u_1426_2_1_0 u_1426_2_1_1 u_1426_2_1_2 u_1426_2_1_3))) else (((v_1275, u_1426_2_2_2_1_0, u_1426_2_1_0, u_1426_2_1_1, u_1426_2_2_2_1_1, u_1426_2_1_2, u_1426_2_1_3) : Int32 × Int32 × (Nat → Int32) × (Nat → Int32) × Int32 × (Nat → Int32) × (Nat → Int32)))))))))
set_option maxRecDepth 100000 in
noncomputable def E_w_byDraws_l9 (G : Nat → LC) (y : Int32) (n : Int32) (lt : Int32) (nf : Int32) (f3 : Nat → Int32) (fl : Nat → Option Nat) (rec_1394 : Int32 → Int32 → Int32 → Int32 → Int32 → (Nat → Int32) → (Nat → Int32) → (Nat → Int32) → (Nat → Int32) → (Int32 × Int32 × (Nat → Int32) × (Nat → Int32) × Int32 × (Nat → Int32) × (Nat → Int32))) (v_1274 : Int32) (v_1275 : Int32) (v_1276 : Int32) (v_1277 : Int32) (v_1278 : Int32) (f_1279 : Nat → Int32) (f_1280 : Nat → Int32) (f_1281 : Nat → Int32) (f_1282 : Nat → Int32) : Int32 × Int32 × (Nat → Int32) × (Nat → Int32) × Int32 × (Nat → Int32) × (Nat → Int32) :=
  if y ≤ v_1274 then (((v_1275, v_1277, f_1279, f_1280, v_1278, f_1281, f_1282) : Int32 × Int32 × (Nat → Int32) × (Nat → Int32) × Int32 × (Nat → Int32) × (Nat → Int32))) else (if n ≤ 0 then (E_w_byDraws_j53 G n lt nf f3 fl v_1274 v_1275 v_1278 f_1282 rec_1394 v_1276 v_1277 f_1279 f_1280 f_1281) else (Lt ((v_1276 : Int32).toInt64 : Int64) (fun x_1435 => Lt (x_1435 * 1103 : Int64) (fun x_1436 => Lt (x_1436 + 12345 : Int64) (fun x_1437 => Lt (x_1437 - x_1437 / 1000003 * 1000003 : Int64) (fun x_1438 => Lt ((x_1438 : Int64).toInt32 : Int32) (fun x_1439 => Lt (x_1439 - x_1439 / n * n : Int32) (fun x_1440 => Lt2 (E_w_kindle G x_1440 v_1277 f_1279 f_1280 n lt nf v_1278 f_1281 f_1282 f3 fl) (fun r_1441 q0_r_1441 => Lt2 q0_r_1441 (fun u_1442_2_2_2_1_0 q1_u_1442_2_2_2_1_0 => Lt2 q1_u_1442_2_2_2_1_0 (fun u_1442_2_1_0 q2_u_1442_2_1_0 => Lt2 q2_u_1442_2_1_0 (fun u_1442_2_1_1 u_1442_2_1_2 => E_w_byDraws_j53 G n lt nf f3 fl v_1274 v_1275 v_1278 f_1282 rec_1394 x_1439 u_1442_2_2_2_1_0 u_1442_2_1_0 u_1442_2_1_1 u_1442_2_1_2))))))))))))
set_option maxRecDepth 100000 in
noncomputable def E_w_byDraws (G : Nat → LC) (x : Int32) (y : Int32) (br : Int32) (fs : Nat → Int32) (fw : Nat → Int32) (n : Int32) (lt : Int32) (nf : Int32) (fi : Int32) (f1 : Nat → Int32) (f2 : Nat → Int32) (f3 : Nat → Int32) (fl : Nat → Option Nat) : Int32 × Int32 × (Nat → Int32) × (Nat → Int32) × Int32 × (Nat → Int32) × (Nat → Int32) :=
  Lp (α := Int32 → Int32 → Int32 → Int32 → Int32 → (Nat → Int32) → (Nat → Int32) → (Nat → Int32) → (Nat → Int32) → (Int32 × Int32 × (Nat → Int32) × (Nat → Int32) × Int32 × (Nat → Int32) × (Nat → Int32))) (E_w_byDraws_l9 G y n lt nf f3 fl) (fun _ _ _ _ _ _ _ _ _ => ((0, 0, fun _ => 0, fun _ => 0, 0, fun _ => 0, fun _ => 0) : Int32 × Int32 × (Nat → Int32) × (Nat → Int32) × Int32 × (Nat → Int32) × (Nat → Int32))) ((101 - (0 : Int32).toInt : Int).toNat + 1) 0 0 x br fi fs fw f1 f2
set_option maxHeartbeats 4000000 in
set_option maxRecDepth 100000 in
theorem w_byDraws (l : Launch) (D : va_G) (K : Nat → ClassId) (g : Nat → Nat) (L : Nat → Prop) (G : Nat → LC) (r0 : Nat) (t0 : Nat) (x : Int32) (y : Int32) (a0 : Nat) (m0 : Nat) (w0 : Nat) (m1 : Nat) (br : Int32) (fs : Nat → Int32) (fw : Nat → Int32) (t1 : Nat) (t3 : Nat) (t2 : Nat) (l0 : Nat) (n : Int32) (lt : Int32) (nf : Int32) (fi : Int32) (k_8 : Value) (k_9 : Value) (f1 : Nat → Int32) (gt : Nat → Int32) (f2 : Nat → Int32) (f3 : Nat → Int32) (gc : Nat → Int32) (fl : Nat → Option Nat) (sz : Nat) (zn : 0 ≤ n.toInt ∧ n.toInt ≤ 8) (zlt : 0 ≤ lt.toInt ∧ lt.toInt ≤ 6) (zbr : 0 ≤ br.toInt ∧ br.toInt ≤ 1) (zx : 0 ≤ x.toInt ∧ x.toInt ≤ 1000000) (zy : 0 ≤ y.toInt ∧ y.toInt ≤ 100) (zgt : FzC gt f1) (zgc : FzH gc f3) (zfl : InL L fl) : Met l yX10_byDraws wsX10_byDraws ({ frames := 5, cells := 0, slots := 0, locals := 128 }) (va_Pc [.ref r0, .ref t0, .int x, .int y] (PreY D K [(r0, .inr (10, [.ref a0])), (a0, .inr (0, [.ref m0, .ref w0])), (m0, .inr (3, [.ref m1, .int br])), (m1, .inl (K 0, 64, .inl fs)), (w0, .inl (K 0, 9, .inl fw)), (t0, .inr (9, [.ref t1, .ref t3, .ref t2, .ref l0, .int n, .int lt, .int nf, .int fi, k_8, k_9])), (t1, .inl (K 0, 56, .inl f1)), (t2, .inl (K 0, 6, .inl f2)), (t3, .inl (K 0, 24, .inl f3)), (l0, .inl (K 4, 6, .inr (.inr (.inr (.inr fl)))))] [] sz g L G (va_A [(r0, .inr (10, [.ref a0])), (a0, .inr (0, [.ref m0, .ref w0])), (m0, .inr (3, [.ref m1, .int br])), (m1, .inl (K 0, 64, .inl fs)), (w0, .inl (K 0, 9, .inl fw)), (t0, .inr (9, [.ref t1, .ref t3, .ref t2, .ref l0, .int n, .int lt, .int nf, .int fi, k_8, k_9])), (t1, .inl (K 0, 56, .inl f1)), (t2, .inl (K 0, 6, .inl f2)), (t3, .inl (K 0, 24, .inl f3)), (l0, .inl (K 4, 6, .inr (.inr (.inr (.inr fl)))))] sz))) (va_Qi (S := Su) (fun (r : Int32) (u : Su) => (0 ≤ (u.2.2.2.1 0).toInt ∧ (u.2.2.2.1 0).toInt ≤ 1) ∧ (FzC gt (u.2.1 2)) ∧ ((r, (u.2.2.2.1 0), (u.2.1 0), (u.2.1 1), (u.2.2.2.1 1), (u.2.1 2), (u.2.1 3)) = E_w_byDraws G x y br fs fw n lt nf fi f1 f2 f3 fl) ∧ True) (fun u t => Wd D (va_A [(r0, .inr (10, [.ref a0])), (a0, .inr (0, [.ref m0, .ref w0])), (m0, .inr (3, [.ref m1, .int br])), (m1, .inl (K 0, 64, .inl fs)), (w0, .inl (K 0, 9, .inl fw)), (t0, .inr (9, [.ref t1, .ref t3, .ref t2, .ref l0, .int n, .int lt, .int nf, .int fi, k_8, k_9])), (t1, .inl (K 0, 56, .inl f1)), (t2, .inl (K 0, 6, .inl f2)), (t3, .inl (K 0, 24, .inl f3)), (l0, .inl (K 4, 6, .inr (.inr (.inr (.inr fl)))))] sz) ((fun u => [(r0, .inr (10, [.ref a0])), (a0, .inr (0, [.ref m0, .ref w0])), (m0, .inr (3, [.ref m1, .int (u.2.2.2.1 0)])), (m1, .inl (K 0, 64, .inl (u.2.1 0))), (w0, .inl (K 0, 9, .inl (u.2.1 1))), (t0, .inr (9, [.ref t1, .ref t3, .ref t2, .ref l0, .int n, .int lt, .int nf, .int (u.2.2.2.1 1), k_8, k_9])), (t1, .inl (K 0, 56, .inl (u.2.1 2))), (t2, .inl (K 0, 6, .inl (u.2.1 3))), (t3, .inl (K 0, 24, .inl f3)), (l0, .inl (K 4, 6, .inr (.inr (.inr (.inr fl)))))]) u) t) (va_A [(r0, .inr (10, [.ref a0])), (a0, .inr (0, [.ref m0, .ref w0])), (m0, .inr (3, [.ref m1, .int br])), (m1, .inl (K 0, 64, .inl fs)), (w0, .inl (K 0, 9, .inl fw)), (t0, .inr (9, [.ref t1, .ref t3, .ref t2, .ref l0, .int n, .int lt, .int nf, .int fi, k_8, k_9])), (t1, .inl (K 0, 56, .inl f1)), (t2, .inl (K 0, 6, .inl f2)), (t3, .inl (K 0, 24, .inl f3)), (l0, .inl (K 4, 6, .inr (.inr (.inr (.inr fl)))))] sz)) 0 0 (va_A [(r0, .inr (10, [.ref a0])), (a0, .inr (0, [.ref m0, .ref w0])), (m0, .inr (3, [.ref m1, .int br])), (m1, .inl (K 0, 64, .inl fs)), (w0, .inl (K 0, 9, .inl fw)), (t0, .inr (9, [.ref t1, .ref t3, .ref t2, .ref l0, .int n, .int lt, .int nf, .int fi, k_8, k_9])), (t1, .inl (K 0, 56, .inl f1)), (t2, .inl (K 0, 6, .inl f2)), (t3, .inl (K 0, 24, .inl f3)), (l0, .inl (K 4, 6, .inr (.inr (.inr (.inr fl)))))] sz) := by
  refine Met.ofW (cc := cX10_byDraws) (maxL := 8) (ret := (some .int)) (by decide +kernel) rfl ?_
  intro p e s m args below meth c s₁ B hml hv
  obtain ⟨rfl, ⟨hsz, hP, hK, hD0, hN⟩, hG, hPl, hRo⟩ := hv
  have hx := B.exec
  have hb := B.bytes
  have hr := B.returns
  have hts := atoms_spec (ws := wsX10_byDraws) B.pre
  have hown : s.vm.findClass RX10 = some m.cls := findClass_of_methodNamed B.named
  have hlocks := B.notSynchronized
  subst hsz
  have hD := hD0.self (sz := s.heap.size)
  generalize hAe : va_A [(r0, .inr (10, [.ref a0])), (a0, .inr (0, [.ref m0, .ref w0])), (m0, .inr (3, [.ref m1, .int br])), (m1, .inl (K 0, 64, .inl fs)), (w0, .inl (K 0, 9, .inl fw)), (t0, .inr (9, [.ref t1, .ref t3, .ref t2, .ref l0, .int n, .int lt, .int nf, .int fi, k_8, k_9])), (t1, .inl (K 0, 56, .inl f1)), (t2, .inl (K 0, 6, .inl f2)), (t3, .inl (K 0, 24, .inl f3)), (l0, .inl (K 4, 6, .inr (.inr (.inr (.inr fl)))))] s.heap.size = A at hD hG hPl hRo ⊢
  have hA : ∀ q : Nat, s.heap.size ≤ q → A q := fun q h => by rw [← hAe]; exact Or.inr h
  clear hAe
  have hS : va_S A s.heap s.heap [] := va_S.rf
  replace hP : va_P D vwCl [(r0, .inr (10, [.ref a0])), (a0, .inr (0, [.ref m0, .ref w0])), (m0, .inr (3, [.ref m1, .int br])), (m1, .inl (K 0, 64, .inl fs)), (w0, .inl (K 0, 9, .inl fw)), (t0, .inr (9, [.ref t1, .ref t3, .ref t2, .ref l0, .int n, .int lt, .int nf, .int fi, k_8, k_9])), (t1, .inl (K 0, 56, .inl f1)), (t2, .inl (K 0, 6, .inl f2)), (t3, .inl (K 0, 24, .inl f3)), (l0, .inl (K 4, 6, .inr (.inr (.inr (.inr fl)))))] s.heap := hP
  have hl := lv_entry [.ref r0, .ref t0, .int x, .int y] (n := 8) (Nat.le_of_ble_eq_true rfl)
  rw [lg_entry_eq]
  generalize (lg_sl [.ref r0, .ref t0, .int x, .int y] ++ List.replicate (8 - (lg_sl [.ref r0, .ref t0, .int x, .int y]).length) Slot.unset).toArray = ls at hl ⊢
  have hl : lv_has ls 8 [(0, .ref r0), (1, .ref t0), (2, .int x), (3, .int y)] := hl
  have hw0 : ∀ w ∈ wsX00, w ∈ wsX10_byDraws := fun w h => (List.mem_cons_of_mem _ (List.mem_append_left _ (List.mem_append_left _ (List.mem_append_right _ h))))
  have hw3 : ∀ w ∈ wsX30, w ∈ wsX10_byDraws := fun w h => (List.mem_cons_of_mem _ (List.mem_append_right _ h))
  have hw7 : ∀ w ∈ wsX70, w ∈ wsX10_byDraws := fun w h => (List.mem_cons_of_mem _ (List.mem_append_left _ (List.mem_append_right _ h)))
  have hw9 : ∀ w ∈ wsX90, w ∈ wsX10_byDraws := fun w h => (List.mem_cons_of_mem _ (List.mem_append_left _ (List.mem_append_left _ (List.mem_append_left _ (List.mem_append_left _ (List.mem_append_right _ h))))))
  have hw10 : ∀ w ∈ wsX100, w ∈ wsX10_byDraws := fun w h => (List.mem_cons_of_mem _ (List.mem_append_left _ (List.mem_append_left _ (List.mem_append_left _ (List.mem_append_right _ h)))))
  generalize hQ : MQ below _ _ s _ _ _ = Q
  have hE := E_w_byDraws.eq_def G x y br fs fw n lt nf fi f1 f2 f3 fl
  refine lv_iload_n hx hb dX10_byDraws_0 rfl (lv_at hl 2 rfl) ?_
  refine lv_istore (lv' := [(4, .int x), (0, .ref r0), (1, .ref t0), (2, .int x), (3, .int y)]) hx hb dX10_byDraws_1 hl (by decide +kernel) rfl (fun ls hl => ?_)
  refine lv_iconst (v := 0) hx hb dX10_byDraws_3 (by decide +kernel) ?_
  refine lv_istore (lv' := [(5, .int 0), (4, .int x), (0, .ref r0), (1, .ref t0), (2, .int x), (3, .int y)]) hx hb dX10_byDraws_4 hl (by decide +kernel) rfl (fun ls hl => ?_)
  refine lv_iconst (v := 0) hx hb dX10_byDraws_6 (by decide +kernel) ?_
  refine lv_istore (lv' := [(6, .int 0), (5, .int 0), (4, .int x), (0, .ref r0), (1, .ref t0), (2, .int x), (3, .int y)]) hx hb dX10_byDraws_7 hl (by decide +kernel) rfl (fun ls hl => ?_)
  have lp_1394 : ∀ (nn_ : Nat) (v_1274 : Int32) (v_1275 : Int32) (v_1276 : Int32) (v_1277 : Int32) (v_1278 : Int32) (f_1279 : Nat → Int32) (f_1280 : Nat → Int32) (f_1281 : Nat → Int32) (f_1282 : Nat → Int32) (hv_1274 : 0 ≤ v_1274.toInt ∧ v_1274.toInt ≤ 100) (hv_1276 : 0 ≤ v_1276.toInt ∧ v_1276.toInt ≤ 1000002) (hv_1277 : 0 ≤ v_1277.toInt ∧ v_1277.toInt ≤ 1) (hf_1281_0 : FzC gt f_1281) (hn : (101 - v_1274.toInt : Int).toNat < nn_) (hE : E_w_byDraws G x y br fs fw n lt nf fi f1 f2 f3 fl = Lp (α := Int32 → Int32 → Int32 → Int32 → Int32 → (Nat → Int32) → (Nat → Int32) → (Nat → Int32) → (Nat → Int32) → (Int32 × Int32 × (Nat → Int32) × (Nat → Int32) × Int32 × (Nat → Int32) × (Nat → Int32))) (E_w_byDraws_l9 G y n lt nf f3 fl) (fun _ _ _ _ _ _ _ _ _ => ((0, 0, fun _ => 0, fun _ => 0, 0, fun _ => 0, fun _ => 0) : Int32 × Int32 × (Nat → Int32) × (Nat → Int32) × Int32 × (Nat → Int32) × (Nat → Int32))) nn_ v_1274 v_1275 v_1276 v_1277 v_1278 f_1279 f_1280 f_1281 f_1282) (H : Heap) (locs : List Loc) (hP : va_P D vwCl [(r0, .inr (10, [.ref a0])), (a0, .inr (0, [.ref m0, .ref w0])), (m0, .inr (3, [.ref m1, .int v_1277])), (m1, .inl (K 0, 64, .inl f_1279)), (w0, .inl (K 0, 9, .inl f_1280)), (t0, .inr (9, [.ref t1, .ref t3, .ref t2, .ref l0, .int n, .int lt, .int nf, .int v_1278, k_8, k_9])), (t1, .inl (K 0, 56, .inl f_1281)), (t2, .inl (K 0, 6, .inl f_1282)), (t3, .inl (K 0, 24, .inl f3)), (l0, .inl (K 4, 6, .inr (.inr (.inr (.inr fl)))))] H) (hD : va_D A [(r0, .inr (10, [.ref a0])), (a0, .inr (0, [.ref m0, .ref w0])), (m0, .inr (3, [.ref m1, .int v_1277])), (m1, .inl (K 0, 64, .inl f_1279)), (w0, .inl (K 0, 9, .inl f_1280)), (t0, .inr (9, [.ref t1, .ref t3, .ref t2, .ref l0, .int n, .int lt, .int nf, .int v_1278, k_8, k_9])), (t1, .inl (K 0, 56, .inl f_1281)), (t2, .inl (K 0, 6, .inl f_1282)), (t3, .inl (K 0, 24, .inl f3)), (l0, .inl (K 4, 6, .inr (.inr (.inr (.inr fl)))))]) (hS : va_S A s.heap H locs) (ls : Array Slot) (hl : lv_has ls 8 [(6, .int v_1274), (5, .int v_1275), (4, .int v_1276), (0, .ref r0), (1, .ref t0), (3, .int y)]), W p l e ({ frames := 5, cells := 0, slots := 0, locals := 128 }) s m (([.ref r0, .ref t0, .int x, .int y] : List Value).toArray) below meth c H locs 0 0 Q (F0 m 9 ls []) := by
    clear hE hP hD hS hl
    intro nn_
    induction nn_ with
    | zero =>
      intro v_1274 v_1275 v_1276 v_1277 v_1278 f_1279 f_1280 f_1281 f_1282 hv_1274 hv_1276 hv_1277 hf_1281_0 hn hE H locs hP hD hS ls hl
      exact absurd hn (Nat.not_lt_zero _)
    | succ nn_ ih_1395 =>
      intro v_1274 v_1275 v_1276 v_1277 v_1278 f_1279 f_1280 f_1281 f_1282 hv_1274 hv_1276 hv_1277 hf_1281_0 hn hE H locs hP hD hS ls hl
      replace hE : E_w_byDraws G x y br fs fw n lt nf fi f1 f2 f3 fl = E_w_byDraws_l9 G y n lt nf f3 fl (Lp (α := Int32 → Int32 → Int32 → Int32 → Int32 → (Nat → Int32) → (Nat → Int32) → (Nat → Int32) → (Nat → Int32) → (Int32 × Int32 × (Nat → Int32) × (Nat → Int32) × Int32 × (Nat → Int32) × (Nat → Int32))) (E_w_byDraws_l9 G y n lt nf f3 fl) (fun _ _ _ _ _ _ _ _ _ => ((0, 0, fun _ => 0, fun _ => 0, 0, fun _ => 0, fun _ => 0) : Int32 × Int32 × (Nat → Int32) × (Nat → Int32) × Int32 × (Nat → Int32) × (Nat → Int32))) nn_) v_1274 v_1275 v_1276 v_1277 v_1278 f_1279 f_1280 f_1281 f_1282 := hE
      obtain ⟨rec_1394, hrec_1394⟩ : ∃ z9, z9 = Lp (α := Int32 → Int32 → Int32 → Int32 → Int32 → (Nat → Int32) → (Nat → Int32) → (Nat → Int32) → (Nat → Int32) → (Int32 × Int32 × (Nat → Int32) × (Nat → Int32) × Int32 × (Nat → Int32) × (Nat → Int32))) (E_w_byDraws_l9 G y n lt nf f3 fl) (fun _ _ _ _ _ _ _ _ _ => ((0, 0, fun _ => 0, fun _ => 0, 0, fun _ => 0, fun _ => 0) : Int32 × Int32 × (Nat → Int32) × (Nat → Int32) × Int32 × (Nat → Int32) × (Nat → Int32))) nn_ := ⟨_, rfl⟩
      rw [← hrec_1394] at hE
      replace hE := hE.trans (E_w_byDraws_l9.eq_def _ _ _ _ _ _ _ _ _ _ _ _ _ _ _ _ _)
      refine lv_iload hx hb dX10_byDraws_9 (lv_at hl 0 rfl) ?_
      refine lv_iload_n hx hb dX10_byDraws_11 rfl (lv_at hl 5 rfl) ?_
      refine lv_icmp_ge (tgt := 81) hx hb dX10_byDraws_12 (by decide +kernel) (fun c_1396 => ?_) (fun c_1396 => ?_)
      · have c_1396i := i_le (x := y.toInt) (y := v_1274.toInt) rfl rfl c_1396
        replace hE := hE.trans (if_pos c_1396)
        refine lv_iload hx hb dX10_byDraws_81 (lv_at hl 1 rfl) ?_
        rw [← hQ]
        have hP9 := hP.sub (ws' := [(r0, .inr (10, [.ref a0])), (a0, .inr (0, [.ref m0, .ref w0])), (m0, .inr (3, [.ref m1, .int v_1277])), (m1, .inl (K 0, 64, .inl f_1279)), (w0, .inl (K 0, 9, .inl f_1280)), (t0, .inr (9, [.ref t1, .ref t3, .ref t2, .ref l0, .int n, .int lt, .int nf, .int v_1278, k_8, k_9])), (t1, .inl (K 0, 56, .inl f_1281)), (t2, .inl (K 0, 6, .inl f_1282)), (t3, .inl (K 0, 24, .inl f3)), (l0, .inl (K 4, 6, .inr (.inr (.inr (.inr fl)))))]) [0, 1, 2, 3, 4, 5, 6, 7, 8, 9] rfl
        have hD9 := hD.sub (ws' := [(r0, .inr (10, [.ref a0])), (a0, .inr (0, [.ref m0, .ref w0])), (m0, .inr (3, [.ref m1, .int v_1277])), (m1, .inl (K 0, 64, .inl f_1279)), (w0, .inl (K 0, 9, .inl f_1280)), (t0, .inr (9, [.ref t1, .ref t3, .ref t2, .ref l0, .int n, .int lt, .int nf, .int v_1278, k_8, k_9])), (t1, .inl (K 0, 56, .inl f_1281)), (t2, .inl (K 0, 6, .inl f_1282)), (t3, .inl (K 0, 24, .inl f3)), (l0, .inl (K 4, 6, .inr (.inr (.inr (.inr fl)))))]) [0, 1, 2, 3, 4, 5, 6, 7, 8, 9] (by decide +kernel) rfl
        exact W.iret (v := v_1275) hx hb hr (fun t ht hW => ⟨⟨v_1275, ((fun _ => 0, fun i => match i with | 0 => f_1279 | 1 => f_1280 | 2 => f_1281 | _ => f_1282, fun _ => fun _ => 0, fun i => match i with | 0 => v_1277 | _ => v_1278, fun _ => 0, fun _ => fun _ => none) : Su), rfl, ⟨(show 0 ≤ (v_1277 : Int32).toInt ∧ (v_1277 : Int32).toInt ≤ 1 by omega), hf_1281_0, hE.symm, trivial⟩, (⟨by rw [ht]; exact hP9, hD9⟩ : Wd D A _ t)⟩, hS.F ht⟩) hS.2.2 dX10_byDraws_83
      · have c_1396i := i_nle (x := y.toInt) (y := v_1274.toInt) rfl rfl c_1396
        replace hE := hE.trans (if_neg c_1396)
        refine lv_aload_n hx hb dX10_byDraws_15 rfl (lv_at hl 4 rfl) ?_
        refine va_getN (ci := 9) (v := .int n) (C := RX9) (T := TX9) (N := 10) hx hb hts hw9 hown hK hP 5 rfl rfl 4 (by decide +kernel) (nst_use hN 109 rfl) (fun _ h9 => h9) rfl dX10_byDraws_16 ?_
        have j_1424 : ∀ (v_1410 : Int32) (v_1411 : Int32) (f_1412 : Nat → Int32) (f_1413 : Nat → Int32) (f_1414 : Nat → Int32) (hv_1410 : 0 ≤ v_1410.toInt ∧ v_1410.toInt ≤ 1000002) (hv_1411 : 0 ≤ v_1411.toInt ∧ v_1411.toInt ≤ 1) (hf_1414_0 : FzC gt f_1414) (hE : E_w_byDraws G x y br fs fw n lt nf fi f1 f2 f3 fl = E_w_byDraws_j53 G n lt nf f3 fl v_1274 v_1275 v_1278 f_1282 rec_1394 v_1410 v_1411 f_1412 f_1413 f_1414) (H : Heap) (locs : List Loc) (hP : va_P D vwCl [(r0, .inr (10, [.ref a0])), (a0, .inr (0, [.ref m0, .ref w0])), (m0, .inr (3, [.ref m1, .int v_1411])), (m1, .inl (K 0, 64, .inl f_1412)), (w0, .inl (K 0, 9, .inl f_1413)), (t0, .inr (9, [.ref t1, .ref t3, .ref t2, .ref l0, .int n, .int lt, .int nf, .int v_1278, k_8, k_9])), (t1, .inl (K 0, 56, .inl f_1414)), (t2, .inl (K 0, 6, .inl f_1282)), (t3, .inl (K 0, 24, .inl f3)), (l0, .inl (K 4, 6, .inr (.inr (.inr (.inr fl)))))] H) (hD : va_D A [(r0, .inr (10, [.ref a0])), (a0, .inr (0, [.ref m0, .ref w0])), (m0, .inr (3, [.ref m1, .int v_1411])), (m1, .inl (K 0, 64, .inl f_1412)), (w0, .inl (K 0, 9, .inl f_1413)), (t0, .inr (9, [.ref t1, .ref t3, .ref t2, .ref l0, .int n, .int lt, .int nf, .int v_1278, k_8, k_9])), (t1, .inl (K 0, 56, .inl f_1414)), (t2, .inl (K 0, 6, .inl f_1282)), (t3, .inl (K 0, 24, .inl f3)), (l0, .inl (K 4, 6, .inr (.inr (.inr (.inr fl)))))]) (hS : va_S A s.heap H locs) (ls : Array Slot) (hl : lv_has ls 8 [(6, .int v_1274), (5, .int v_1275), (4, .int v_1410), (0, .ref r0), (1, .ref t0), (3, .int y)]), W p l e ({ frames := 5, cells := 0, slots := 0, locals := 128 }) s m (([.ref r0, .ref t0, .int x, .int y] : List Value).toArray) below meth c H locs 0 0 Q (F0 m 53 ls []) := by
          clear hE hP hD hS hl
          intro v_1410 v_1411 f_1412 f_1413 f_1414 hv_1410 hv_1411 hf_1414_0 hE H locs hP hD hS ls hl
          replace hE := hE.trans (E_w_byDraws_j53.eq_def _ _ _ _ _ _ _ _ _ _ _ _ _ _ _ _)
          refine lv_aload_n hx hb dX10_byDraws_53 rfl (lv_at hl 3 rfl) ?_
          refine lv_aload_n hx hb dX10_byDraws_54 rfl (lv_at hl 4 rfl) ?_
          refine kci (S := Su) (wr := []) (va_runV (As := [.ref t0]) (rest := []) ⟨hx, hb, hml, hown, hts⟩ (w_nextHour l D K g L G r0 t0 a0 m0 w0 m1 v_1411 f_1412 f_1413 t1 t3 t2 l0 n lt nf v_1278 k_8 k_9 f_1414 gt f_1282 f3 gc fl H.size (by first | omega | decide) (by first | omega | decide) (by first | omega | decide) hf_1414_0 zgc zfl) (cwV 1 hts gX10_byDraws_X10_nextHour rfl rfl rfl (by decide +kernel) ⟨Nat.le_of_ble_eq_true rfl, Nat.le_of_ble_eq_true rfl⟩) (mkVY hK hN (hP.sub [0, 1, 2, 3, 4, 5, 6, 7, 8, 9] rfl) (hD.sub [0, 1, 2, 3, 4, 5, 6, 7, 8, 9] (by decide +kernel) rfl) (ci := 10) (q0 := 0) rfl rfl (fun U hU hW => ⟨Gl.at hG hS hW hU (fun q h => va_free hD hS hA [0, 1, 2, 3, 4, 5, 6, 7, 8, 9] rfl q h), Pool.at hPl hS hU (fun q h => va_free hD hS hA [0, 1, 2, 3, 4, 5, 6, 7, 8, 9] rfl q h), Ro.heap hU (Ro.nil)⟩)) rfl rfl hl.1 rfl (lv_room (Nat.le_of_ble_eq_true rfl)) dX10_byDraws_55 ⟨Nat.le_of_ble_eq_true rfl, Nat.le_of_ble_eq_true rfl⟩) hP hD hS hA [0, 1, 2, 3, 4, 5, 6, 7, 8, 9] [] rfl rfl (by decide +kernel) (by decide +kernel) (fun r_1425 u_1426 H locs hw hP0 hD0 hS0 => ?_)
          clear hP hD hS
          have hP := hP0
          have hD := hD0
          have hS := hS0
          clear hP0 hD0 hS0
          replace hP : va_P D vwCl [(r0, .inr (10, [.ref a0])), (a0, .inr (0, [.ref m0, .ref w0])), (m0, .inr (3, [.ref m1, .int (u_1426.2.2.2.1 0)])), (m1, .inl (K 0, 64, .inl (u_1426.2.1 0))), (w0, .inl (K 0, 9, .inl (u_1426.2.1 1))), (t0, .inr (9, [.ref t1, .ref t3, .ref t2, .ref l0, .int n, .int lt, .int nf, .int (u_1426.2.2.2.1 1), k_8, k_9])), (t1, .inl (K 0, 56, .inl (u_1426.2.1 2))), (t2, .inl (K 0, 6, .inl (u_1426.2.1 3))), (t3, .inl (K 0, 24, .inl f3)), (l0, .inl (K 4, 6, .inr (.inr (.inr (.inr fl)))))] H := hP
          replace hD : va_D A [(r0, .inr (10, [.ref a0])), (a0, .inr (0, [.ref m0, .ref w0])), (m0, .inr (3, [.ref m1, .int (u_1426.2.2.2.1 0)])), (m1, .inl (K 0, 64, .inl (u_1426.2.1 0))), (w0, .inl (K 0, 9, .inl (u_1426.2.1 1))), (t0, .inr (9, [.ref t1, .ref t3, .ref t2, .ref l0, .int n, .int lt, .int nf, .int (u_1426.2.2.2.1 1), k_8, k_9])), (t1, .inl (K 0, 56, .inl (u_1426.2.1 2))), (t2, .inl (K 0, 6, .inl (u_1426.2.1 3))), (t3, .inl (K 0, 24, .inl f3)), (l0, .inl (K 4, 6, .inr (.inr (.inr (.inr fl)))))] := hD
          obtain ⟨h_1430, k_1427, k_1428, k_1429, -⟩ := hw
          replace hE := (((((hE.trans (Lt2_in k_1429)).trans (Lt2_in rfl)).trans (Lt2_in rfl)).trans (Lt2_in rfl)).trans (Lt2_in rfl)).trans (Lt2_in rfl)
          refine lv_istore (lv' := [(7, .int r_1425), (6, .int v_1274), (5, .int v_1275), (4, .int v_1410), (0, .ref r0), (1, .ref t0), (3, .int y)]) hx hb dX10_byDraws_58 hl (by decide +kernel) rfl (fun ls hl => ?_)
          refine lv_iload hx hb dX10_byDraws_60 (lv_at hl 0 rfl) ?_
          refine lv_if_ge (tgt := 68) hx hb dX10_byDraws_62 (by decide +kernel) (fun c_1431 => ?_) (fun c_1431 => ?_)
          · have c_1431i := i_le (x := 0) (y := r_1425.toInt) rfl rfl c_1431
            replace hE := hE.trans (if_pos c_1431)
            refine lv_iload hx hb dX10_byDraws_68 (lv_at hl 2 rfl) ?_
            refine lv_iload hx hb dX10_byDraws_70 (lv_at hl 0 rfl) ?_
            refine lv_iadd hx hb dX10_byDraws_72 ?_
            refine lv_topi (fun x_1432 ex_1432 => ?_)
            replace hE := hE.trans (Lt_in ex_1432)
            refine lv_istore (lv' := [(5, .int x_1432), (7, .int r_1425), (6, .int v_1274), (4, .int v_1410), (0, .ref r0), (1, .ref t0), (3, .int y)]) hx hb dX10_byDraws_73 hl (by decide +kernel) rfl (fun ls hl => ?_)
            obtain ⟨x_1433, ex_1433⟩ : ∃ y : Int32, y = v_1274 + Int32.ofInt 1 := ⟨_, rfl⟩
            replace hE := hE.trans (Lt_in ex_1433)
            have hx_1433 : x_1433.toInt = (v_1274.toInt + 1) := by rw [ex_1433]; exact i_add rfl (show (Int32.ofInt 1).toInt = 1 from rfl) (by omega)
            refine lv_iinc (v := x_1433) (lv' := [(6, .int x_1433), (5, .int x_1432), (7, .int r_1425), (4, .int v_1410), (0, .ref r0), (1, .ref t0), (3, .int y)]) hx hb dX10_byDraws_75 hl (k := 2) rfl (by rw [ex_1433]) (by decide +kernel) rfl (fun ls hl => ?_)
            refine lv_goto (tgt := 9) hx hb dX10_byDraws_78 (by decide +kernel) ?_
            exact ih_1395 x_1433 x_1432 v_1410 (u_1426.2.2.2.1 0) (u_1426.2.2.2.1 1) (u_1426.2.1 0) (u_1426.2.1 1) (u_1426.2.1 2) (u_1426.2.1 3) (by rw [hx_1433]; omega) (by omega) (by omega) k_1428 (by omega) (hE.trans (by rw [hrec_1394])) _ _ hP hD hS ls (lv_sub hl [0, 1, 3, 4, 5, 6] rfl)
          · have c_1431i := i_nle (x := 0) (y := r_1425.toInt) rfl rfl c_1431
            replace hE := hE.trans (if_neg c_1431)
            refine lv_iload hx hb dX10_byDraws_65 (lv_at hl 2 rfl) ?_
            rw [← hQ]
            have hP9 := hP.sub (ws' := [(r0, .inr (10, [.ref a0])), (a0, .inr (0, [.ref m0, .ref w0])), (m0, .inr (3, [.ref m1, .int (u_1426.2.2.2.1 0)])), (m1, .inl (K 0, 64, .inl (u_1426.2.1 0))), (w0, .inl (K 0, 9, .inl (u_1426.2.1 1))), (t0, .inr (9, [.ref t1, .ref t3, .ref t2, .ref l0, .int n, .int lt, .int nf, .int (u_1426.2.2.2.1 1), k_8, k_9])), (t1, .inl (K 0, 56, .inl (u_1426.2.1 2))), (t2, .inl (K 0, 6, .inl (u_1426.2.1 3))), (t3, .inl (K 0, 24, .inl f3)), (l0, .inl (K 4, 6, .inr (.inr (.inr (.inr fl)))))]) [0, 1, 2, 3, 4, 5, 6, 7, 8, 9] rfl
            have hD9 := hD.sub (ws' := [(r0, .inr (10, [.ref a0])), (a0, .inr (0, [.ref m0, .ref w0])), (m0, .inr (3, [.ref m1, .int (u_1426.2.2.2.1 0)])), (m1, .inl (K 0, 64, .inl (u_1426.2.1 0))), (w0, .inl (K 0, 9, .inl (u_1426.2.1 1))), (t0, .inr (9, [.ref t1, .ref t3, .ref t2, .ref l0, .int n, .int lt, .int nf, .int (u_1426.2.2.2.1 1), k_8, k_9])), (t1, .inl (K 0, 56, .inl (u_1426.2.1 2))), (t2, .inl (K 0, 6, .inl (u_1426.2.1 3))), (t3, .inl (K 0, 24, .inl f3)), (l0, .inl (K 4, 6, .inr (.inr (.inr (.inr fl)))))]) [0, 1, 2, 3, 4, 5, 6, 7, 8, 9] (by decide +kernel) rfl
            exact W.iret (v := v_1275) hx hb hr (fun t ht hW => ⟨⟨v_1275, ((fun _ => 0, fun i => match i with | 0 => (u_1426.2.1 0) | 1 => (u_1426.2.1 1) | 2 => (u_1426.2.1 2) | _ => (u_1426.2.1 3), fun _ => fun _ => 0, fun i => match i with | 0 => (u_1426.2.2.2.1 0) | _ => (u_1426.2.2.2.1 1), fun _ => 0, fun _ => fun _ => none) : Su), rfl, ⟨(show 0 ≤ ((u_1426.2.2.2.1 0) : Int32).toInt ∧ ((u_1426.2.2.2.1 0) : Int32).toInt ≤ 1 by omega), k_1428, hE.symm, trivial⟩, (⟨by rw [ht]; exact hP9, hD9⟩ : Wd D A _ t)⟩, hS.F ht⟩) hS.2.2 dX10_byDraws_67
        refine lv_if_le (tgt := 53) hx hb dX10_byDraws_19 (by decide +kernel) (fun c_1434 => ?_) (fun c_1434 => ?_)
        · have c_1434i := i_le (x := n.toInt) (y := 0) rfl rfl c_1434
          replace hE := hE.trans (if_pos c_1434)
          exact j_1424 v_1276 v_1277 f_1279 f_1280 f_1281 (by omega) (by omega) hf_1281_0 hE _ _ hP hD hS ls (lv_sub hl [0, 1, 2, 3, 4, 5] rfl)
        · have c_1434i := i_nle (x := n.toInt) (y := 0) rfl rfl c_1434
          replace hE := hE.trans (if_neg c_1434)
          refine lv_iload hx hb dX10_byDraws_22 (lv_at hl 2 rfl) ?_
          refine lv_i2l hx hb dX10_byDraws_24 rfl ?_
          refine lv_topl (fun x_1435 ex_1435 => ?_)
          replace hE := hE.trans (Lt_in ex_1435)
          have hx_1435 : x_1435.toInt = v_1276.toInt := by rw [ex_1435]; exact i_wide rfl
          refine lv_ldc2 (v := 1103) hx hb hown (hts _ mm_X10_byDraws_781) dX10_byDraws_25 ?_
          refine lv_lmul hx hb dX10_byDraws_28 ?_
          refine lv_topl (fun x_1436 ex_1436 => ?_)
          replace hE := hE.trans (Lt_in ex_1436)
          have hx_1436 : x_1436.toInt = (v_1276.toInt * 1103) := by rw [ex_1436]; exact l_mul hx_1435 (show (1103 : Int64).toInt = 1103 from rfl) (by omega)
          refine lv_ldc2 (v := 12345) hx hb hown (hts _ mm_X10_byDraws_782) dX10_byDraws_29 ?_
          refine lv_ladd hx hb dX10_byDraws_32 ?_
          refine lv_topl (fun x_1437 ex_1437 => ?_)
          replace hE := hE.trans (Lt_in ex_1437)
          have hx_1437 : x_1437.toInt = ((v_1276.toInt * 1103) + 12345) := by rw [ex_1437]; exact l_add hx_1436 (show (12345 : Int64).toInt = 12345 from rfl) (by omega)
          refine lv_ldc2 (v := 1000003) hx hb hown (hts _ mm_X10_byDraws_783) dX10_byDraws_33 ?_
          refine lv_lrem hx hb dX10_byDraws_36 (by decide +kernel) ?_
          refine lv_topl (fun x_1438 ex_1438 => ?_)
          replace hE := hE.trans (Lt_in ex_1438)
          have hx_1438 : x_1438.toInt = (((v_1276.toInt * 1103) + 12345) % 1000003) := by rw [ex_1438]; exact l_rem hx_1437 (show (1000003 : Int64).toInt = 1000003 from rfl) (by omega) (by omega)
          refine lv_l2i hx hb dX10_byDraws_37 rfl ?_
          refine lv_topi (fun x_1439 ex_1439 => ?_)
          replace hE := hE.trans (Lt_in ex_1439)
          have hx_1439 : x_1439.toInt = (((v_1276.toInt * 1103) + 12345) % 1000003) := by rw [ex_1439]; exact l_nar hx_1438 (by omega)
          refine lv_istore (lv' := [(4, .int x_1439), (6, .int v_1274), (5, .int v_1275), (0, .ref r0), (1, .ref t0), (3, .int y)]) hx hb dX10_byDraws_38 hl (by decide +kernel) rfl (fun ls hl => ?_)
          refine lv_aload_n hx hb dX10_byDraws_40 rfl (lv_at hl 3 rfl) ?_
          refine lv_aload_n hx hb dX10_byDraws_41 rfl (lv_at hl 4 rfl) ?_
          refine lv_iload hx hb dX10_byDraws_42 (lv_at hl 0 rfl) ?_
          refine lv_aload_n hx hb dX10_byDraws_44 rfl (lv_at hl 4 rfl) ?_
          refine va_getN (ci := 9) (v := .int n) (C := RX9) (T := TX9) (N := 10) hx hb hts hw9 hown hK hP 5 rfl rfl 4 (by decide +kernel) (nst_use hN 109 rfl) (fun _ h9 => h9) rfl dX10_byDraws_45 ?_
          refine lv_irem hx hb dX10_byDraws_48 (fun h9 => by have h8 := i_eq (x := n.toInt) (y := 0) rfl rfl h9; omega) ?_
          refine lv_topi (fun x_1440 ex_1440 => ?_)
          replace hE := hE.trans (Lt_in ex_1440)
          have hx_1440 : 0 ≤ x_1440.toInt ∧ x_1440.toInt < n.toInt := by rw [ex_1440]; exact i_remb hx_1439 rfl (by omega) (by omega)
          refine kci (S := Su) (wr := []) (va_runV (As := [.ref t0, .int x_1440]) (rest := []) ⟨hx, hb, hml, hown, hts⟩ (w_kindle l D K g L G r0 t0 x_1440 a0 m0 w0 m1 v_1277 f_1279 f_1280 t1 t3 t2 l0 n lt nf v_1278 k_8 k_9 f_1281 gt f_1282 f3 gc fl H.size (by first | omega | decide) (by first | omega | decide) (by first | omega | decide) hf_1281_0 zgc zfl) (cwV 2 hts gX10_byDraws_X10_kindle rfl rfl rfl (by decide +kernel) ⟨Nat.le_of_ble_eq_true rfl, Nat.le_of_ble_eq_true rfl⟩) (mkVY hK hN (hP.sub [0, 1, 2, 3, 4, 5, 6, 7, 8, 9] rfl) (hD.sub [0, 1, 2, 3, 4, 5, 6, 7, 8, 9] (by decide +kernel) rfl) (ci := 10) (q0 := 0) rfl rfl (fun U hU hW => ⟨Gl.at hG hS hW hU (fun q h => va_free hD hS hA [0, 1, 2, 3, 4, 5, 6, 7, 8, 9] rfl q h), Pool.at hPl hS hU (fun q h => va_free hD hS hA [0, 1, 2, 3, 4, 5, 6, 7, 8, 9] rfl q h), Ro.heap hU (Ro.nil)⟩)) rfl rfl hl.1 rfl (lv_room (Nat.le_of_ble_eq_true rfl)) dX10_byDraws_49 ⟨Nat.le_of_ble_eq_true rfl, Nat.le_of_ble_eq_true rfl⟩) hP hD hS hA [0, 1, 2, 3, 4, 5, 6, 7, 8, 9] [] rfl rfl (by decide +kernel) (by decide +kernel) (fun r_1441 u_1442 H locs hw hP0 hD0 hS0 => ?_)
          clear hP hD hS
          have hP := hP0
          have hD := hD0
          have hS := hS0
          clear hP0 hD0 hS0
          replace hP : va_P D vwCl [(r0, .inr (10, [.ref a0])), (a0, .inr (0, [.ref m0, .ref w0])), (m0, .inr (3, [.ref m1, .int (u_1442.2.2.2.1 0)])), (m1, .inl (K 0, 64, .inl (u_1442.2.1 0))), (w0, .inl (K 0, 9, .inl (u_1442.2.1 1))), (t0, .inr (9, [.ref t1, .ref t3, .ref t2, .ref l0, .int n, .int lt, .int nf, .int v_1278, k_8, k_9])), (t1, .inl (K 0, 56, .inl (u_1442.2.1 2))), (t2, .inl (K 0, 6, .inl f_1282)), (t3, .inl (K 0, 24, .inl f3)), (l0, .inl (K 4, 6, .inr (.inr (.inr (.inr fl)))))] H := hP
          replace hD : va_D A [(r0, .inr (10, [.ref a0])), (a0, .inr (0, [.ref m0, .ref w0])), (m0, .inr (3, [.ref m1, .int (u_1442.2.2.2.1 0)])), (m1, .inl (K 0, 64, .inl (u_1442.2.1 0))), (w0, .inl (K 0, 9, .inl (u_1442.2.1 1))), (t0, .inr (9, [.ref t1, .ref t3, .ref t2, .ref l0, .int n, .int lt, .int nf, .int v_1278, k_8, k_9])), (t1, .inl (K 0, 56, .inl (u_1442.2.1 2))), (t2, .inl (K 0, 6, .inl f_1282)), (t3, .inl (K 0, 24, .inl f3)), (l0, .inl (K 4, 6, .inr (.inr (.inr (.inr fl)))))] := hD
          obtain ⟨h_1446, k_1443, k_1444, k_1445, -⟩ := hw
          replace hE := (((hE.trans (Lt2_in k_1445)).trans (Lt2_in rfl)).trans (Lt2_in rfl)).trans (Lt2_in rfl)
          refine lv_pop hx hb dX10_byDraws_52 rfl ?_
          exact j_1424 x_1439 (u_1442.2.2.2.1 0) (u_1442.2.1 0) (u_1442.2.1 1) (u_1442.2.1 2) (by rw [hx_1439]; omega) (by omega) k_1444 hE _ _ hP hD hS ls (lv_sub hl [1, 2, 0, 3, 4, 5] rfl)
  exact lp_1394 ((101 - (0 : Int32).toInt : Int).toNat + 1) 0 0 x br fi fs fw f1 f2 (by decide +kernel) (by omega) (by omega) zgt (Nat.lt_succ_self _) hE _ _ hP hD hS ls (lv_sub hl [0, 1, 2, 3, 4, 6] rfl)
