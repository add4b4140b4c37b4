theorem BX12_coalBy_0 : bsegs (ByteArray.data cX12_coalBy |>.toList.drop 0) 0 [(0, [16, 63]), (2, [27]), (3, [104]), (4, [6]), (5, [28]), (6, [104]), (7, [96]), (8, [29]), (9, [96]), (10, [54, 4]), (12, [42]), (13, [180, 0, 117]), (16, [21, 4]), (18, [51]), (19, [154, 0, 9]), (22, [19, 1, 220]), (25, [167, 0, 33]), (28, [29]), (29, [133]), (30, [42]), (31, [180, 0, 111]), (34, [16, 21]), (36, [27]), (37, [4])] = true := by decide +kernel
theorem dX12_coalBy_0 : decode cX12_coalBy 0 = .ok (.bipush 63, 2) := dk_16 63 (bs_at BX12_coalBy_0 0 rfl) rfl
theorem dX12_coalBy_2 : decode cX12_coalBy 2 = .ok (.iload_n 1, 1) := dk_27 (bs_at BX12_coalBy_0 1 rfl)
theorem dX12_coalBy_3 : decode cX12_coalBy 3 = .ok (.imul, 1) := dk_104 (bs_at BX12_coalBy_0 2 rfl)
theorem dX12_coalBy_4 : decode cX12_coalBy 4 = .ok (.iconst 3, 1) := dk_6 (bs_at BX12_coalBy_0 3 rfl)
theorem dX12_coalBy_5 : decode cX12_coalBy 5 = .ok (.iload_n 2, 1) := dk_28 (bs_at BX12_coalBy_0 4 rfl)
theorem dX12_coalBy_6 : decode cX12_coalBy 6 = .ok (.imul, 1) := dk_104 (bs_at BX12_coalBy_0 5 rfl)
theorem dX12_coalBy_7 : decode cX12_coalBy 7 = .ok (.iadd, 1) := dk_96 (bs_at BX12_coalBy_0 6 rfl)
theorem dX12_coalBy_8 : decode cX12_coalBy 8 = .ok (.iload_n 3, 1) := dk_29 (bs_at BX12_coalBy_0 7 rfl)
theorem dX12_coalBy_9 : decode cX12_coalBy 9 = .ok (.iadd, 1) := dk_96 (bs_at BX12_coalBy_0 8 rfl)
theorem dX12_coalBy_10 : decode cX12_coalBy 10 = .ok (.istore 4, 2) := dk_54 4 (bs_at BX12_coalBy_0 9 rfl)
theorem dX12_coalBy_12 : decode cX12_coalBy 12 = .ok (.aload_n 0, 1) := dk_42 (bs_at BX12_coalBy_0 10 rfl)
theorem dX12_coalBy_13 : decode cX12_coalBy 13 = .ok (.getfield 117, 3) := dk_180 0 117 (bs_at BX12_coalBy_0 11 rfl) rfl
theorem dX12_coalBy_16 : decode cX12_coalBy 16 = .ok (.iload 4, 2) := dk_21 4 (bs_at BX12_coalBy_0 12 rfl)
theorem dX12_coalBy_18 : decode cX12_coalBy 18 = .ok (.baload, 1) := dk_51 (bs_at BX12_coalBy_0 13 rfl)
theorem dX12_coalBy_19 : decode cX12_coalBy 19 = .ok (.ifCond .ne 9, 3) := dk_154 0 9 (bs_at BX12_coalBy_0 14 rfl) rfl
theorem dX12_coalBy_22 : decode cX12_coalBy 22 = .ok (.ldc_w 476, 3) := dk_19 1 220 (bs_at BX12_coalBy_0 15 rfl) rfl
theorem dX12_coalBy_25 : decode cX12_coalBy 25 = .ok (.goto 33, 3) := dk_167 0 33 (bs_at BX12_coalBy_0 16 rfl) rfl
theorem dX12_coalBy_28 : decode cX12_coalBy 28 = .ok (.iload_n 3, 1) := dk_29 (bs_at BX12_coalBy_0 17 rfl)
theorem dX12_coalBy_29 : decode cX12_coalBy 29 = .ok (.i2l, 1) := dk_133 (bs_at BX12_coalBy_0 18 rfl)
theorem dX12_coalBy_30 : decode cX12_coalBy 30 = .ok (.aload_n 0, 1) := dk_42 (bs_at BX12_coalBy_0 19 rfl)
theorem dX12_coalBy_31 : decode cX12_coalBy 31 = .ok (.getfield 111, 3) := dk_180 0 111 (bs_at BX12_coalBy_0 20 rfl) rfl
theorem dX12_coalBy_34 : decode cX12_coalBy 34 = .ok (.bipush 21, 2) := dk_16 21 (bs_at BX12_coalBy_0 21 rfl) rfl
theorem dX12_coalBy_36 : decode cX12_coalBy 36 = .ok (.iload_n 1, 1) := dk_27 (bs_at BX12_coalBy_0 22 rfl)
theorem dX12_coalBy_37 : decode cX12_coalBy 37 = .ok (.iconst 1, 1) := dk_4 (bs_at BX12_coalBy_0 23 rfl)
theorem BX12_coalBy_38 : bsegs (ByteArray.data cX12_coalBy |>.toList.drop 38) 38 [(38, [96]), (39, [104]), (40, [42]), (41, [180, 0, 114]), (44, [21, 4]), (46, [46]), (47, [96]), (48, [46]), (49, [133]), (50, [97]), (51, [3]), (52, [19, 1, 220]), (55, [184, 1, 163]), (58, [172])] = true := by decide +kernel
theorem dX12_coalBy_38 : decode cX12_coalBy 38 = .ok (.iadd, 1) := dk_96 (bs_at BX12_coalBy_38 0 rfl)
theorem dX12_coalBy_39 : decode cX12_coalBy 39 = .ok (.imul, 1) := dk_104 (bs_at BX12_coalBy_38 1 rfl)
theorem dX12_coalBy_40 : decode cX12_coalBy 40 = .ok (.aload_n 0, 1) := dk_42 (bs_at BX12_coalBy_38 2 rfl)
theorem dX12_coalBy_41 : decode cX12_coalBy 41 = .ok (.getfield 114, 3) := dk_180 0 114 (bs_at BX12_coalBy_38 3 rfl) rfl
theorem dX12_coalBy_44 : decode cX12_coalBy 44 = .ok (.iload 4, 2) := dk_21 4 (bs_at BX12_coalBy_38 4 rfl)
theorem dX12_coalBy_46 : decode cX12_coalBy 46 = .ok (.iaload, 1) := dk_46 (bs_at BX12_coalBy_38 5 rfl)
theorem dX12_coalBy_47 : decode cX12_coalBy 47 = .ok (.iadd, 1) := dk_96 (bs_at BX12_coalBy_38 6 rfl)
theorem dX12_coalBy_48 : decode cX12_coalBy 48 = .ok (.iaload, 1) := dk_46 (bs_at BX12_coalBy_38 7 rfl)
theorem dX12_coalBy_49 : decode cX12_coalBy 49 = .ok (.i2l, 1) := dk_133 (bs_at BX12_coalBy_38 8 rfl)
theorem dX12_coalBy_50 : decode cX12_coalBy 50 = .ok (.ladd, 1) := dk_97 (bs_at BX12_coalBy_38 9 rfl)
theorem dX12_coalBy_51 : decode cX12_coalBy 51 = .ok (.iconst 0, 1) := dk_3 (bs_at BX12_coalBy_38 10 rfl)
theorem dX12_coalBy_52 : decode cX12_coalBy 52 = .ok (.ldc_w 476, 3) := dk_19 1 220 (bs_at BX12_coalBy_38 11 rfl) rfl
theorem dX12_coalBy_55 : decode cX12_coalBy 55 = .ok (.invokestatic 419, 3) := dk_184 1 163 (bs_at BX12_coalBy_38 12 rfl) rfl
theorem dX12_coalBy_58 : decode cX12_coalBy 58 = .ok (.ireturn, 1) := dk_172 (bs_at BX12_coalBy_38 13 rfl)
theorem BX12_layHour_0 : bsegs (ByteArray.data cX12_layHour |>.toList.drop 0) 0 [(0, [3]), (1, [54, 4]), (3, [21, 4]), (5, [16, 20]), (7, [163, 0, 159]), (10, [42]), (11, [180, 0, 13]), (14, [16, 11]), (16, [27]), (17, [96]), (18, [21, 4]), (20, [79]), (21, [4]), (22, [54, 5]), (24, [3]), (25, [54, 6]), (27, [21, 6]), (29, [6]), (30, [162, 0, 130]), (33, [21, 5]), (35, [153, 0, 20]), (38, [21, 6]), (40, [153, 0, 11]), (43, [42])] = true := by decide +kernel
theorem dX12_layHour_0 : decode cX12_layHour 0 = .ok (.iconst 0, 1) := dk_3 (bs_at BX12_layHour_0 0 rfl)
theorem dX12_layHour_1 : decode cX12_layHour 1 = .ok (.istore 4, 2) := dk_54 4 (bs_at BX12_layHour_0 1 rfl)
theorem dX12_layHour_3 : decode cX12_layHour 3 = .ok (.iload 4, 2) := dk_21 4 (bs_at BX12_layHour_0 2 rfl)
theorem dX12_layHour_5 : decode cX12_layHour 5 = .ok (.bipush 20, 2) := dk_16 20 (bs_at BX12_layHour_0 3 rfl) rfl
theorem dX12_layHour_7 : decode cX12_layHour 7 = .ok (.if_icmp .gt 159, 3) := dk_163 0 159 (bs_at BX12_layHour_0 4 rfl) rfl
theorem dX12_layHour_10 : decode cX12_layHour 10 = .ok (.aload_n 0, 1) := dk_42 (bs_at BX12_layHour_0 5 rfl)
theorem dX12_layHour_11 : decode cX12_layHour 11 = .ok (.getfield 13, 3) := dk_180 0 13 (bs_at BX12_layHour_0 6 rfl) rfl
theorem dX12_layHour_14 : decode cX12_layHour 14 = .ok (.bipush 11, 2) := dk_16 11 (bs_at BX12_layHour_0 7 rfl) rfl
theorem dX12_layHour_16 : decode cX12_layHour 16 = .ok (.iload_n 1, 1) := dk_27 (bs_at BX12_layHour_0 8 rfl)
theorem dX12_layHour_17 : decode cX12_layHour 17 = .ok (.iadd, 1) := dk_96 (bs_at BX12_layHour_0 9 rfl)
theorem dX12_layHour_18 : decode cX12_layHour 18 = .ok (.iload 4, 2) := dk_21 4 (bs_at BX12_layHour_0 10 rfl)
theorem dX12_layHour_20 : decode cX12_layHour 20 = .ok (.iastore, 1) := dk_79 (bs_at BX12_layHour_0 11 rfl)
theorem dX12_layHour_21 : decode cX12_layHour 21 = .ok (.iconst 1, 1) := dk_4 (bs_at BX12_layHour_0 12 rfl)
theorem dX12_layHour_22 : decode cX12_layHour 22 = .ok (.istore 5, 2) := dk_54 5 (bs_at BX12_layHour_0 13 rfl)
theorem dX12_layHour_24 : decode cX12_layHour 24 = .ok (.iconst 0, 1) := dk_3 (bs_at BX12_layHour_0 14 rfl)
theorem dX12_layHour_25 : decode cX12_layHour 25 = .ok (.istore 6, 2) := dk_54 6 (bs_at BX12_layHour_0 15 rfl)
theorem dX12_layHour_27 : decode cX12_layHour 27 = .ok (.iload 6, 2) := dk_21 6 (bs_at BX12_layHour_0 16 rfl)
theorem dX12_layHour_29 : decode cX12_layHour 29 = .ok (.iconst 3, 1) := dk_6 (bs_at BX12_layHour_0 17 rfl)
theorem dX12_layHour_30 : decode cX12_layHour 30 = .ok (.if_icmp .ge 130, 3) := dk_162 0 130 (bs_at BX12_layHour_0 18 rfl) rfl
theorem dX12_layHour_33 : decode cX12_layHour 33 = .ok (.iload 5, 2) := dk_21 5 (bs_at BX12_layHour_0 19 rfl)
theorem dX12_layHour_35 : decode cX12_layHour 35 = .ok (.ifCond .eq 20, 3) := dk_153 0 20 (bs_at BX12_layHour_0 20 rfl) rfl
theorem dX12_layHour_38 : decode cX12_layHour 38 = .ok (.iload 6, 2) := dk_21 6 (bs_at BX12_layHour_0 21 rfl)
theorem dX12_layHour_40 : decode cX12_layHour 40 = .ok (.ifCond .eq 11, 3) := dk_153 0 11 (bs_at BX12_layHour_0 22 rfl) rfl
theorem dX12_layHour_43 : decode cX12_layHour 43 = .ok (.aload_n 0, 1) := dk_42 (bs_at BX12_layHour_0 23 rfl)
theorem BX12_layHour_44 : bsegs (ByteArray.data cX12_layHour |>.toList.drop 44) 44 [(44, [27]), (45, [182, 0, 207]), (48, [154, 0, 7]), (51, [4]), (52, [167, 0, 4]), (55, [3]), (56, [54, 5]), (58, [21, 6]), (60, [158, 0, 19]), (63, [21, 5]), (65, [153, 0, 14]), (68, [42]), (69, [42]), (70, [180, 0, 13]), (73, [6]), (74, [46]), (75, [27]), (76, [182, 1, 186]), (79, [16, 63]), (81, [28]), (82, [104]), (83, [6]), (84, [21, 4]), (86, [104])] = true := by decide +kernel
theorem dX12_layHour_44 : decode cX12_layHour 44 = .ok (.iload_n 1, 1) := dk_27 (bs_at BX12_layHour_44 0 rfl)
theorem dX12_layHour_45 : decode cX12_layHour 45 = .ok (.invokevirtual 207, 3) := dk_182 0 207 (bs_at BX12_layHour_44 1 rfl) rfl
theorem dX12_layHour_48 : decode cX12_layHour 48 = .ok (.ifCond .ne 7, 3) := dk_154 0 7 (bs_at BX12_layHour_44 2 rfl) rfl
theorem dX12_layHour_51 : decode cX12_layHour 51 = .ok (.iconst 1, 1) := dk_4 (bs_at BX12_layHour_44 3 rfl)
theorem dX12_layHour_52 : decode cX12_layHour 52 = .ok (.goto 4, 3) := dk_167 0 4 (bs_at BX12_layHour_44 4 rfl) rfl
theorem dX12_layHour_55 : decode cX12_layHour 55 = .ok (.iconst 0, 1) := dk_3 (bs_at BX12_layHour_44 5 rfl)
theorem dX12_layHour_56 : decode cX12_layHour 56 = .ok (.istore 5, 2) := dk_54 5 (bs_at BX12_layHour_44 6 rfl)
theorem dX12_layHour_58 : decode cX12_layHour 58 = .ok (.iload 6, 2) := dk_21 6 (bs_at BX12_layHour_44 7 rfl)
theorem dX12_layHour_60 : decode cX12_layHour 60 = .ok (.ifCond .le 19, 3) := dk_158 0 19 (bs_at BX12_layHour_44 8 rfl) rfl
theorem dX12_layHour_63 : decode cX12_layHour 63 = .ok (.iload 5, 2) := dk_21 5 (bs_at BX12_layHour_44 9 rfl)
theorem dX12_layHour_65 : decode cX12_layHour 65 = .ok (.ifCond .eq 14, 3) := dk_153 0 14 (bs_at BX12_layHour_44 10 rfl) rfl
theorem dX12_layHour_68 : decode cX12_layHour 68 = .ok (.aload_n 0, 1) := dk_42 (bs_at BX12_layHour_44 11 rfl)
theorem dX12_layHour_69 : decode cX12_layHour 69 = .ok (.aload_n 0, 1) := dk_42 (bs_at BX12_layHour_44 12 rfl)
theorem dX12_layHour_70 : decode cX12_layHour 70 = .ok (.getfield 13, 3) := dk_180 0 13 (bs_at BX12_layHour_44 13 rfl) rfl
theorem dX12_layHour_73 : decode cX12_layHour 73 = .ok (.iconst 3, 1) := dk_6 (bs_at BX12_layHour_44 14 rfl)
theorem dX12_layHour_74 : decode cX12_layHour 74 = .ok (.iaload, 1) := dk_46 (bs_at BX12_layHour_44 15 rfl)
theorem dX12_layHour_75 : decode cX12_layHour 75 = .ok (.iload_n 1, 1) := dk_27 (bs_at BX12_layHour_44 16 rfl)
theorem dX12_layHour_76 : decode cX12_layHour 76 = .ok (.invokevirtual 442, 3) := dk_182 1 186 (bs_at BX12_layHour_44 17 rfl) rfl
theorem dX12_layHour_79 : decode cX12_layHour 79 = .ok (.bipush 63, 2) := dk_16 63 (bs_at BX12_layHour_44 18 rfl) rfl
theorem dX12_layHour_81 : decode cX12_layHour 81 = .ok (.iload_n 2, 1) := dk_28 (bs_at BX12_layHour_44 19 rfl)
theorem dX12_layHour_82 : decode cX12_layHour 82 = .ok (.imul, 1) := dk_104 (bs_at BX12_layHour_44 20 rfl)
theorem dX12_layHour_83 : decode cX12_layHour 83 = .ok (.iconst 3, 1) := dk_6 (bs_at BX12_layHour_44 21 rfl)
theorem dX12_layHour_84 : decode cX12_layHour 84 = .ok (.iload 4, 2) := dk_21 4 (bs_at BX12_layHour_44 22 rfl)
theorem dX12_layHour_86 : decode cX12_layHour 86 = .ok (.imul, 1) := dk_104 (bs_at BX12_layHour_44 23 rfl)
theorem BX12_layHour_87 : bsegs (ByteArray.data cX12_layHour |>.toList.drop 87) 87 [(87, [96]), (88, [21, 6]), (90, [96]), (91, [54, 7]), (93, [42]), (94, [180, 0, 117]), (97, [21, 7]), (99, [21, 5]), (101, [153, 0, 16]), (104, [42]), (105, [27]), (106, [182, 0, 185]), (109, [29]), (110, [160, 0, 7]), (113, [4]), (114, [167, 0, 4]), (117, [3]), (118, [84]), (119, [42]), (120, [180, 0, 114]), (123, [21, 7]), (125, [42]), (126, [180, 0, 13]), (129, [16, 11])] = true := by decide +kernel
theorem dX12_layHour_87 : decode cX12_layHour 87 = .ok (.iadd, 1) := dk_96 (bs_at BX12_layHour_87 0 rfl)
theorem dX12_layHour_88 : decode cX12_layHour 88 = .ok (.iload 6, 2) := dk_21 6 (bs_at BX12_layHour_87 1 rfl)
theorem dX12_layHour_90 : decode cX12_layHour 90 = .ok (.iadd, 1) := dk_96 (bs_at BX12_layHour_87 2 rfl)
theorem dX12_layHour_91 : decode cX12_layHour 91 = .ok (.istore 7, 2) := dk_54 7 (bs_at BX12_layHour_87 3 rfl)
theorem dX12_layHour_93 : decode cX12_layHour 93 = .ok (.aload_n 0, 1) := dk_42 (bs_at BX12_layHour_87 4 rfl)
theorem dX12_layHour_94 : decode cX12_layHour 94 = .ok (.getfield 117, 3) := dk_180 0 117 (bs_at BX12_layHour_87 5 rfl) rfl
theorem dX12_layHour_97 : decode cX12_layHour 97 = .ok (.iload 7, 2) := dk_21 7 (bs_at BX12_layHour_87 6 rfl)
theorem dX12_layHour_99 : decode cX12_layHour 99 = .ok (.iload 5, 2) := dk_21 5 (bs_at BX12_layHour_87 7 rfl)
theorem dX12_layHour_101 : decode cX12_layHour 101 = .ok (.ifCond .eq 16, 3) := dk_153 0 16 (bs_at BX12_layHour_87 8 rfl) rfl
theorem dX12_layHour_104 : decode cX12_layHour 104 = .ok (.aload_n 0, 1) := dk_42 (bs_at BX12_layHour_87 9 rfl)
theorem dX12_layHour_105 : decode cX12_layHour 105 = .ok (.iload_n 1, 1) := dk_27 (bs_at BX12_layHour_87 10 rfl)
theorem dX12_layHour_106 : decode cX12_layHour 106 = .ok (.invokevirtual 185, 3) := dk_182 0 185 (bs_at BX12_layHour_87 11 rfl) rfl
theorem dX12_layHour_109 : decode cX12_layHour 109 = .ok (.iload_n 3, 1) := dk_29 (bs_at BX12_layHour_87 12 rfl)
theorem dX12_layHour_110 : decode cX12_layHour 110 = .ok (.if_icmp .ne 7, 3) := dk_160 0 7 (bs_at BX12_layHour_87 13 rfl) rfl
theorem dX12_layHour_113 : decode cX12_layHour 113 = .ok (.iconst 1, 1) := dk_4 (bs_at BX12_layHour_87 14 rfl)
theorem dX12_layHour_114 : decode cX12_layHour 114 = .ok (.goto 4, 3) := dk_167 0 4 (bs_at BX12_layHour_87 15 rfl) rfl
theorem dX12_layHour_117 : decode cX12_layHour 117 = .ok (.iconst 0, 1) := dk_3 (bs_at BX12_layHour_87 16 rfl)
theorem dX12_layHour_118 : decode cX12_layHour 118 = .ok (.bastore, 1) := dk_84 (bs_at BX12_layHour_87 17 rfl)
theorem dX12_layHour_119 : decode cX12_layHour 119 = .ok (.aload_n 0, 1) := dk_42 (bs_at BX12_layHour_87 18 rfl)
theorem dX12_layHour_120 : decode cX12_layHour 120 = .ok (.getfield 114, 3) := dk_180 0 114 (bs_at BX12_layHour_87 19 rfl) rfl
theorem dX12_layHour_123 : decode cX12_layHour 123 = .ok (.iload 7, 2) := dk_21 7 (bs_at BX12_layHour_87 20 rfl)
theorem dX12_layHour_125 : decode cX12_layHour 125 = .ok (.aload_n 0, 1) := dk_42 (bs_at BX12_layHour_87 21 rfl)
theorem dX12_layHour_126 : decode cX12_layHour 126 = .ok (.getfield 13, 3) := dk_180 0 13 (bs_at BX12_layHour_87 22 rfl) rfl
theorem dX12_layHour_129 : decode cX12_layHour 129 = .ok (.bipush 11, 2) := dk_16 11 (bs_at BX12_layHour_87 23 rfl) rfl
theorem BX12_layHour_131 : bsegs (ByteArray.data cX12_layHour |>.toList.drop 131) 131 [(131, [27]), (132, [96]), (133, [46]), (134, [42]), (135, [42]), (136, [180, 0, 13]), (139, [6]), (140, [46]), (141, [27]), (142, [182, 0, 200]), (145, [100]), (146, [133]), (147, [3]), (148, [16, 20]), (150, [184, 1, 163]), (153, [79]), (154, [132, 6, 1]), (157, [167, 255, 126]), (160, [132, 4, 1]), (163, [167, 255, 96]), (166, [177])] = true := by decide +kernel
theorem dX12_layHour_131 : decode cX12_layHour 131 = .ok (.iload_n 1, 1) := dk_27 (bs_at BX12_layHour_131 0 rfl)
theorem dX12_layHour_132 : decode cX12_layHour 132 = .ok (.iadd, 1) := dk_96 (bs_at BX12_layHour_131 1 rfl)
theorem dX12_layHour_133 : decode cX12_layHour 133 = .ok (.iaload, 1) := dk_46 (bs_at BX12_layHour_131 2 rfl)
theorem dX12_layHour_134 : decode cX12_layHour 134 = .ok (.aload_n 0, 1) := dk_42 (bs_at BX12_layHour_131 3 rfl)
theorem dX12_layHour_135 : decode cX12_layHour 135 = .ok (.aload_n 0, 1) := dk_42 (bs_at BX12_layHour_131 4 rfl)
theorem dX12_layHour_136 : decode cX12_layHour 136 = .ok (.getfield 13, 3) := dk_180 0 13 (bs_at BX12_layHour_131 5 rfl) rfl
theorem dX12_layHour_139 : decode cX12_layHour 139 = .ok (.iconst 3, 1) := dk_6 (bs_at BX12_layHour_131 6 rfl)
theorem dX12_layHour_140 : decode cX12_layHour 140 = .ok (.iaload, 1) := dk_46 (bs_at BX12_layHour_131 7 rfl)
theorem dX12_layHour_141 : decode cX12_layHour 141 = .ok (.iload_n 1, 1) := dk_27 (bs_at BX12_layHour_131 8 rfl)
theorem dX12_layHour_142 : decode cX12_layHour 142 = .ok (.invokevirtual 200, 3) := dk_182 0 200 (bs_at BX12_layHour_131 9 rfl) rfl
theorem dX12_layHour_145 : decode cX12_layHour 145 = .ok (.isub, 1) := dk_100 (bs_at BX12_layHour_131 10 rfl)
theorem dX12_layHour_146 : decode cX12_layHour 146 = .ok (.i2l, 1) := dk_133 (bs_at BX12_layHour_131 11 rfl)
theorem dX12_layHour_147 : decode cX12_layHour 147 = .ok (.iconst 0, 1) := dk_3 (bs_at BX12_layHour_131 12 rfl)
theorem dX12_layHour_148 : decode cX12_layHour 148 = .ok (.bipush 20, 2) := dk_16 20 (bs_at BX12_layHour_131 13 rfl) rfl
theorem dX12_layHour_150 : decode cX12_layHour 150 = .ok (.invokestatic 419, 3) := dk_184 1 163 (bs_at BX12_layHour_131 14 rfl) rfl
theorem dX12_layHour_153 : decode cX12_layHour 153 = .ok (.iastore, 1) := dk_79 (bs_at BX12_layHour_131 15 rfl)
theorem dX12_layHour_154 : decode cX12_layHour 154 = .ok (.iinc 6 1, 3) := dk_132 6 1 (bs_at BX12_layHour_131 16 rfl) rfl
theorem dX12_layHour_157 : decode cX12_layHour 157 = .ok (.goto (-130), 3) := dk_167 255 126 (bs_at BX12_layHour_131 17 rfl) rfl
theorem dX12_layHour_160 : decode cX12_layHour 160 = .ok (.iinc 4 1, 3) := dk_132 4 1 (bs_at BX12_layHour_131 18 rfl) rfl
theorem dX12_layHour_163 : decode cX12_layHour 163 = .ok (.goto (-160), 3) := dk_167 255 96 (bs_at BX12_layHour_131 19 rfl) rfl
theorem dX12_layHour_166 : decode cX12_layHour 166 = .ok (.return_, 1) := dk_177 (bs_at BX12_layHour_131 20 rfl)
theorem ggX12_coalBy_X12_within : GoodIn wsX12_coalBy wsX12_within := gi_ch ch_X12_coalBy ch_X12_within (by decide +kernel)
theorem gX12_coalBy_X12_within : GoodIn wsX12_coalBy (va_wsS RX12 419 yX12_within wsX12_within) := gi_ch ch_X12_coalBy (ch_s [1014, 1015, 156] rfl ch_X12_within) (by decide +kernel)
theorem ggX12_layHour_X12_burnsOf : GoodIn wsX12_layHour wsX12_burnsOf := gi_ch ch_X12_layHour ch_X12_burnsOf (by decide +kernel)
theorem gX12_layHour_X12_burnsOf : GoodIn wsX12_layHour (wsV RX12 200 RX12 yX12_burnsOf wsX12_burnsOf) := gi_ch ch_X12_layHour (ch_v [993, 994, 79, 156] rfl ch_X12_burnsOf) (by decide +kernel)
theorem ggX12_layHour_X12_within : GoodIn wsX12_layHour wsX12_within := gi_ch ch_X12_layHour ch_X12_within (by decide +kernel)
theorem gX12_layHour_X12_within : GoodIn wsX12_layHour (va_wsS RX12 419 yX12_within wsX12_within) := gi_ch ch_X12_layHour (ch_s [1014, 1015, 156] rfl ch_X12_within) (by decide +kernel)
theorem ggX12_layHour_X12_isSounding : GoodIn wsX12_layHour wsX12_isSounding := gi_ch ch_X12_layHour ch_X12_isSounding (by decide +kernel)
theorem gX12_layHour_X12_isSounding : GoodIn wsX12_layHour (wsV RX12 185 RX12 yX12_isSounding wsX12_isSounding) := gi_ch ch_X12_layHour (ch_v [987, 988, 77, 156] rfl ch_X12_isSounding) (by decide +kernel)
theorem ggX12_layHour_X12_flare : GoodIn wsX12_layHour wsX12_flare := gi_ch ch_X12_layHour ch_X12_flare (by decide +kernel)
theorem gX12_layHour_X12_flare : GoodIn wsX12_layHour (wsV RX12 442 RX12 yX12_flare wsX12_flare) := gi_ch ch_X12_layHour (ch_v [1214, 1215, 121, 156] rfl ch_X12_flare) (by decide +kernel)
theorem ggX12_layHour_X12_isBarred : GoodIn wsX12_layHour wsX12_isBarred := gi_ch ch_X12_layHour ch_X12_isBarred (by decide +kernel)
theorem gX12_layHour_X12_isBarred : GoodIn wsX12_layHour (wsV RX12 207 RX12 yX12_isBarred wsX12_isBarred) := gi_ch ch_X12_layHour (ch_v [1021, 1022, 86, 156] rfl ch_X12_isBarred) (by decide +kernel)
noncomputable def wi (v : Int) : Int := if v < 0 then 0 else if 100000000 < v then 100000000 else v
theorem wi_rng (v : Int) : 0 ≤ wi v ∧ wi v ≤ 100000000 := by
  unfold wi
  split
  · omega
  · split <;> omega
noncomputable def cbv (fi ft fl : Nat → Int32) (k f n : Int) : Int := if fi (63 * k + 3 * f + n).toNat = 0 then 100000000 else wi (n + (fl (21 * (k + 1) + (ft (63 * k + 3 * f + n).toNat).toInt).toNat).toInt)
theorem cbv_rng (fi ft fl : Nat → Int32) (k f n : Int) : 0 ≤ cbv fi ft fl k f n ∧ cbv fi ft fl k f n ≤ 100000000 := by
  unfold cbv
  split
  · omega
  · exact wi_rng _
noncomputable def Mn (fi ft fl : Nat → Int32) (k f m v : Int) : Prop := (v = 100000000 ∨ ∃ m', 0 ≤ m' ∧ m' < m ∧ v = cbv fi ft fl k f m') ∧ ∀ m', 0 ≤ m' → m' < m → v ≤ cbv fi ft fl k f m'
theorem Mn.base {fi ft fl : Nat → Int32} {k f : Int} : Mn fi ft fl k f 0 100000000 := ⟨Or.inl rfl, fun m' h1 h2 => absurd h2 (by omega)⟩
theorem Mn.lt {fi ft fl : Nat → Int32} {k f m v r : Int} (h : Mn fi ft fl k f m v) (hm : 0 ≤ m) (hr : r = cbv fi ft fl k f m) (hl : r < v) : Mn fi ft fl k f (m + 1) r := by
  refine ⟨Or.inr ⟨m, hm, by omega, hr⟩, fun m' h1 h2 => ?_⟩
  by_cases e : m' = m
  · subst e; omega
  · have := h.2 m' h1 (by omega)
    omega
theorem Mn.ge {fi ft fl : Nat → Int32} {k f m v r : Int} (h : Mn fi ft fl k f m v) (hr : r = cbv fi ft fl k f m) (hl : v ≤ r) : Mn fi ft fl k f (m + 1) v := by
  refine ⟨?_, fun m' h1 h2 => ?_⟩
  · rcases h.1 with e | ⟨m', h1, h2, h3⟩
    · exact Or.inl e
    · exact Or.inr ⟨m', h1, by omega, h3⟩
  · by_cases e : m' = m
    · subst e; omega
    · exact h.2 m' h1 (by omega)
theorem Mn.fin {fi ft fl : Nat → Int32} {k f v : Int} (h : Mn fi ft fl k f 3 v) : ∃ m', 0 ≤ m' ∧ m' ≤ 2 ∧ v = cbv fi ft fl k f m' := by
  rcases h.1 with e | ⟨m', h1, h2, h3⟩
  · have h0 := h.2 0 (by omega) (by omega)
    have hr := cbv_rng fi ft fl k f 0
    exact ⟨0, by omega, by omega, by omega⟩
  · exact ⟨m', h1, by omega, h3⟩
noncomputable def LOK (fi ft fl : Nat → Int32) (k0 f0 n : Int) : Prop := ∀ k f : Int, 0 ≤ k → k < n → 0 ≤ f → f ≤ 20 → (k0 < k ∨ (k = k0 ∧ f < f0)) → ∃ m : Int, 0 ≤ m ∧ m ≤ 2 ∧ (fl (21 * k + f).toNat).toInt = cbv fi ft fl k f m
theorem LOK.base {fi ft fl : Nat → Int32} {k0 n : Int} (h : k0 + 1 = n) : LOK fi ft fl k0 0 n := fun k f h1 h2 h3 h4 h5 => absurd h5 (by omega)
theorem LOK.down {fi ft fl : Nat → Int32} {k0 f0 n : Int} (h : LOK fi ft fl k0 f0 n) (hf : 20 < f0) : LOK fi ft fl (k0 - 1) 0 n := fun k f h1 h2 h3 h4 h5 => h k f h1 h2 h3 h4 (by omega)
theorem LOK.put {fi ft fl : Nat → Int32} {k0 f0 n : Int} {v : Int32} (h : LOK fi ft fl k0 f0 n) (hk : 0 ≤ k0 ∧ n ≤ 12) (hf : 0 ≤ f0 ∧ f0 ≤ 20) (ht : Rg 819 0 20 ft) (hv : ∃ m', 0 ≤ m' ∧ m' ≤ 2 ∧ v.toInt = cbv fi ft fl k0 f0 m') : LOK fi ft (upd fl (21 * k0 + f0).toNat v) k0 (f0 + 1) n := by
  intro k f h1 h2 h3 h4 h5
  have same : ∀ m, 0 ≤ m → m ≤ 2 → cbv fi ft (upd fl (21 * k0 + f0).toNat v) k f m = cbv fi ft fl k f m := by
    intro m m1 m2
    unfold cbv
    have hr := ht (63 * k + 3 * f + m).toNat (by omega)
    rw [pk_un (show ¬ (21 * (k + 1) + (ft (63 * k + 3 * f + m).toNat).toInt).toNat = (21 * k0 + f0).toNat by omega)]
  by_cases e : k = k0 ∧ f = f0
  · obtain ⟨rfl, rfl⟩ := e
    obtain ⟨m', m1, m2, m3⟩ := hv
    exact ⟨m', m1, m2, by rw [pk_us, same m' m1 m2]; exact m3⟩
  · obtain ⟨m, m1, m2, m3⟩ := h k f h1 h2 h3 h4 (by omega)
    exact ⟨m, m1, m2, by rw [pk_un (show ¬ (21 * k + f).toNat = (21 * k0 + f0).toNat by omega), same m m1 m2]; exact m3⟩
noncomputable def WLe (fi ft fl : Nat → Int32) (k f i : Int) : Prop := ∃ m, i ≤ m ∧ 0 ≤ i ∧ m ≤ 2 ∧ (fl (21 * k + f).toNat).toInt = cbv fi ft fl k f m
theorem WLe.base {fi ft fl : Nat → Int32} {k f n : Int} (h : LOK fi ft fl (-1) 0 n) (hk : 0 ≤ k ∧ k < n) (hf : 0 ≤ f ∧ f ≤ 20) : WLe fi ft fl k f 0 := by
  obtain ⟨m, m1, m2, m3⟩ := h k f hk.1 hk.2 hf.1 hf.2 (by omega)
  exact ⟨m, m1, by omega, m2, m3⟩
theorem WLe.next {fi ft fl : Nat → Int32} {k f i r x : Int} (h : WLe fi ft fl k f i) (hr : r = cbv fi ft fl k f i) (hx : x = (fl (21 * k + f).toNat).toInt) (hn : r ≠ x) : i + 1 ≤ 2 ∧ WLe fi ft fl k f (i + 1) := by
  obtain ⟨m, m1, m0, m2, m3⟩ := h
  have : i ≠ m := fun e => hn (by rw [hr, hx, m3, e])
  exact ⟨by omega, m, by omega, by omega, m2, m3⟩
set_option maxRecDepth 100000 in
noncomputable def E_v_withinX (x : Int64) : Int32 :=
  if 0 ≤ (lg_cmp x 0) then (if (lg_cmp x 100000000) ≤ 0 then (Lt ((x : Int64).toInt32 : Int32) (fun x_66 => (x_66 : Int32))) else ((100000000 : Int32))) else ((0 : Int32))
set_option maxHeartbeats 4000000 in
set_option maxRecDepth 100000 in
theorem v_withinX (l : Launch) (D : va_G) (K : Nat → ClassId) (x : Int64) (sz : Nat) : Met l yX12_within wsX12_within ({ frames := 0, cells := 0, slots := 0, locals := 0 }) (va_Pc [.long x, .int 0, .int 100000000] (Pre D K [] sz)) (vp_Si (fun r : Int32 => (r.toInt = wi x.toInt ∧ True) ∧ r = E_v_withinX x)) 0 0 (fun _ => False) := by
  refine Met.ofW (cc := cX12_within) (maxL := 4) (ret := (some .int)) (by decide +kernel) rfl ?_
  intro p e s m args below meth c s₁ B hml hv
  obtain ⟨rfl, hsz, hP, hK, hD0, hN⟩ := hv
  have hx := B.exec
  have hb := B.bytes
  have hr := B.returns
  have hts := atoms_spec (ws := wsX12_within) B.pre
  have hown : s.vm.findClass RX12 = some m.cls := findClass_of_methodNamed B.named
  have hlocks := B.notSynchronized
  subst hsz
  have hD := hD0
  replace hP : va_P D vwCl [] s.heap := hP
  have hl := lv_entry [.long x, .int 0, .int 100000000] (n := 4) (Nat.le_of_ble_eq_true rfl)
  rw [lg_entry_eq]
  generalize (lg_sl [.long x, .int 0, .int 100000000] ++ List.replicate (4 - (lg_sl [.long x, .int 0, .int 100000000]).length) Slot.unset).toArray = ls at hl ⊢
  have hl : lv_has ls 4 [(0, .long x), (2, .int 0), (3, .int 100000000)] := hl
  generalize hQ : MQ below _ _ s _ _ _ = Q
  have hE := E_v_withinX.eq_def x
  refine lv_lload_n hx hb dX12_within_0 rfl (lv_at hl 0 rfl) (lv_iload_n hx hb dX12_within_1 rfl (lv_at hl 1 rfl) (lv_i2l (v := 0) hx hb dX12_within_2 (by decide +kernel) ?_))
  refine W.lcmp hx hb dX12_within_3 ?_
  refine lv_if_ge (tgt := 11) hx hb dX12_within_4 (by decide +kernel) (fun c_64 => ?_) (fun c_64 => ?_)
  · have c_64i := l_le (x := 0) (y := x.toInt) rfl rfl ((lg_cmp_ge x 0).mp c_64)
    replace hE := hE.trans (if_pos c_64)
    refine lv_lload_n hx hb dX12_within_11 rfl (lv_at hl 0 rfl) (lv_iload_n hx hb dX12_within_12 rfl (lv_at hl 2 rfl) (lv_i2l (v := 100000000) hx hb dX12_within_13 (by decide +kernel) ?_))
    refine W.lcmp hx hb dX12_within_14 ?_
    refine lv_if_le (tgt := 22) hx hb dX12_within_15 (by decide +kernel) (fun c_65 => ?_) (fun c_65 => ?_)
    · have c_65i := l_le (x := x.toInt) (y := 100000000) rfl rfl ((lg_cmp_le x 100000000).mp c_65)
      replace hE := hE.trans (if_pos c_65)
      refine lv_lload_n hx hb dX12_within_22 rfl (lv_at hl 0 rfl) (lv_l2i hx hb dX12_within_23 rfl (lv_topi (fun x_66 ex_66 => ?_)))
      replace hE := hE.trans (Lt_in ex_66)
      have hx_66 : x_66.toInt = x.toInt := by rw [ex_66]; exact l_nar rfl (by omega)
      rw [← hQ]
      exact W.iret (v := x_66) hx hb hr (fun t ht hW => ⟨_, rfl, ⟨⟨(by show x_66.toInt = wi x.toInt; rw [hx_66]; unfold wi; (repeat' split) <;> omega), trivial⟩, hE.symm⟩, ht⟩) (fun q hq => by cases hq) dX12_within_24
    · have c_65i := l_nle (x := x.toInt) (y := 100000000) rfl rfl (fun q => c_65 ((lg_cmp_le x 100000000).mpr q))
      replace hE := hE.trans (if_neg c_65)
      refine lv_iload_n hx hb dX12_within_18 rfl (lv_at hl 2 rfl) (lv_goto (tgt := 24) hx hb dX12_within_19 (by decide +kernel) ?_)
      rw [← hQ]
      exact W.iret (v := 100000000) hx hb hr (fun t ht hW => ⟨_, rfl, ⟨⟨(by show (100000000 : Int) = wi x.toInt; unfold wi; (repeat' split) <;> omega), trivial⟩, hE.symm⟩, ht⟩) (fun q hq => by cases hq) dX12_within_24
  · have c_64i := l_nle (x := 0) (y := x.toInt) rfl rfl (fun q => c_64 ((lg_cmp_ge x 0).mpr q))
    replace hE := hE.trans (if_neg c_64)
    refine lv_iload_n hx hb dX12_within_7 rfl (lv_at hl 1 rfl) (lv_goto (tgt := 24) hx hb dX12_within_8 (by decide +kernel) ?_)
    rw [← hQ]
    exact W.iret (v := 0) hx hb hr (fun t ht hW => ⟨_, rfl, ⟨⟨(by show (0 : Int) = wi x.toInt; unfold wi; (repeat' split) <;> omega), trivial⟩, hE.symm⟩, ht⟩) (fun q hq => by cases hq) dX12_within_24
set_option maxRecDepth 100000 in
noncomputable def E_v_coalBy (x : Int32) (y : Int32) (z : Int32) (fi : Nat → Int32) (ft : Nat → Int32) (fl : Nat → Int32) : Int32 :=
  Lt (63 * x : Int32) (fun x_93 => Lt (3 * y : Int32) (fun x_94 => Lt (x_93 + x_94 : Int32) (fun x_95 => Lt (x_95 + z : Int32) (fun x_96 => Lt (fi (x_96 : Int32).toNatClampNeg : Int32) (fun x_97 => if x_97 = 0 then ((100000000 : Int32)) else (Lt ((z : Int32).toInt64 : Int64) (fun x_99 => Lt (x + 1 : Int32) (fun x_100 => Lt (21 * x_100 : Int32) (fun x_101 => Lt (ft (x_96 : Int32).toNatClampNeg : Int32) (fun x_102 => Lt (x_101 + x_102 : Int32) (fun x_103 => Lt (fl (x_103 : Int32).toNatClampNeg : Int32) (fun x_104 => Lt ((x_104 : Int32).toInt64 : Int64) (fun x_105 => Lt (x_99 + x_105 : Int64) (fun x_106 => Lt (E_v_withinX x_106) (fun r_107 => (r_107 : Int32))))))))))))))))
set_option maxHeartbeats 4000000 in
set_option maxRecDepth 100000 in
theorem v_coalBy (l : Launch) (D : va_G) (K : Nat → ClassId) (m0 : Nat) (x : Int32) (y : Int32) (z : Int32) (m_0 : Value) (m_1 : Value) (m_2 : Value) (m_3 : Value) (m_4 : Value) (m_5 : Value) (m_6 : Value) (m_7 : Value) (m_8 : Value) (m_9 : Value) (m_10 : Value) (m_11 : Value) (m_12 : Value) (m_13 : Value) (m_14 : Value) (m_15 : Value) (m_16 : Value) (m_17 : Value) (m_18 : Value) (m_19 : Value) (m_20 : Value) (m_21 : Value) (m_22 : Value) (m_23 : Value) (m_24 : Value) (m_25 : Value) (m_26 : Value) (m_27 : Value) (m_28 : Value) (m_29 : Value) (m_30 : Value) (m_31 : Value) (m_32 : Value) (m_33 : Value) (m_34 : Value) (m_35 : Value) (m_36 : Value) (m_37 : Value) (m_38 : Value) (m_39 : Value) (m_40 : Value) (m_41 : Value) (le : Nat) (tf : Nat) (i3 : Nat) (m_45 : Value) (m_46 : Value) (m_47 : Value) (m_48 : Value) (m_49 : Value) (m_50 : Value) (m_51 : Value) (m_52 : Value) (m_53 : Value) (m_54 : Value) (m_55 : Value) (m_56 : Value) (m_57 : Value) (m_58 : Value) (m_59 : Value) (fi : Nat → Int32) (ft : Nat → Int32) (fl : Nat → Int32) (sz : Nat) (zx : 0 ≤ x.toInt ∧ x.toInt ≤ 11) (zy : 0 ≤ y.toInt ∧ y.toInt ≤ 20) (zz : 0 ≤ z.toInt ∧ z.toInt ≤ 2) (zft : Rg 819 0 20 ft) : Met l yX12_coalBy wsX12_coalBy ({ frames := 1, cells := 0, slots := 0, locals := 23 }) (va_Pc [.ref m0, .int x, .int y, .int z] (Pre D K [(cc_O m0 12 [m_0, m_1, m_2, m_3, m_4, m_5, m_6, m_7, m_8, m_9, m_10, m_11, m_12, m_13, m_14, m_15, m_16, m_17, m_18, m_19, m_20, m_21, m_22, m_23, m_24, m_25, m_26, m_27, m_28, m_29, m_30, m_31, m_32, m_33, m_34, m_35, m_36, m_37, m_38, m_39, m_40, m_41, .ref le, .ref tf, .ref i3, m_45, m_46, m_47, m_48, m_49, m_50, m_51, m_52, m_53, m_54, m_55, m_56, m_57, m_58, m_59]), (cc_l i3 (K 1) 819 fi), (cc_l tf (K 0) 819 ft), (cc_l le (K 0) 273 fl)] sz)) (vp_Si (fun r : Int32 => ((r.toInt = cbv fi ft fl x.toInt y.toInt z.toInt ∧ 0 ≤ r.toInt ∧ r.toInt ≤ 100000000) ∧ True) ∧ r = E_v_coalBy x y z fi ft fl)) 0 0 (fun _ => False) := by
  refine Met.ofW (cc := cX12_coalBy) (maxL := 5) (ret := (some .int)) (by decide +kernel) rfl ?_
  intro p e s m args below meth c s₁ B hml hv
  obtain ⟨rfl, hsz, hP, hK, hD0, hN⟩ := hv
  have hx := B.exec
  have hb := B.bytes
  have hr := B.returns
  have hts := atoms_spec (ws := wsX12_coalBy) B.pre
  have hown : s.vm.findClass RX12 = some m.cls := findClass_of_methodNamed B.named
  have hlocks := B.notSynchronized
  subst hsz
  have hD := hD0
  replace hP : va_P D vwCl [(cc_O m0 12 [m_0, m_1, m_2, m_3, m_4, m_5, m_6, m_7, m_8, m_9, m_10, m_11, m_12, m_13, m_14, m_15, m_16, m_17, m_18, m_19, m_20, m_21, m_22, m_23, m_24, m_25, m_26, m_27, m_28, m_29, m_30, m_31, m_32, m_33, m_34, m_35, m_36, m_37, m_38, m_39, m_40, m_41, .ref le, .ref tf, .ref i3, m_45, m_46, m_47, m_48, m_49, m_50, m_51, m_52, m_53, m_54, m_55, m_56, m_57, m_58, m_59]), (cc_l i3 (K 1) 819 fi), (cc_l tf (K 0) 819 ft), (cc_l le (K 0) 273 fl)] s.heap := hP
  have hl := lv_entry [.ref m0, .int x, .int y, .int z] (n := 5) (Nat.le_of_ble_eq_true rfl)
  rw [lg_entry_eq]
  generalize (lg_sl [.ref m0, .int x, .int y, .int z] ++ List.replicate (5 - (lg_sl [.ref m0, .int x, .int y, .int z]).length) Slot.unset).toArray = ls at hl ⊢
  have hl : lv_has ls 5 [(0, .ref m0), (1, .int x), (2, .int y), (3, .int z)] := hl
  have hw12 : ∀ w ∈ wsX120, w ∈ wsX12_coalBy := fun w h => (List.mem_cons_of_mem _ (List.mem_append_right _ h))
  generalize hQ : MQ below _ _ s _ _ _ = Q
  have hE := E_v_coalBy.eq_def x y z fi ft fl
  refine lv_bipush (v := 63) hx hb dX12_coalBy_0 (by decide +kernel) (lv_iload_n hx hb dX12_coalBy_2 rfl (lv_at hl 1 rfl) (lv_imul hx hb dX12_coalBy_3 (lv_topi (fun x_93 ex_93 => ?_))))
  replace hE := hE.trans (Lt_in ex_93)
  have hx_93 : x_93.toInt = (63 * x.toInt) := by rw [ex_93]; exact i_mul (show (63 : Int32).toInt = 63 from rfl) rfl (by omega)
  refine lv_iconst (v := 3) hx hb dX12_coalBy_4 (by decide +kernel) (lv_iload_n hx hb dX12_coalBy_5 rfl (lv_at hl 2 rfl) (lv_imul hx hb dX12_coalBy_6 (lv_topi (fun x_94 ex_94 => ?_))))
  replace hE := hE.trans (Lt_in ex_94)
  have hx_94 : x_94.toInt = (3 * y.toInt) := by rw [ex_94]; exact i_mul (show (3 : Int32).toInt = 3 from rfl) rfl (by omega)
  refine lv_iadd hx hb dX12_coalBy_7 (lv_topi (fun x_95 ex_95 => ?_))
  replace hE := hE.trans (Lt_in ex_95)
  have hx_95 : x_95.toInt = ((63 * x.toInt) + (3 * y.toInt)) := by rw [ex_95]; exact i_add hx_93 hx_94 (by omega)
  refine lv_iload_n hx hb dX12_coalBy_8 rfl (lv_at hl 3 rfl) (lv_iadd hx hb dX12_coalBy_9 (lv_topi (fun x_96 ex_96 => ?_)))
  replace hE := hE.trans (Lt_in ex_96)
  have hx_96 : x_96.toInt = (((63 * x.toInt) + (3 * y.toInt)) + z.toInt) := by rw [ex_96]; exact i_add hx_95 rfl (by omega)
  refine lv_istore (lv' := [(4, .int x_96), (0, .ref m0), (1, .int x), (2, .int y), (3, .int z)]) hx hb dX12_coalBy_10 hl (by decide +kernel) rfl (fun ls hl => ?_)
  refine lv_aload_n hx hb dX12_coalBy_12 rfl (lv_at hl 1 rfl) (va_get (ci := 12) (v := .ref i3) (C := RX12) (T := TX12) (N := 60) hx hb hts hw12 hown hK hP 0 rfl rfl 44 (by decide +kernel) (hts _ mm_X12_coalBy_874) (fun _ h9 => h9) rfl dX12_coalBy_13 (lv_iload hx hb dX12_coalBy_16 (lv_at hl 0 rfl) (va_zald hx hb hK hP 1 1 rfl rfl (i_in hx_96 (by omega)) dX12_coalBy_18 (lv_topi (fun x_97 ex_97 => ?_)))))
  replace hE := hE.trans (Lt_in ex_97)
  refine lv_if_ne (tgt := 28) hx hb dX12_coalBy_19 (by decide +kernel) (fun c_98 => ?_) (fun c_98 => ?_)
  · have c_98i := i_ne (x := x_97.toInt) (y := 0) rfl rfl c_98
    replace hE := hE.trans (if_neg c_98)
    refine lv_iload_n hx hb dX12_coalBy_28 rfl (lv_at hl 4 rfl) (lv_i2l hx hb dX12_coalBy_29 rfl (lv_topl (fun x_99 ex_99 => ?_)))
    replace hE := hE.trans (Lt_in ex_99)
    have hx_99 : x_99.toInt = z.toInt := by rw [ex_99]; exact i_wide rfl
    refine lv_aload_n hx hb dX12_coalBy_30 rfl (lv_at hl 1 rfl) (va_get (ci := 12) (v := .ref le) (C := RX12) (T := TX12) (N := 60) hx hb hts hw12 hown hK hP 0 rfl rfl 42 (by decide +kernel) (hts _ mm_X12_coalBy_872) (fun _ h9 => h9) rfl dX12_coalBy_31 (lv_bipush (v := 21) hx hb dX12_coalBy_34 (by decide +kernel) (lv_iload_n hx hb dX12_coalBy_36 rfl (lv_at hl 2 rfl) (lv_iconst (v := 1) hx hb dX12_coalBy_37 (by decide +kernel) (lv_iadd hx hb dX12_coalBy_38 (lv_topi (fun x_100 ex_100 => ?_)))))))
    replace hE := hE.trans (Lt_in ex_100)
    have hx_100 : x_100.toInt = (x.toInt + 1) := by rw [ex_100]; exact i_add rfl (show (1 : Int32).toInt = 1 from rfl) (by omega)
    refine lv_imul hx hb dX12_coalBy_39 (lv_topi (fun x_101 ex_101 => ?_))
    replace hE := hE.trans (Lt_in ex_101)
    have hx_101 : x_101.toInt = (21 * (x.toInt + 1)) := by rw [ex_101]; exact i_mul (show (21 : Int32).toInt = 21 from rfl) hx_100 (by omega)
    refine lv_aload_n hx hb dX12_coalBy_40 rfl (lv_at hl 1 rfl) (va_get (ci := 12) (v := .ref tf) (C := RX12) (T := TX12) (N := 60) hx hb hts hw12 hown hK hP 0 rfl rfl 43 (by decide +kernel) (hts _ mm_X12_coalBy_873) (fun _ h9 => h9) rfl dX12_coalBy_41 (lv_iload hx hb dX12_coalBy_44 (lv_at hl 0 rfl) (va_iald hx hb hK hP 2 0 rfl rfl (i_in hx_96 (by omega)) dX12_coalBy_46 (lv_topi (fun x_102 ex_102 => ?_)))))
    replace hE := hE.trans (Lt_in ex_102)
    have hx_102 := Rg.at zft hx_96 (show 0 ≤ (((63 * x.toInt) + (3 * y.toInt)) + z.toInt) ∧ (((63 * x.toInt) + (3 * y.toInt)) + z.toInt) < _ by omega)
    rw [← ex_102] at hx_102
    refine lv_iadd hx hb dX12_coalBy_47 (lv_topi (fun x_103 ex_103 => ?_))
    replace hE := hE.trans (Lt_in ex_103)
    have hx_103 : x_103.toInt = ((21 * (x.toInt + 1)) + x_102.toInt) := by rw [ex_103]; exact i_add hx_101 rfl (by omega)
    refine va_iald hx hb hK hP 3 0 rfl rfl (i_in hx_103 (by omega)) dX12_coalBy_48 (lv_topi (fun x_104 ex_104 => ?_))
    replace hE := hE.trans (Lt_in ex_104)
    refine lv_i2l hx hb dX12_coalBy_49 rfl (lv_topl (fun x_105 ex_105 => ?_))
    replace hE := hE.trans (Lt_in ex_105)
    have hx_105 : x_105.toInt = x_104.toInt := by rw [ex_105]; exact i_wide rfl
    have hbx_105 := i_rng (a := x_104) rfl
    refine lv_ladd hx hb dX12_coalBy_50 (lv_topl (fun x_106 ex_106 => ?_))
    replace hE := hE.trans (Lt_in ex_106)
    have hx_106 : x_106.toInt = (z.toInt + x_104.toInt) := by rw [ex_106]; exact l_add hx_99 hx_105 (by omega)
    refine lv_iconst (v := 0) hx hb dX12_coalBy_51 (by decide +kernel) (lv_ldcw (v := 100000000) hx hb hown (hts _ mm_X12_coalBy_1262) dX12_coalBy_52 (pci (va_runS (As := [.long x_106, .int 0, .int 100000000]) (rest := []) ⟨hx, hb, hml, hown, hts⟩ (v_withinX l D K x_106 s.heap.size) (va_cwS 3 hts gX12_coalBy_X12_within rfl rfl rfl (by decide +kernel) ⟨Nat.le_of_ble_eq_true rfl, Nat.le_of_ble_eq_true rfl⟩) (mkS hK hN (va_P.nil) (va_D.nil (A := fun _ => True))) rfl rfl hl.1 rfl (lv_room (Nat.le_of_ble_eq_true rfl)) dX12_coalBy_55 ⟨Nat.le_of_ble_eq_true rfl, Nat.le_of_ble_eq_true rfl⟩) (fun r_107 hw => ?_)))
    obtain ⟨hw, k_108⟩ := hw
    replace hE := hE.trans (Lt_in k_108)
    obtain ⟨hwi_r_107, -⟩ := hw
    rw [← hQ]
    have q0 : x_97 = fi ((((63 * x.toInt) + (3 * y.toInt)) + z.toInt)).toNat := by rw [ex_97, i_clamp hx_96]
    have q1 : x_102 = ft ((((63 * x.toInt) + (3 * y.toInt)) + z.toInt)).toNat := by rw [ex_102, i_clamp hx_96]
    have q2 : x_104 = fl (21 * (x.toInt + 1) + (ft ((((63 * x.toInt) + (3 * y.toInt)) + z.toInt)).toNat).toInt).toNat := by rw [ex_104, i_clamp hx_103, ← q1]
    have q3 : r_107.toInt = cbv fi ft fl x.toInt y.toInt z.toInt := by
      unfold cbv
      have q9 : ¬ (fi ((((63 * x.toInt) + (3 * y.toInt)) + z.toInt)).toNat = 0) := fun h9 => absurd (show x_97.toInt = 0 by rw [q0, h9]; rfl) (by omega)
      rw [if_neg q9, ← q2, hwi_r_107, hx_106]
    exact W.iret (v := r_107) hx hb hr (fun t ht hW => ⟨_, rfl, ⟨⟨⟨q3, by rw [q3]; exact cbv_rng _ _ _ _ _ _⟩, trivial⟩, hE.symm⟩, ht⟩) (fun q hq => by cases hq) dX12_coalBy_58
  · have c_98i := i_eq (x := x_97.toInt) (y := 0) rfl rfl c_98
    replace hE := hE.trans (if_pos c_98)
    refine lv_ldcw (v := 100000000) hx hb hown (hts _ mm_X12_coalBy_1262) dX12_coalBy_22 (lv_goto (tgt := 58) hx hb dX12_coalBy_25 (by decide +kernel) ?_)
    rw [← hQ]
    have q0 : x_97 = fi ((((63 * x.toInt) + (3 * y.toInt)) + z.toInt)).toNat := by rw [ex_97, i_clamp hx_96]
    exact W.iret (v := 100000000) hx hb hr (fun t ht hW => ⟨_, rfl, ⟨⟨(show (100000000 : Int) = cbv fi ft fl x.toInt y.toInt z.toInt ∧ (0 : Int) ≤ 100000000 ∧ (100000000 : Int) ≤ 100000000 from ⟨by unfold cbv; rw [if_pos (by rw [← q0]; exact i_lit (b := 0) (show x_97.toInt = 0 by omega) rfl)], by decide, by decide⟩), trivial⟩, hE.symm⟩, ht⟩) (fun q hq => by cases hq) dX12_coalBy_58
set_option maxRecDepth 100000 in
noncomputable def E_v_layHour_j79 (x : Int32) (y : Int32) (z : Int32) (v_26094 : Int32) (v_29763 : Int32) (f_29772 : Nat → Int32) (f_29773 : Nat → Int32) (rec_30215 : Int32 → Int32 → Int32 → Int32 → Int64 → Int64 → (Nat → Int32) → (Nat → Int64) → (Nat → Int64) → (Nat → Int32) → (Nat → Int32) → (Int32 × Int32 × Int64 × Int64 × (Nat → Int32) × (Nat → Int64) × (Nat → Int64) × (Nat → Int32) × (Nat → Int32))) (v_30267 : Int32) (v_30268 : Int32) (v_30269 : Int32) (v_30270 : Int64) (v_30271 : Int64) (f_30272 : Nat → Int32) (f_30273 : Nat → Int64) (f_30274 : Nat → Int64) : Int32 × Int32 × Int64 × Int64 × (Nat → Int32) × (Nat → Int64) × (Nat → Int64) × (Nat → Int32) × (Nat → Int32) :=
  Lt (63 * y : Int32) (fun x_30333 => Lt (3 * v_26094 : Int32) (fun x_30334 => Lt (x_30333 + x_30334 : Int32) (fun x_30335 => Lt (x_30335 + v_29763 : Int32) (fun x_30336 => if v_30267 = 0 then (Lt (upd f_29772 (x_30336 : Int32).toNatClampNeg (vp_nar .boolean 0) : Nat → Int32) (fun f_30338 => Lt (11 + x : Int32) (fun x_30339 => Lt (f_30272 (x_30339 : Int32).toNatClampNeg : Int32) (fun x_30340 => Lt (f_30272 (3 : Int32).toNatClampNeg : Int32) (fun x_30341 => Lt2 (E_v_burnsOf x_30341 x v_30268 v_30269 v_30270 v_30271 f_30272 f_30273 f_30274) (fun r_30342 q0_r_30342 => Lt2 q0_r_30342 (fun u_30343_2_2_2_1_0 q1_u_30343_2_2_2_1_0 => Lt2 q1_u_30343_2_2_2_1_0 (fun u_30343_2_2_2_1_1 q2_u_30343_2_2_2_1_1 => Lt2 q2_u_30343_2_2_2_1_1 (fun u_30343_2_2_2_2_1_0 q3_u_30343_2_2_2_2_1_0 => Lt2 q3_u_30343_2_2_2_2_1_0 (fun u_30343_2_2_2_2_1_1 q4_u_30343_2_2_2_2_1_1 => Lt2 q4_u_30343_2_2_2_2_1_1 (fun u_30343_2_2_1_0 u_30343_2_2_1_1 => Lt (x_30340 - r_30342 : Int32) (fun x_30347 => Lt ((x_30347 : Int32).toInt64 : Int64) (fun x_30348 => Lt (E_v_within_20 x_30348) (fun r_30349 => Lt (upd f_29773 (x_30336 : Int32).toNatClampNeg r_30349 : Nat → Int32) (fun f_30352 => Lt (v_29763 + Int32.ofInt 1 : Int32) (fun x_30353 => rec_30215 x_30353 v_30267 u_30343_2_2_2_1_0 u_30343_2_2_2_1_1 u_30343_2_2_2_2_1_0 u_30343_2_2_2_2_1_1 f_30272 u_30343_2_2_1_0 u_30343_2_2_1_1 f_30338 f_30352)))))))))))))))) else (Lt (E_v_isSounding x f_30272) (fun r_30354 => if r_30354 = z then (Lt (upd f_29772 (x_30336 : Int32).toNatClampNeg (vp_nar .boolean 1) : Nat → Int32) (fun f_30374 => Lt (11 + x : Int32) (fun x_30375 => Lt (f_30272 (x_30375 : Int32).toNatClampNeg : Int32) (fun x_30376 => Lt (f_30272 (3 : Int32).toNatClampNeg : Int32) (fun x_30377 => Lt2 (E_v_burnsOf x_30377 x v_30268 v_30269 v_30270 v_30271 f_30272 f_30273 f_30274) (fun r_30378 q0_r_30378 => Lt2 q0_r_30378 (fun u_30379_2_2_2_1_0 q1_u_30379_2_2_2_1_0 => Lt2 q1_u_30379_2_2_2_1_0 (fun u_30379_2_2_2_1_1 q2_u_30379_2_2_2_1_1 => Lt2 q2_u_30379_2_2_2_1_1 (fun u_30379_2_2_2_2_1_0 q3_u_30379_2_2_2_2_1_0 => Lt2 q3_u_30379_2_2_2_2_1_0 (fun u_30379_2_2_2_2_1_1 q4_u_30379_2_2_2_2_1_1 => Lt2 q4_u_30379_2_2_2_2_1_1 (fun u_30379_2_2_1_0 u_30379_2_2_1_1 => Lt (x_30376 - r_30378 : Int32) (fun x_30383 => Lt ((x_30383 : Int32).toInt64 : Int64) (fun x_30384 => Lt (E_v_within_20 x_30384) (fun r_30385 => Lt (upd f_29773 (x_30336 : Int32).toNatClampNeg r_30385 : Nat → Int32) (fun f_30388 => Lt (v_29763 + Int32.ofInt 1 : Int32) (fun x_30389 => rec_30215 x_30389 v_30267 u_30379_2_2_2_1_0 u_30379_2_2_2_1_1 u_30379_2_2_2_2_1_0 u_30379_2_2_2_2_1_1 f_30272 u_30379_2_2_1_0 u_30379_2_2_1_1 f_30374 f_30388)))))))))))))))) else (Lt (upd f_29772 (x_30336 : Int32).toNatClampNeg (vp_nar .boolean 0) : Nat → Int32) (fun f_30358 => Lt (11 + x : Int32) (fun x_30359 => Lt (f_30272 (x_30359 : Int32).toNatClampNeg : Int32) (fun x_30360 => Lt (f_30272 (3 : Int32).toNatClampNeg : Int32) (fun x_30361 => Lt2 (E_v_burnsOf x_30361 x v_30268 v_30269 v_30270 v_30271 f_30272 f_30273 f_30274) (fun r_30362 q0_r_30362 => Lt2 q0_r_30362 (fun u_30363_2_2_2_1_0 q1_u_30363_2_2_2_1_0 => Lt2 q1_u_30363_2_2_2_1_0 (fun u_30363_2_2_2_1_1 q2_u_30363_2_2_2_1_1 => Lt2 q2_u_30363_2_2_2_1_1 (fun u_30363_2_2_2_2_1_0 q3_u_30363_2_2_2_2_1_0 => Lt2 q3_u_30363_2_2_2_2_1_0 (fun u_30363_2_2_2_2_1_1 q4_u_30363_2_2_2_2_1_1 => Lt2 q4_u_30363_2_2_2_2_1_1 (fun u_30363_2_2_1_0 u_30363_2_2_1_1 => Lt (x_30360 - r_30362 : Int32) (fun x_30367 => Lt ((x_30367 : Int32).toInt64 : Int64) (fun x_30368 => Lt (E_v_within_20 x_30368) (fun r_30369 => Lt (upd f_29773 (x_30336 : Int32).toNatClampNeg r_30369 : Nat → Int32) (fun f_30372 => Lt (v_29763 + Int32.ofInt 1 : Int32) (fun x_30373 => rec_30215 x_30373 v_30267 u_30363_2_2_2_1_0 u_30363_2_2_2_1_1 u_30363_2_2_2_2_1_0 u_30363_2_2_2_2_1_1 f_30272 u_30363_2_2_1_0 u_30363_2_2_1_1 f_30358 f_30372))))))))))))))))))))))
set_option maxRecDepth 100000 in
noncomputable def E_v_layHour_j55 (x : Int32) (y : Int32) (z : Int32) (v_26094 : Int32) (v_29763 : Int32) (f_29769 : Nat → Int32) (f_29772 : Nat → Int32) (f_29773 : Nat → Int32) (rec_30215 : Int32 → Int32 → Int32 → Int32 → Int64 → Int64 → (Nat → Int32) → (Nat → Int64) → (Nat → Int64) → (Nat → Int32) → (Nat → Int32) → (Int32 × Int32 × Int64 × Int64 × (Nat → Int32) × (Nat → Int64) × (Nat → Int64) × (Nat → Int32) × (Nat → Int32))) (v_30259 : Int32) (v_30260 : Int32) (v_30261 : Int64) (v_30262 : Int64) (f_30263 : Nat → Int64) (f_30264 : Nat → Int64) : Int32 × Int32 × Int64 × Int64 × (Nat → Int32) × (Nat → Int64) × (Nat → Int64) × (Nat → Int32) × (Nat → Int32) :=
  if v_29763 ≤ 0 then (E_v_layHour_j79 x y z v_26094 v_29763 f_29772 f_29773 rec_30215 0 v_30259 v_30260 v_30261 v_30262 f_29769 f_30263 f_30264) else (E_v_layHour_j79 x y z v_26094 v_29763 f_29772 f_29773 rec_30215 0 v_30259 v_30260 v_30261 v_30262 f_29769 f_30263 f_30264)
set_option maxRecDepth 100000 in
noncomputable def E_v_layHour_j51 (x : Int32) (y : Int32) (z : Int32) (v_26094 : Int32) (v_29763 : Int32) (f_29769 : Nat → Int32) (f_29772 : Nat → Int32) (f_29773 : Nat → Int32) (rec_30215 : Int32 → Int32 → Int32 → Int32 → Int64 → Int64 → (Nat → Int32) → (Nat → Int64) → (Nat → Int64) → (Nat → Int32) → (Nat → Int32) → (Int32 × Int32 × Int64 × Int64 × (Nat → Int32) × (Nat → Int64) × (Nat → Int64) × (Nat → Int32) × (Nat → Int32))) (v_30401 : Int32) (v_30402 : Int32) (v_30403 : Int64) (v_30404 : Int64) (f_30405 : Nat → Int64) (f_30406 : Nat → Int64) : Int32 × Int32 × Int64 × Int64 × (Nat → Int32) × (Nat → Int64) × (Nat → Int64) × (Nat → Int32) × (Nat → Int32) :=
  if v_29763 ≤ 0 then (E_v_layHour_j79 x y z v_26094 v_29763 f_29772 f_29773 rec_30215 1 v_30401 v_30402 v_30403 v_30404 f_29769 f_30405 f_30406) else (Lt (f_29769 (3 : Int32).toNatClampNeg : Int32) (fun x_30419 => Lt2 (E_v_flare x_30419 x v_30401 v_30402 v_30403 v_30404 f_29769 f_30405 f_30406) (fun u_30421_2_2_2_1_0 q0_u_30421_2_2_2_1_0 => Lt2 q0_u_30421_2_2_2_1_0 (fun u_30421_2_2_2_1_1 q1_u_30421_2_2_2_1_1 => Lt2 q1_u_30421_2_2_2_1_1 (fun u_30421_2_2_2_2_1_0 q2_u_30421_2_2_2_2_1_0 => Lt2 q2_u_30421_2_2_2_2_1_0 (fun u_30421_2_2_2_2_1_1 q3_u_30421_2_2_2_2_1_1 => Lt2 q3_u_30421_2_2_2_2_1_1 (fun u_30421_2_1_0 q4_u_30421_2_1_0 => Lt2 q4_u_30421_2_1_0 (fun u_30421_2_2_1_0 u_30421_2_2_1_1 => E_v_layHour_j79 x y z v_26094 v_29763 f_29772 f_29773 rec_30215 1 u_30421_2_2_2_1_0 u_30421_2_2_2_1_1 u_30421_2_2_2_2_1_0 u_30421_2_2_2_2_1_1 u_30421_2_1_0 u_30421_2_2_1_0 u_30421_2_2_1_1))))))))
set_option maxRecDepth 100000 in
noncomputable def E_v_layHour_l27 (x : Int32) (y : Int32) (z : Int32) (v_26094 : Int32) (rec_28992 : Int32 → Int32 → Int32 → Int64 → Int64 → (Nat → Int32) → (Nat → Int64) → (Nat → Int64) → (Nat → Int32) → (Nat → Int32) → (Int32 × Int32 × Int64 × Int64 × (Nat → Int32) × (Nat → Int64) × (Nat → Int64) × (Nat → Int32) × (Nat → Int32))) (rec_30215 : Int32 → Int32 → Int32 → Int32 → Int64 → Int64 → (Nat → Int32) → (Nat → Int64) → (Nat → Int64) → (Nat → Int32) → (Nat → Int32) → (Int32 × Int32 × Int64 × Int64 × (Nat → Int32) × (Nat → Int64) × (Nat → Int64) × (Nat → Int32) × (Nat → Int32))) (v_29763 : Int32) (v_29764 : Int32) (v_29765 : Int32) (v_29766 : Int32) (v_29767 : Int64) (v_29768 : Int64) (f_29769 : Nat → Int32) (f_29770 : Nat → Int64) (f_29771 : Nat → Int64) (f_29772 : Nat → Int32) (f_29773 : Nat → Int32) : Int32 × Int32 × Int64 × Int64 × (Nat → Int32) × (Nat → Int64) × (Nat → Int64) × (Nat → Int32) × (Nat → Int32) :=
  if 3 ≤ v_29763 then (Lt (v_26094 + Int32.ofInt 1 : Int32) (fun x_30218 => rec_28992 x_30218 v_29765 v_29766 v_29767 v_29768 f_29769 f_29770 f_29771 f_29772 f_29773)) else (if v_29764 = 0 then (E_v_layHour_j55 x y z v_26094 v_29763 f_29769 f_29772 f_29773 rec_30215 v_29765 v_29766 v_29767 v_29768 f_29770 f_29771) else (if v_29763 = 0 then (E_v_layHour_j51 x y z v_26094 v_29763 f_29769 f_29772 f_29773 rec_30215 v_29765 v_29766 v_29767 v_29768 f_29770 f_29771) else (Lt2 (E_v_isBarred x v_29765 v_29766 v_29767 v_29768 f_29769 f_29770 f_29771) (fun r_30427 q0_r_30427 => Lt2 q0_r_30427 (fun u_30428_2_2_2_1_0 q1_u_30428_2_2_2_1_0 => Lt2 q1_u_30428_2_2_2_1_0 (fun u_30428_2_2_2_1_1 q2_u_30428_2_2_2_1_1 => Lt2 q2_u_30428_2_2_2_1_1 (fun u_30428_2_2_2_2_1_0 q3_u_30428_2_2_2_2_1_0 => Lt2 q3_u_30428_2_2_2_2_1_0 (fun u_30428_2_2_2_2_1_1 q4_u_30428_2_2_2_2_1_1 => Lt2 q4_u_30428_2_2_2_2_1_1 (fun u_30428_2_2_1_0 u_30428_2_2_1_1 => if r_30427 = 0 then (E_v_layHour_j51 x y z v_26094 v_29763 f_29769 f_29772 f_29773 rec_30215 u_30428_2_2_2_1_0 u_30428_2_2_2_1_1 u_30428_2_2_2_2_1_0 u_30428_2_2_2_2_1_1 u_30428_2_2_1_0 u_30428_2_2_1_1) else (E_v_layHour_j55 x y z v_26094 v_29763 f_29769 f_29772 f_29773 rec_30215 u_30428_2_2_2_1_0 u_30428_2_2_2_1_1 u_30428_2_2_2_2_1_0 u_30428_2_2_2_2_1_1 u_30428_2_2_1_0 u_30428_2_2_1_1))))))))))
set_option maxRecDepth 100000 in
noncomputable def E_v_layHour_l3 (x : Int32) (y : Int32) (z : Int32) (rec_28992 : Int32 → Int32 → Int32 → Int64 → Int64 → (Nat → Int32) → (Nat → Int64) → (Nat → Int64) → (Nat → Int32) → (Nat → Int32) → (Int32 × Int32 × Int64 × Int64 × (Nat → Int32) × (Nat → Int64) × (Nat → Int64) × (Nat → Int32) × (Nat → Int32))) (v_26094 : Int32) (v_26095 : Int32) (v_26096 : Int32) (v_26097 : Int64) (v_26098 : Int64) (f_26099 : Nat → Int32) (f_26100 : Nat → Int64) (f_26101 : Nat → Int64) (f_26102 : Nat → Int32) (f_26103 : Nat → Int32) : Int32 × Int32 × Int64 × Int64 × (Nat → Int32) × (Nat → Int64) × (Nat → Int64) × (Nat → Int32) × (Nat → Int32) :=
  if 20 < v_26094 then (((v_26095, v_26096, v_26097, v_26098, f_26099, f_26100, f_26101, f_26102, f_26103) : Int32 × Int32 × Int64 × Int64 × (Nat → Int32) × (Nat → Int64) × (Nat → Int64) × (Nat → Int32) × (Nat → Int32))) else (Lt (11 + x : Int32) (fun x_28995 => Lt (upd f_26099 (x_28995 : Int32).toNatClampNeg v_26094 : Nat → Int32) (fun f_28996 => Lp (α := Int32 → Int32 → Int32 → Int32 → Int64 → Int64 → (Nat → Int32) → (Nat → Int64) → (Nat → Int64) → (Nat → Int32) → (Nat → Int32) → (Int32 × Int32 × Int64 × Int64 × (Nat → Int32) × (Nat → Int64) × (Nat → Int64) × (Nat → Int32) × (Nat → Int32))) (E_v_layHour_l27 x y z v_26094 rec_28992) (fun _ _ _ _ _ _ _ _ _ _ _ => ((0, 0, 0, 0, fun _ => 0, fun _ => 0, fun _ => 0, fun _ => 0, fun _ => 0) : Int32 × Int32 × Int64 × Int64 × (Nat → Int32) × (Nat → Int64) × (Nat → Int64) × (Nat → Int32) × (Nat → Int32))) ((4 - (0 : Int32).toInt : Int).toNat + 1) 0 1 v_26095 v_26096 v_26097 v_26098 f_28996 f_26100 f_26101 f_26102 f_26103)))
set_option maxRecDepth 100000 in
noncomputable def E_v_layHour (x : Int32) (y : Int32) (z : Int32) (lw : Int32) (bro : Int32) (val : Int64) (sm : Int64) (fw : Nat → Int32) (fe : Nat → Int64) (frs : Nat → Int64) (fi : Nat → Int32) (ft : Nat → Int32) : Int32 × Int32 × Int64 × Int64 × (Nat → Int32) × (Nat → Int64) × (Nat → Int64) × (Nat → Int32) × (Nat → Int32) :=
  Lp (α := Int32 → Int32 → Int32 → Int64 → Int64 → (Nat → Int32) → (Nat → Int64) → (Nat → Int64) → (Nat → Int32) → (Nat → Int32) → (Int32 × Int32 × Int64 × Int64 × (Nat → Int32) × (Nat → Int64) × (Nat → Int64) × (Nat → Int32) × (Nat → Int32))) (E_v_layHour_l3 x y z) (fun _ _ _ _ _ _ _ _ _ _ => ((0, 0, 0, 0, fun _ => 0, fun _ => 0, fun _ => 0, fun _ => 0, fun _ => 0) : Int32 × Int32 × Int64 × Int64 × (Nat → Int32) × (Nat → Int64) × (Nat → Int64) × (Nat → Int32) × (Nat → Int32))) ((22 - (0 : Int32).toInt : Int).toNat + 1) 0 lw bro val sm fw fe frs fi ft
set_option maxHeartbeats 4000000 in
set_option maxRecDepth 100000 in
theorem v_layHour (l : Launch) (D : va_G) (K : Nat → ClassId) (m0 : Nat) (x : Int32) (y : Int32) (z : Int32) (m_0 : Value) (m_1 : Value) (m_2 : Value) (w0 : Nat) (m_4 : Value) (m_5 : Value) (m_6 : Value) (m_7 : Value) (m_8 : Value) (m_9 : Value) (m_10 : Value) (m_11 : Value) (m_12 : Value) (m_13 : Value) (m_14 : Value) (m_15 : Value) (m_16 : Value) (m_17 : Value) (m_18 : Value) (m_19 : Value) (m_21 : Value) (m_22 : Value) (m_23 : Value) (m_24 : Value) (m_25 : Value) (m_26 : Value) (m_27 : Value) (m_28 : Value) (m_29 : Value) (m_30 : Value) (m_31 : Value) (m_32 : Value) (m_33 : Value) (lw : Int32) (e0 : Nat) (m_36 : Value) (q0 : Nat) (bro : Int32) (val : Int64) (sm : Int64) (m_41 : Value) (m_42 : Value) (tf : Nat) (i3 : Nat) (m_45 : Value) (m_46 : Value) (m_47 : Value) (m_48 : Value) (m_49 : Value) (m_50 : Value) (m_51 : Value) (m_52 : Value) (m_53 : Value) (m_54 : Value) (m_55 : Value) (m_56 : Value) (m_57 : Value) (m_58 : Value) (m_59 : Value) (fw : Nat → Int32) (gr : Nat → Int32) (fe : Nat → Int64) (frs : Nat → Int64) (fi : Nat → Int32) (ft : Nat → Int32) (sz : Nat) (zbro : 0 ≤ bro.toInt ∧ bro.toInt ≤ 1) (zx : 0 ≤ x.toInt ∧ x.toInt ≤ 7) (zy : 0 ≤ y.toInt ∧ y.toInt ≤ 11) (zz : 0 ≤ z.toInt ∧ z.toInt ≤ 1) (zfw : RwOK fw) (zgr : FzM gr fw) (zft : Rg 819 0 20 ft) : Met l yX12_layHour wsX12_layHour ({ frames := 6, cells := 0, slots := 0, locals := 146 }) (va_Pc [.ref m0, .int x, .int y, .int z] (Pre D K [(cc_O m0 12 [m_0, m_1, m_2, .ref w0, m_4, m_5, m_6, m_7, m_8, m_9, m_10, m_11, m_12, m_13, m_14, m_15, m_16, m_17, m_18, m_19, .int 0, m_21, m_22, m_23, m_24, m_25, m_26, m_27, m_28, m_29, m_30, m_31, m_32, m_33, .int lw, .ref e0, m_36, .ref q0, .int bro, .long val, .long sm, m_41, m_42, .ref tf, .ref i3, m_45, m_46, m_47, m_48, m_49, m_50, m_51, m_52, m_53, m_54, m_55, m_56, m_57, m_58, m_59]), (cc_l w0 (K 0) 5500 fw), (cc_rl e0 (K 2) 13 fe), (cc_rl q0 (K 2) 400 frs), (cc_l i3 (K 1) 819 fi), (cc_l tf (K 0) 819 ft)] sz)) (va_Qv (S := Su) (fun (u : Su) => (0 ≤ (u.2.2.2.1 1).toInt ∧ (u.2.2.2.1 1).toInt ≤ 1) ∧ (RwOK (u.2.1 0)) ∧ (FzM gr (u.2.1 0)) ∧ (Rg 819 0 20 (u.2.1 2)) ∧ (((u.2.2.2.1 0), (u.2.2.2.1 1), (u.2.2.2.2.1 0), (u.2.2.2.2.1 1), (u.2.1 0), (u.2.2.1 0), (u.2.2.1 1), (u.2.1 1), (u.2.1 2)) = E_v_layHour x y z lw bro val sm fw fe frs fi ft) ∧ True) (fun u t => Wd D (va_A [(cc_O m0 12 [m_0, m_1, m_2, .ref w0, m_4, m_5, m_6, m_7, m_8, m_9, m_10, m_11, m_12, m_13, m_14, m_15, m_16, m_17, m_18, m_19, .int 0, m_21, m_22, m_23, m_24, m_25, m_26, m_27, m_28, m_29, m_30, m_31, m_32, m_33, .int lw, .ref e0, m_36, .ref q0, .int bro, .long val, .long sm, m_41, m_42, .ref tf, .ref i3, m_45, m_46, m_47, m_48, m_49, m_50, m_51, m_52, m_53, m_54, m_55, m_56, m_57, m_58, m_59]), (cc_l w0 (K 0) 5500 fw), (cc_rl e0 (K 2) 13 fe), (cc_rl q0 (K 2) 400 frs), (cc_l i3 (K 1) 819 fi), (cc_l tf (K 0) 819 ft)] sz) ((fun u => [(cc_O m0 12 [m_0, m_1, m_2, .ref w0, m_4, m_5, m_6, m_7, m_8, m_9, m_10, m_11, m_12, m_13, m_14, m_15, m_16, m_17, m_18, m_19, .int 0, m_21, m_22, m_23, m_24, m_25, m_26, m_27, m_28, m_29, m_30, m_31, m_32, m_33, .int (u.2.2.2.1 0), .ref e0, m_36, .ref q0, .int (u.2.2.2.1 1), .long (u.2.2.2.2.1 0), .long (u.2.2.2.2.1 1), m_41, m_42, .ref tf, .ref i3, m_45, m_46, m_47, m_48, m_49, m_50, m_51, m_52, m_53, m_54, m_55, m_56, m_57, m_58, m_59]), (cc_l w0 (K 0) 5500 (u.2.1 0)), (cc_rl e0 (K 2) 13 (u.2.2.1 0)), (cc_rl q0 (K 2) 400 (u.2.2.1 1)), (cc_l i3 (K 1) 819 (u.2.1 1)), (cc_l tf (K 0) 819 (u.2.1 2))]) u) t) (va_A [(cc_O m0 12 [m_0, m_1, m_2, .ref w0, m_4, m_5, m_6, m_7, m_8, m_9, m_10, m_11, m_12, m_13, m_14, m_15, m_16, m_17, m_18, m_19, .int 0, m_21, m_22, m_23, m_24, m_25, m_26, m_27, m_28, m_29, m_30, m_31, m_32, m_33, .int lw, .ref e0, m_36, .ref q0, .int bro, .long val, .long sm, m_41, m_42, .ref tf, .ref i3, m_45, m_46, m_47, m_48, m_49, m_50, m_51, m_52, m_53, m_54, m_55, m_56, m_57, m_58, m_59]), (cc_l w0 (K 0) 5500 fw), (cc_rl e0 (K 2) 13 fe), (cc_rl q0 (K 2) 400 frs), (cc_l i3 (K 1) 819 fi), (cc_l tf (K 0) 819 ft)] sz)) 0 0 (va_A [(cc_O m0 12 [m_0, m_1, m_2, .ref w0, m_4, m_5, m_6, m_7, m_8, m_9, m_10, m_11, m_12, m_13, m_14, m_15, m_16, m_17, m_18, m_19, .int 0, m_21, m_22, m_23, m_24, m_25, m_26, m_27, m_28, m_29, m_30, m_31, m_32, m_33, .int lw, .ref e0, m_36, .ref q0, .int bro, .long val, .long sm, m_41, m_42, .ref tf, .ref i3, m_45, m_46, m_47, m_48, m_49, m_50, m_51, m_52, m_53, m_54, m_55, m_56, m_57, m_58, m_59]), (cc_l w0 (K 0) 5500 fw), (cc_rl e0 (K 2) 13 fe), (cc_rl q0 (K 2) 400 frs), (cc_l i3 (K 1) 819 fi), (cc_l tf (K 0) 819 ft)] sz) := by
  refine Met.ofW (cc := cX12_layHour) (maxL := 8) (ret := none) (by decide +kernel) rfl ?_
  intro p e s m args below meth c s₁ B hml hv
  obtain ⟨rfl, hsz, hP, hK, hD0, hN⟩ := hv
  have hx := B.exec
  have hb := B.bytes
  have hr := B.returns
  have hts := atoms_spec (ws := wsX12_layHour) B.pre
  have hown : s.vm.findClass RX12 = some m.cls := findClass_of_methodNamed B.named
  have hlocks := B.notSynchronized
  subst hsz
  have hD := hD0.self (sz := s.heap.size)
  generalize hAe : va_A [(cc_O m0 12 [m_0, m_1, m_2, .ref w0, m_4, m_5, m_6, m_7, m_8, m_9, m_10, m_11, m_12, m_13, m_14, m_15, m_16, m_17, m_18, m_19, .int 0, m_21, m_22, m_23, m_24, m_25, m_26, m_27, m_28, m_29, m_30, m_31, m_32, m_33, .int lw, .ref e0, m_36, .ref q0, .int bro, .long val, .long sm, m_41, m_42, .ref tf, .ref i3, m_45, m_46, m_47, m_48, m_49, m_50, m_51, m_52, m_53, m_54, m_55, m_56, m_57, m_58, m_59]), (cc_l w0 (K 0) 5500 fw), (cc_rl e0 (K 2) 13 fe), (cc_rl q0 (K 2) 400 frs), (cc_l i3 (K 1) 819 fi), (cc_l tf (K 0) 819 ft)] s.heap.size = A at hD ⊢
  have hA : ∀ q : Nat, s.heap.size ≤ q → A q := fun q h => by rw [← hAe]; exact Or.inr h
  clear hAe
  have hS : va_S A s.heap s.heap [] := va_S.rf
  replace hP : va_P D vwCl [(cc_O m0 12 [m_0, m_1, m_2, .ref w0, m_4, m_5, m_6, m_7, m_8, m_9, m_10, m_11, m_12, m_13, m_14, m_15, m_16, m_17, m_18, m_19, .int 0, m_21, m_22, m_23, m_24, m_25, m_26, m_27, m_28, m_29, m_30, m_31, m_32, m_33, .int lw, .ref e0, m_36, .ref q0, .int bro, .long val, .long sm, m_41, m_42, .ref tf, .ref i3, m_45, m_46, m_47, m_48, m_49, m_50, m_51, m_52, m_53, m_54, m_55, m_56, m_57, m_58, m_59]), (cc_l w0 (K 0) 5500 fw), (cc_rl e0 (K 2) 13 fe), (cc_rl q0 (K 2) 400 frs), (cc_l i3 (K 1) 819 fi), (cc_l tf (K 0) 819 ft)] s.heap := hP
  have hl := lv_entry [.ref m0, .int x, .int y, .int z] (n := 8) (Nat.le_of_ble_eq_true rfl)
  rw [lg_entry_eq]
  generalize (lg_sl [.ref m0, .int x, .int y, .int z] ++ List.replicate (8 - (lg_sl [.ref m0, .int x, .int y, .int z]).length) Slot.unset).toArray = ls at hl ⊢
  have hl : lv_has ls 8 [(0, .ref m0), (1, .int x), (2, .int y), (3, .int z)] := hl
  have hw12 : ∀ w ∈ wsX120, w ∈ wsX12_layHour := fun w h => (List.mem_cons_of_mem _ (List.mem_append_right _ h))
  generalize hQ : MQ below _ _ s _ _ _ = Q
  have hE := E_v_layHour.eq_def x y z lw bro val sm fw fe frs fi ft
  refine lv_iconst (v := 0) hx hb dX12_layHour_0 (by decide +kernel) (lv_istore (lv' := [(4, .int 0), (0, .ref m0), (1, .int x), (2, .int y), (3, .int z)]) hx hb dX12_layHour_1 hl (by decide +kernel) rfl (fun ls hl => ?_))
  have lp_28992 : ∀ (nn_ : Nat) (v_26094 : Int32) (v_26095 : Int32) (v_26096 : Int32) (v_26097 : Int64) (v_26098 : Int64) (f_26099 : Nat → Int32) (f_26100 : Nat → Int64) (f_26101 : Nat → Int64) (f_26102 : Nat → Int32) (f_26103 : Nat → Int32) (hv_26094 : 0 ≤ v_26094.toInt ∧ v_26094.toInt ≤ 21) (hv_26096 : 0 ≤ v_26096.toInt ∧ v_26096.toInt ≤ 1) (hf_26099_0 : RwOK f_26099) (hf_26099_1 : FzM gr f_26099) (hf_26103_0 : Rg 819 0 20 f_26103) (hn : (22 - v_26094.toInt : Int).toNat < nn_) (hE : E_v_layHour x y z lw bro val sm fw fe frs fi ft = Lp (α := Int32 → Int32 → Int32 → Int64 → Int64 → (Nat → Int32) → (Nat → Int64) → (Nat → Int64) → (Nat → Int32) → (Nat → Int32) → (Int32 × Int32 × Int64 × Int64 × (Nat → Int32) × (Nat → Int64) × (Nat → Int64) × (Nat → Int32) × (Nat → Int32))) (E_v_layHour_l3 x y z) (fun _ _ _ _ _ _ _ _ _ _ => ((0, 0, 0, 0, fun _ => 0, fun _ => 0, fun _ => 0, fun _ => 0, fun _ => 0) : Int32 × Int32 × Int64 × Int64 × (Nat → Int32) × (Nat → Int64) × (Nat → Int64) × (Nat → Int32) × (Nat → Int32))) nn_ v_26094 v_26095 v_26096 v_26097 v_26098 f_26099 f_26100 f_26101 f_26102 f_26103) (H : Heap) (locs : List Loc) (hP : va_P D vwCl [(cc_O m0 12 [m_0, m_1, m_2, .ref w0, m_4, m_5, m_6, m_7, m_8, m_9, m_10, m_11, m_12, m_13, m_14, m_15, m_16, m_17, m_18, m_19, .int 0, m_21, m_22, m_23, m_24, m_25, m_26, m_27, m_28, m_29, m_30, m_31, m_32, m_33, .int v_26095, .ref e0, m_36, .ref q0, .int v_26096, .long v_26097, .long v_26098, m_41, m_42, .ref tf, .ref i3, m_45, m_46, m_47, m_48, m_49, m_50, m_51, m_52, m_53, m_54, m_55, m_56, m_57, m_58, m_59]), (cc_l w0 (K 0) 5500 f_26099), (cc_rl e0 (K 2) 13 f_26100), (cc_rl q0 (K 2) 400 f_26101), (cc_l i3 (K 1) 819 f_26102), (cc_l tf (K 0) 819 f_26103)] H) (hD : va_D A [(cc_O m0 12 [m_0, m_1, m_2, .ref w0, m_4, m_5, m_6, m_7, m_8, m_9, m_10, m_11, m_12, m_13, m_14, m_15, m_16, m_17, m_18, m_19, .int 0, m_21, m_22, m_23, m_24, m_25, m_26, m_27, m_28, m_29, m_30, m_31, m_32, m_33, .int v_26095, .ref e0, m_36, .ref q0, .int v_26096, .long v_26097, .long v_26098, m_41, m_42, .ref tf, .ref i3, m_45, m_46, m_47, m_48, m_49, m_50, m_51, m_52, m_53, m_54, m_55, m_56, m_57, m_58, m_59]), (cc_l w0 (K 0) 5500 f_26099), (cc_rl e0 (K 2) 13 f_26100), (cc_rl q0 (K 2) 400 f_26101), (cc_l i3 (K 1) 819 f_26102), (cc_l tf (K 0) 819 f_26103)]) (hS : va_S A s.heap H locs) (ls : Array Slot) (hl : lv_has ls 8 [(4, .int v_26094), (0, .ref m0), (1, .int x), (2, .int y), (3, .int z)]), W p l e ({ frames := 6, cells := 0, slots := 0, locals := 146 }) s m (([.ref m0, .int x, .int y, .int z] : List Value).toArray) below meth c H locs 0 0 Q (F0 m 3 ls []) := by
    clear hE hP hD hS hl
    intro nn_
    induction nn_ with
    | zero =>
      intro v_26094 v_26095 v_26096 v_26097 v_26098 f_26099 f_26100 f_26101 f_26102 f_26103 hv_26094 hv_26096 hf_26099_0 hf_26099_1 hf_26103_0 hn hE H locs hP hD hS ls hl
      exact absurd hn (Nat.not_lt_zero _)
    | succ nn_ ih_28993 =>
      intro v_26094 v_26095 v_26096 v_26097 v_26098 f_26099 f_26100 f_26101 f_26102 f_26103 hv_26094 hv_26096 hf_26099_0 hf_26099_1 hf_26103_0 hn hE H locs hP hD hS ls hl
      replace hE : E_v_layHour x y z lw bro val sm fw fe frs fi ft = E_v_layHour_l3 x y z (Lp (α := Int32 → Int32 → Int32 → Int64 → Int64 → (Nat → Int32) → (Nat → Int64) → (Nat → Int64) → (Nat → Int32) → (Nat → Int32) → (Int32 × Int32 × Int64 × Int64 × (Nat → Int32) × (Nat → Int64) × (Nat → Int64) × (Nat → Int32) × (Nat → Int32))) (E_v_layHour_l3 x y z) (fun _ _ _ _ _ _ _ _ _ _ => ((0, 0, 0, 0, fun _ => 0, fun _ => 0, fun _ => 0, fun _ => 0, fun _ => 0) : Int32 × Int32 × Int64 × Int64 × (Nat → Int32) × (Nat → Int64) × (Nat → Int64) × (Nat → Int32) × (Nat → Int32))) nn_) v_26094 v_26095 v_26096 v_26097 v_26098 f_26099 f_26100 f_26101 f_26102 f_26103 := hE
      obtain ⟨rec_28992, hrec_28992⟩ : ∃ z9, z9 = Lp (α := Int32 → Int32 → Int32 → Int64 → Int64 → (Nat → Int32) → (Nat → Int64) → (Nat → Int64) → (Nat → Int32) → (Nat → Int32) → (Int32 × Int32 × Int64 × Int64 × (Nat → Int32) × (Nat → Int64) × (Nat → Int64) × (Nat → Int32) × (Nat → Int32))) (E_v_layHour_l3 x y z) (fun _ _ _ _ _ _ _ _ _ _ => ((0, 0, 0, 0, fun _ => 0, fun _ => 0, fun _ => 0, fun _ => 0, fun _ => 0) : Int32 × Int32 × Int64 × Int64 × (Nat → Int32) × (Nat → Int64) × (Nat → Int64) × (Nat → Int32) × (Nat → Int32))) nn_ := ⟨_, rfl⟩
      rw [← hrec_28992] at hE
      replace hE := hE.trans (E_v_layHour_l3.eq_def _ _ _ _ _ _ _ _ _ _ _ _ _ _)
      refine lv_iload hx hb dX12_layHour_3 (lv_at hl 0 rfl) (lv_bipush (v := 20) hx hb dX12_layHour_5 (by decide +kernel) (lv_icmp_gt (tgt := 166) hx hb dX12_layHour_7 (by decide +kernel) (fun c_28994 => ?_) (fun c_28994 => ?_)))
      · have c_28994i := i_lt (x := 20) (y := v_26094.toInt) rfl rfl c_28994
        replace hE := hE.trans (if_pos c_28994)
        rw [← hQ]
        have hP9 := hP.sub (ws' := [(cc_O m0 12 [m_0, m_1, m_2, .ref w0, m_4, m_5, m_6, m_7, m_8, m_9, m_10, m_11, m_12, m_13, m_14, m_15, m_16, m_17, m_18, m_19, .int 0, m_21, m_22, m_23, m_24, m_25, m_26, m_27, m_28, m_29, m_30, m_31, m_32, m_33, .int v_26095, .ref e0, m_36, .ref q0, .int v_26096, .long v_26097, .long v_26098, m_41, m_42, .ref tf, .ref i3, m_45, m_46, m_47, m_48, m_49, m_50, m_51, m_52, m_53, m_54, m_55, m_56, m_57, m_58, m_59]), (cc_l w0 (K 0) 5500 f_26099), (cc_rl e0 (K 2) 13 f_26100), (cc_rl q0 (K 2) 400 f_26101), (cc_l i3 (K 1) 819 f_26102), (cc_l tf (K 0) 819 f_26103)]) [0, 1, 2, 3, 4, 5] rfl
        have hD9 := sub_D hP9 hD [0, 1, 2, 3, 4, 5] (by decide +kernel) rfl
        exact W.vret hx hb hr (fun t ht hW => ⟨⟨((fun _ => 0, fun i => match i with | 0 => f_26099 | 1 => f_26102 | _ => f_26103, fun i => match i with | 0 => f_26100 | _ => f_26101, fun i => match i with | 0 => v_26095 | _ => v_26096, fun i => match i with | 0 => v_26097 | _ => v_26098, fun _ => fun _ => none) : Su), rfl, ⟨(show 0 ≤ (v_26096 : Int32).toInt ∧ (v_26096 : Int32).toInt ≤ 1 by omega), hf_26099_0, hf_26099_1, hf_26103_0, hE.symm, trivial⟩, (⟨by rw [ht]; exact hP9, hD9⟩ : Wd D A _ t)⟩, hS.F ht⟩) hS.2.2 dX12_layHour_166
      · have c_28994i := i_nlt (x := 20) (y := v_26094.toInt) rfl rfl c_28994
        replace hE := hE.trans (if_neg c_28994)
        refine lv_aload_n hx hb dX12_layHour_10 rfl (lv_at hl 1 rfl) (va_get (ci := 12) (v := .ref w0) (C := RX12) (T := TX12) (N := 60) hx hb hts hw12 hown hK hP 0 rfl rfl 3 (by decide +kernel) (hts _ mm_X12_layHour_833) (fun _ h9 => h9) rfl dX12_layHour_11 (lv_bipush (v := 11) hx hb dX12_layHour_14 (by decide +kernel) (lv_iload_n hx hb dX12_layHour_16 rfl (lv_at hl 2 rfl) (lv_iadd hx hb dX12_layHour_17 (lv_topi (fun x_28995 ex_28995 => ?_))))))
        replace hE := hE.trans (Lt_in ex_28995)
        have hx_28995 : x_28995.toInt = (11 + x.toInt) := by rw [ex_28995]; exact i_add (show (11 : Int32).toInt = 11 from rfl) rfl (by omega)
        refine lv_iload hx hb dX12_layHour_18 (lv_at hl 0 rfl) (va_iast hx hb hK hP hD hS 1 0 rfl rfl (i_in hx_28995 (by omega)) dX12_layHour_20 (fun H locs hP0 hD0 hS0 => ?_))
        replace hP := hP0
        replace hD := hD0
        replace hS := hS0
        clear hP0 hD0 hS0
        generalize hf_28996 : (upd f_26099 (x_28995 : Int32).toNatClampNeg v_26094) = f_28996 at hP hD
        replace hE := hE.trans (Lt_in hf_28996.symm)
        have hf_28996_0 : RwOK f_28996 := by rw [← hf_28996]; exact RwOK.upd hf_26099_0 hx_28995 (by omega) rfl (PR.w_11 (by omega) (by omega))
        have hf_28996_1 : FzM gr f_28996 := by rw [← hf_28996]; exact FzM.put hf_26099_1 hx_28995 (by omega)
        replace hP : va_P D vwCl [(cc_O m0 12 [m_0, m_1, m_2, .ref w0, m_4, m_5, m_6, m_7, m_8, m_9, m_10, m_11, m_12, m_13, m_14, m_15, m_16, m_17, m_18, m_19, .int 0, m_21, m_22, m_23, m_24, m_25, m_26, m_27, m_28, m_29, m_30, m_31, m_32, m_33, .int v_26095, .ref e0, m_36, .ref q0, .int v_26096, .long v_26097, .long v_26098, m_41, m_42, .ref tf, .ref i3, m_45, m_46, m_47, m_48, m_49, m_50, m_51, m_52, m_53, m_54, m_55, m_56, m_57, m_58, m_59]), (cc_l w0 (K 0) 5500 f_28996), (cc_rl e0 (K 2) 13 f_26100), (cc_rl q0 (K 2) 400 f_26101), (cc_l i3 (K 1) 819 f_26102), (cc_l tf (K 0) 819 f_26103)] H := hP
        replace hD := as_D hP hD rfl
        refine lv_iconst (v := 1) hx hb dX12_layHour_21 (by decide +kernel) (lv_istore (lv' := [(5, .int 1), (4, .int v_26094), (0, .ref m0), (1, .int x), (2, .int y), (3, .int z)]) hx hb dX12_layHour_22 hl (by decide +kernel) rfl (fun ls hl => ?_))
        refine lv_iconst (v := 0) hx hb dX12_layHour_24 (by decide +kernel) (lv_istore (lv' := [(6, .int 0), (5, .int 1), (4, .int v_26094), (0, .ref m0), (1, .int x), (2, .int y), (3, .int z)]) hx hb dX12_layHour_25 hl (by decide +kernel) rfl (fun ls hl => ?_))
        have lp_30215 : ∀ (nn_ : Nat) (v_29763 : Int32) (v_29764 : Int32) (v_29765 : Int32) (v_29766 : Int32) (v_29767 : Int64) (v_29768 : Int64) (f_29769 : Nat → Int32) (f_29770 : Nat → Int64) (f_29771 : Nat → Int64) (f_29772 : Nat → Int32) (f_29773 : Nat → Int32) (hv_29763 : 0 ≤ v_29763.toInt ∧ v_29763.toInt ≤ 3) (hv_29764 : 0 ≤ v_29764.toInt ∧ v_29764.toInt ≤ 1) (hv_29766 : 0 ≤ v_29766.toInt ∧ v_29766.toInt ≤ 1) (hf_29769_0 : RwOK f_29769) (hf_29769_1 : FzM gr f_29769) (hf_29773_0 : Rg 819 0 20 f_29773) (hn : (4 - v_29763.toInt : Int).toNat < nn_) (hE : E_v_layHour x y z lw bro val sm fw fe frs fi ft = Lp (α := Int32 → Int32 → Int32 → Int32 → Int64 → Int64 → (Nat → Int32) → (Nat → Int64) → (Nat → Int64) → (Nat → Int32) → (Nat → Int32) → (Int32 × Int32 × Int64 × Int64 × (Nat → Int32) × (Nat → Int64) × (Nat → Int64) × (Nat → Int32) × (Nat → Int32))) (E_v_layHour_l27 x y z v_26094 rec_28992) (fun _ _ _ _ _ _ _ _ _ _ _ => ((0, 0, 0, 0, fun _ => 0, fun _ => 0, fun _ => 0, fun _ => 0, fun _ => 0) : Int32 × Int32 × Int64 × Int64 × (Nat → Int32) × (Nat → Int64) × (Nat → Int64) × (Nat → Int32) × (Nat → Int32))) nn_ v_29763 v_29764 v_29765 v_29766 v_29767 v_29768 f_29769 f_29770 f_29771 f_29772 f_29773) (H : Heap) (locs : List Loc) (hP : va_P D vwCl [(cc_O m0 12 [m_0, m_1, m_2, .ref w0, m_4, m_5, m_6, m_7, m_8, m_9, m_10, m_11, m_12, m_13, m_14, m_15, m_16, m_17, m_18, m_19, .int 0, m_21, m_22, m_23, m_24, m_25, m_26, m_27, m_28, m_29, m_30, m_31, m_32, m_33, .int v_29765, .ref e0, m_36, .ref q0, .int v_29766, .long v_29767, .long v_29768, m_41, m_42, .ref tf, .ref i3, m_45, m_46, m_47, m_48, m_49, m_50, m_51, m_52, m_53, m_54, m_55, m_56, m_57, m_58, m_59]), (cc_l w0 (K 0) 5500 f_29769), (cc_rl e0 (K 2) 13 f_29770), (cc_rl q0 (K 2) 400 f_29771), (cc_l i3 (K 1) 819 f_29772), (cc_l tf (K 0) 819 f_29773)] H) (hD : va_D A [(cc_O m0 12 [m_0, m_1, m_2, .ref w0, m_4, m_5, m_6, m_7, m_8, m_9, m_10, m_11, m_12, m_13, m_14, m_15, m_16, m_17, m_18, m_19, .int 0, m_21, m_22, m_23, m_24, m_25, m_26, m_27, m_28, m_29, m_30, m_31, m_32, m_33, .int v_29765, .ref e0, m_36, .ref q0, .int v_29766, .long v_29767, .long v_29768, m_41, m_42, .ref tf, .ref i3, m_45, m_46, m_47, m_48, m_49, m_50, m_51, m_52, m_53, m_54, m_55, m_56, m_57, m_58, m_59]), (cc_l w0 (K 0) 5500 f_29769), (cc_rl e0 (K 2) 13 f_29770), (cc_rl q0 (K 2) 400 f_29771), (cc_l i3 (K 1) 819 f_29772), (cc_l tf (K 0) 819 f_29773)]) (hS : va_S A s.heap H locs) (ls : Array Slot) (hl : lv_has ls 8 [(6, .int v_29763), (5, .int v_29764), (4, .int v_26094), (0, .ref m0), (1, .int x), (2, .int y), (3, .int z)]), W p l e ({ frames := 6, cells := 0, slots := 0, locals := 146 }) s m (([.ref m0, .int x, .int y, .int z] : List Value).toArray) below meth c H locs 0 0 Q (F0 m 27 ls []) := by
          clear hE hP hD hS hl
          intro nn_
          induction nn_ with
          | zero =>
            intro v_29763 v_29764 v_29765 v_29766 v_29767 v_29768 f_29769 f_29770 f_29771 f_29772 f_29773 hv_29763 hv_29764 hv_29766 hf_29769_0 hf_29769_1 hf_29773_0 hn hE H locs hP hD hS ls hl
            exact absurd hn (Nat.not_lt_zero _)
          | succ nn_ ih_30216 =>
            intro v_29763 v_29764 v_29765 v_29766 v_29767 v_29768 f_29769 f_29770 f_29771 f_29772 f_29773 hv_29763 hv_29764 hv_29766 hf_29769_0 hf_29769_1 hf_29773_0 hn hE H locs hP hD hS ls hl
            replace hE : E_v_layHour x y z lw bro val sm fw fe frs fi ft = E_v_layHour_l27 x y z v_26094 rec_28992 (Lp (α := Int32 → Int32 → Int32 → Int32 → Int64 → Int64 → (Nat → Int32) → (Nat → Int64) → (Nat → Int64) → (Nat → Int32) → (Nat → Int32) → (Int32 × Int32 × Int64 × Int64 × (Nat → Int32) × (Nat → Int64) × (Nat → Int64) × (Nat → Int32) × (Nat → Int32))) (E_v_layHour_l27 x y z v_26094 rec_28992) (fun _ _ _ _ _ _ _ _ _ _ _ => ((0, 0, 0, 0, fun _ => 0, fun _ => 0, fun _ => 0, fun _ => 0, fun _ => 0) : Int32 × Int32 × Int64 × Int64 × (Nat → Int32) × (Nat → Int64) × (Nat → Int64) × (Nat → Int32) × (Nat → Int32))) nn_) v_29763 v_29764 v_29765 v_29766 v_29767 v_29768 f_29769 f_29770 f_29771 f_29772 f_29773 := hE
            obtain ⟨rec_30215, hrec_30215⟩ : ∃ z9, z9 = Lp (α := Int32 → Int32 → Int32 → Int32 → Int64 → Int64 → (Nat → Int32) → (Nat → Int64) → (Nat → Int64) → (Nat → Int32) → (Nat → Int32) → (Int32 × Int32 × Int64 × Int64 × (Nat → Int32) × (Nat → Int64) × (Nat → Int64) × (Nat → Int32) × (Nat → Int32))) (E_v_layHour_l27 x y z v_26094 rec_28992) (fun _ _ _ _ _ _ _ _ _ _ _ => ((0, 0, 0, 0, fun _ => 0, fun _ => 0, fun _ => 0, fun _ => 0, fun _ => 0) : Int32 × Int32 × Int64 × Int64 × (Nat → Int32) × (Nat → Int64) × (Nat → Int64) × (Nat → Int32) × (Nat → Int32))) nn_ := ⟨_, rfl⟩
            rw [← hrec_30215] at hE
            replace hE := hE.trans (E_v_layHour_l27.eq_def _ _ _ _ _ _ _ _ _ _ _ _ _ _ _ _ _)
            refine lv_iload hx hb dX12_layHour_27 (lv_at hl 0 rfl) (lv_iconst (v := 3) hx hb dX12_layHour_29 (by decide +kernel) (lv_icmp_ge (tgt := 160) hx hb dX12_layHour_30 (by decide +kernel) (fun c_30217 => ?_) (fun c_30217 => ?_)))
            · have c_30217i := i_le (x := 3) (y := v_29763.toInt) rfl rfl c_30217
              replace hE := hE.trans (if_pos c_30217)
              obtain ⟨x_30218, ex_30218⟩ : ∃ y : Int32, y = v_26094 + Int32.ofInt 1 := ⟨_, rfl⟩
              replace hE := hE.trans (Lt_in ex_30218)
              have hx_30218 : x_30218.toInt = (v_26094.toInt + 1) := by rw [ex_30218]; exact i_add rfl (show (Int32.ofInt 1).toInt = 1 from rfl) (by omega)
              refine lv_iinc (v := x_30218) (lv' := [(4, .int x_30218), (6, .int v_29763), (5, .int v_29764), (0, .ref m0), (1, .int x), (2, .int y), (3, .int z)]) hx hb dX12_layHour_160 hl (k := 2) rfl (by rw [ex_30218]) (by decide +kernel) rfl (fun ls hl => ?_)
              refine lv_goto (tgt := 3) hx hb dX12_layHour_163 (by decide +kernel) ?_
              exact ih_28993 x_30218 v_29765 v_29766 v_29767 v_29768 f_29769 f_29770 f_29771 f_29772 f_29773 (by rw [hx_30218]; omega) (by omega) hf_29769_0 hf_29769_1 hf_29773_0 (by omega) (hE.trans (by rw [hrec_28992])) _ _ hP hD hS ls (lv_sub hl [0, 3, 4, 5, 6] rfl)
            · have c_30217i := i_nle (x := 3) (y := v_29763.toInt) rfl rfl c_30217
              replace hE := hE.trans (if_neg c_30217)
              refine lv_iload hx hb dX12_layHour_33 (lv_at hl 1 rfl) ?_
              have j_30332 : ∀ (v_30267 : Int32) (v_30268 : Int32) (v_30269 : Int32) (v_30270 : Int64) (v_30271 : Int64) (f_30272 : Nat → Int32) (f_30273 : Nat → Int64) (f_30274 : Nat → Int64) (hv_30267 : 0 ≤ v_30267.toInt ∧ v_30267.toInt ≤ 1) (hv_30269 : 0 ≤ v_30269.toInt ∧ v_30269.toInt ≤ 1) (hf_30272_0 : RwOK f_30272) (hf_30272_1 : FzM gr f_30272) (hE : E_v_layHour x y z lw bro val sm fw fe frs fi ft = E_v_layHour_j79 x y z v_26094 v_29763 f_29772 f_29773 rec_30215 v_30267 v_30268 v_30269 v_30270 v_30271 f_30272 f_30273 f_30274) (H : Heap) (locs : List Loc) (hP : va_P D vwCl [(cc_O m0 12 [m_0, m_1, m_2, .ref w0, m_4, m_5, m_6, m_7, m_8, m_9, m_10, m_11, m_12, m_13, m_14, m_15, m_16, m_17, m_18, m_19, .int 0, m_21, m_22, m_23, m_24, m_25, m_26, m_27, m_28, m_29, m_30, m_31, m_32, m_33, .int v_30268, .ref e0, m_36, .ref q0, .int v_30269, .long v_30270, .long v_30271, m_41, m_42, .ref tf, .ref i3, m_45, m_46, m_47, m_48, m_49, m_50, m_51, m_52, m_53, m_54, m_55, m_56, m_57, m_58, m_59]), (cc_l w0 (K 0) 5500 f_30272), (cc_rl e0 (K 2) 13 f_30273), (cc_rl q0 (K 2) 400 f_30274), (cc_l i3 (K 1) 819 f_29772), (cc_l tf (K 0) 819 f_29773)] H) (hD : va_D A [(cc_O m0 12 [m_0, m_1, m_2, .ref w0, m_4, m_5, m_6, m_7, m_8, m_9, m_10, m_11, m_12, m_13, m_14, m_15, m_16, m_17, m_18, m_19, .int 0, m_21, m_22, m_23, m_24, m_25, m_26, m_27, m_28, m_29, m_30, m_31, m_32, m_33, .int v_30268, .ref e0, m_36, .ref q0, .int v_30269, .long v_30270, .long v_30271, m_41, m_42, .ref tf, .ref i3, m_45, m_46, m_47, m_48, m_49, m_50, m_51, m_52, m_53, m_54, m_55, m_56, m_57, m_58, m_59]), (cc_l w0 (K 0) 5500 f_30272), (cc_rl e0 (K 2) 13 f_30273), (cc_rl q0 (K 2) 400 f_30274), (cc_l i3 (K 1) 819 f_29772), (cc_l tf (K 0) 819 f_29773)]) (hS : va_S A s.heap H locs) (ls : Array Slot) (hl : lv_has ls 8 [(5, .int v_30267), (6, .int v_29763), (4, .int v_26094), (0, .ref m0), (1, .int x), (2, .int y), (3, .int z)]), W p l e ({ frames := 6, cells := 0, slots := 0, locals := 146 }) s m (([.ref m0, .int x, .int y, .int z] : List Value).toArray) below meth c H locs 0 0 Q (F0 m 79 ls []) := by
                clear hE hP hD hS hl
                intro v_30267 v_30268 v_30269 v_30270 v_30271 f_30272 f_30273 f_30274 hv_30267 hv_30269 hf_30272_0 hf_30272_1 hE H locs hP hD hS ls hl
                replace hE := hE.trans (E_v_layHour_j79.eq_def _ _ _ _ _ _ _ _ _ _ _ _ _ _ _ _)
                refine lv_bipush (v := 63) hx hb dX12_layHour_79 (by decide +kernel) (lv_iload_n hx hb dX12_layHour_81 rfl (lv_at hl 5 rfl) (lv_imul hx hb dX12_layHour_82 (lv_topi (fun x_30333 ex_30333 => ?_))))
                replace hE := hE.trans (Lt_in ex_30333)
                have hx_30333 : x_30333.toInt = (63 * y.toInt) := by rw [ex_30333]; exact i_mul (show (63 : Int32).toInt = 63 from rfl) rfl (by omega)
                refine lv_iconst (v := 3) hx hb dX12_layHour_83 (by decide +kernel) (lv_iload hx hb dX12_layHour_84 (lv_at hl 2 rfl) (lv_imul hx hb dX12_layHour_86 (lv_topi (fun x_30334 ex_30334 => ?_))))
                replace hE := hE.trans (Lt_in ex_30334)
                have hx_30334 : x_30334.toInt = (3 * v_26094.toInt) := by rw [ex_30334]; exact i_mul (show (3 : Int32).toInt = 3 from rfl) rfl (by omega)
                refine lv_iadd hx hb dX12_layHour_87 (lv_topi (fun x_30335 ex_30335 => ?_))
                replace hE := hE.trans (Lt_in ex_30335)
                have hx_30335 : x_30335.toInt = ((63 * y.toInt) + (3 * v_26094.toInt)) := by rw [ex_30335]; exact i_add hx_30333 hx_30334 (by omega)
                refine lv_iload hx hb dX12_layHour_88 (lv_at hl 1 rfl) (lv_iadd hx hb dX12_layHour_90 (lv_topi (fun x_30336 ex_30336 => ?_)))
                replace hE := hE.trans (Lt_in ex_30336)
                have hx_30336 : x_30336.toInt = (((63 * y.toInt) + (3 * v_26094.toInt)) + v_29763.toInt) := by rw [ex_30336]; exact i_add hx_30335 rfl (by omega)
                refine lv_istore (lv' := [(7, .int x_30336), (5, .int v_30267), (6, .int v_29763), (4, .int v_26094), (0, .ref m0), (1, .int x), (2, .int y), (3, .int z)]) hx hb dX12_layHour_91 hl (by decide +kernel) rfl (fun ls hl => ?_)
                refine lv_aload_n hx hb dX12_layHour_93 rfl (lv_at hl 4 rfl) (va_get (ci := 12) (v := .ref i3) (C := RX12) (T := TX12) (N := 60) hx hb hts hw12 hown hK hP 0 rfl rfl 44 (by decide +kernel) (hts _ mm_X12_layHour_874) (fun _ h9 => h9) rfl dX12_layHour_94 (lv_iload hx hb dX12_layHour_97 (lv_at hl 0 rfl) (lv_iload hx hb dX12_layHour_99 (lv_at hl 1 rfl) (lv_if_eq (tgt := 117) hx hb dX12_layHour_101 (by decide +kernel) (fun c_30337 => ?_) (fun c_30337 => ?_)))))
                · have c_30337i := i_eq (x := v_30267.toInt) (y := 0) rfl rfl c_30337
                  replace hE := hE.trans (if_pos c_30337)
                  refine lv_iconst (v := 0) hx hb dX12_layHour_117 (by decide +kernel) (va_zast hx hb hK hP hD hS 4 1 rfl rfl (i_in hx_30336 (by omega)) dX12_layHour_118 (fun H locs hP0 hD0 hS0 => ?_))
                  replace hP := hP0
                  replace hD := hD0
                  replace hS := hS0
                  clear hP0 hD0 hS0
                  generalize hf_30338 : (upd f_29772 (x_30336 : Int32).toNatClampNeg (vp_nar .boolean 0)) = f_30338 at hP hD
                  replace hE := hE.trans (Lt_in hf_30338.symm)
                  replace hP : va_P D vwCl [(cc_O m0 12 [m_0, m_1, m_2, .ref w0, m_4, m_5, m_6, m_7, m_8, m_9, m_10, m_11, m_12, m_13, m_14, m_15, m_16, m_17, m_18, m_19, .int 0, m_21, m_22, m_23, m_24, m_25, m_26, m_27, m_28, m_29, m_30, m_31, m_32, m_33, .int v_30268, .ref e0, m_36, .ref q0, .int v_30269, .long v_30270, .long v_30271, m_41, m_42, .ref tf, .ref i3, m_45, m_46, m_47, m_48, m_49, m_50, m_51, m_52, m_53, m_54, m_55, m_56, m_57, m_58, m_59]), (cc_l w0 (K 0) 5500 f_30272), (cc_rl e0 (K 2) 13 f_30273), (cc_rl q0 (K 2) 400 f_30274), (cc_l i3 (K 1) 819 f_30338), (cc_l tf (K 0) 819 f_29773)] H := hP
                  replace hD := as_D hP hD rfl
                  refine lv_aload_n hx hb dX12_layHour_119 rfl (lv_at hl 4 rfl) (va_get (ci := 12) (v := .ref tf) (C := RX12) (T := TX12) (N := 60) hx hb hts hw12 hown hK hP 0 rfl rfl 43 (by decide +kernel) (hts _ mm_X12_layHour_873) (fun _ h9 => h9) rfl dX12_layHour_120 (lv_iload hx hb dX12_layHour_123 (lv_at hl 0 rfl) (lv_aload_n hx hb dX12_layHour_125 rfl (lv_at hl 4 rfl) (va_get (ci := 12) (v := .ref w0) (C := RX12) (T := TX12) (N := 60) hx hb hts hw12 hown hK hP 0 rfl rfl 3 (by decide +kernel) (hts _ mm_X12_layHour_833) (fun _ h9 => h9) rfl dX12_layHour_126 (lv_bipush (v := 11) hx hb dX12_layHour_129 (by decide +kernel) (lv_iload_n hx hb dX12_layHour_131 rfl (lv_at hl 5 rfl) (lv_iadd hx hb dX12_layHour_132 (lv_topi (fun x_30339 ex_30339 => ?_)))))))))
                  replace hE := hE.trans (Lt_in ex_30339)
                  have hx_30339 : x_30339.toInt = (11 + x.toInt) := by rw [ex_30339]; exact i_add (show (11 : Int32).toInt = 11 from rfl) rfl (by omega)
                  refine va_iald hx hb hK hP 1 0 rfl rfl (i_in hx_30339 (by omega)) dX12_layHour_133 (lv_topi (fun x_30340 ex_30340 => ?_))
                  replace hE := hE.trans (Lt_in ex_30340)
                  have px_30340 := RwOK.at hf_30272_0 hx_30339 (show 0 ≤ (11 + x.toInt) ∧ (11 + x.toInt) < 100 by omega)
                  rw [← ex_30340] at px_30340
                  have hx_30340 := PR.r_11 px_30340 (by omega)
                  refine lv_aload_n hx hb dX12_layHour_134 rfl (lv_at hl 4 rfl) (lv_aload_n hx hb dX12_layHour_135 rfl (lv_at hl 4 rfl) (va_get (ci := 12) (v := .ref w0) (C := RX12) (T := TX12) (N := 60) hx hb hts hw12 hown hK hP 0 rfl rfl 3 (by decide +kernel) (hts _ mm_X12_layHour_833) (fun _ h9 => h9) rfl dX12_layHour_136 (lv_iconst (v := 3) hx hb dX12_layHour_139 (by decide +kernel) (va_iald hx hb hK hP 1 0 rfl rfl (i_in (x := 3) rfl (by omega)) dX12_layHour_140 (lv_topi (fun x_30341 ex_30341 => ?_))))))
                  replace hE := hE.trans (Lt_in ex_30341)
                  have px_30341 := RwOK.at hf_30272_0 (show (3 : Int32).toInt = 3 from rfl) (show 0 ≤ 3 ∧ 3 < 100 by omega)
                  rw [← ex_30341] at px_30341
                  have hx_30341 := PR.r_3 px_30341 (by omega)
                  refine lv_iload_n hx hb dX12_layHour_141 rfl (lv_at hl 5 rfl) (kci (S := Su) (wr := [(cc_l i3 (K 1) 819 f_30338), (cc_l tf (K 0) 819 f_29773)]) (va_runV (As := [.int x_30341, .int x]) (rest := [.int x_30340, .int x_30336, .ref tf]) ⟨hx, hb, hml, hown, hts⟩ (v_burnsOf l D K m0 x_30341 x m_0 m_1 m_2 w0 m_4 m_5 m_6 m_7 m_8 m_9 m_10 m_11 m_12 m_13 m_14 m_15 m_16 m_17 m_18 m_19 m_21 m_22 m_23 m_24 m_25 m_26 m_27 m_28 m_29 m_30 m_31 m_32 m_33 v_30268 e0 m_36 q0 v_30269 v_30270 v_30271 m_41 m_42 (.ref tf) (.ref i3) m_45 m_46 m_47 m_48 m_49 m_50 m_51 m_52 m_53 m_54 m_55 m_56 m_57 m_58 m_59 f_30272 gr f_30273 f_30274 H.size (by first | omega | decide) (by first | omega | decide) (by first | omega | decide) hf_30272_0 hf_30272_1) (cwV 2 hts gX12_layHour_X12_burnsOf rfl rfl rfl (by decide +kernel) ⟨Nat.le_of_ble_eq_true rfl, Nat.le_of_ble_eq_true rfl⟩) (mkV hK hN (hP.sub [0, 1, 2, 3] rfl) (hD.sub [0, 1, 2, 3] (by decide +kernel) rfl) (ci := 12) (q0 := 0) rfl rfl) rfl rfl hl.1 rfl (lv_room (Nat.le_of_ble_eq_true rfl)) dX12_layHour_142 ⟨Nat.le_of_ble_eq_true rfl, Nat.le_of_ble_eq_true rfl⟩) hP hD hS hA [0, 1, 2, 3] [4, 5] rfl rfl (by decide +kernel) (by decide +kernel) (fun r_30342 u_30343 H locs hw hP0 hD0 hS0 => ?_))
                  replace hP : va_P D vwCl [(cc_l i3 (K 1) 819 f_30338), (cc_l tf (K 0) 819 f_29773), (cc_O m0 12 [m_0, m_1, m_2, .ref w0, m_4, m_5, m_6, m_7, m_8, m_9, m_10, m_11, m_12, m_13, m_14, m_15, m_16, m_17, m_18, m_19, .int 0, m_21, m_22, m_23, m_24, m_25, m_26, m_27, m_28, m_29, m_30, m_31, m_32, m_33, .int (u_30343.2.2.2.1 0), .ref e0, m_36, .ref q0, .int (u_30343.2.2.2.1 1), .long (u_30343.2.2.2.2.1 0), .long (u_30343.2.2.2.2.1 1), m_41, m_42, .ref tf, .ref i3, m_45, m_46, m_47, m_48, m_49, m_50, m_51, m_52, m_53, m_54, m_55, m_56, m_57, m_58, m_59]), (cc_l w0 (K 0) 5500 f_30272), (cc_rl e0 (K 2) 13 (u_30343.2.2.1 0)), (cc_rl q0 (K 2) 400 (u_30343.2.2.1 1))] H := hP0
                  replace hD := as_D hP hD0 rfl
                  replace hS := hS0
                  clear hP0 hD0 hS0
                  obtain ⟨h_30346, k_30344, k_30345, -⟩ := hw
                  replace hE := (((((hE.trans (Lt2_in k_30345)).trans (Lt2_in rfl)).trans (Lt2_in rfl)).trans (Lt2_in rfl)).trans (Lt2_in rfl)).trans (Lt2_in rfl)
                  refine lv_isub hx hb dX12_layHour_145 (lv_topi (fun x_30347 ex_30347 => ?_))
                  replace hE := hE.trans (Lt_in ex_30347)
                  have hx_30347 : x_30347.toInt = (x_30340.toInt - r_30342.toInt) := by rw [ex_30347]; exact i_sub rfl rfl (by omega)
                  refine lv_i2l hx hb dX12_layHour_146 rfl (lv_topl (fun x_30348 ex_30348 => ?_))
                  replace hE := hE.trans (Lt_in ex_30348)
                  have hx_30348 : x_30348.toInt = (x_30340.toInt - r_30342.toInt) := by rw [ex_30348]; exact i_wide hx_30347
                  refine lv_iconst (v := 0) hx hb dX12_layHour_147 (by decide +kernel) (lv_bipush (v := 20) hx hb dX12_layHour_148 (by decide +kernel) (pci (va_runS (As := [.long x_30348, .int 0, .int 20]) (rest := [.int x_30336, .ref tf]) ⟨hx, hb, hml, hown, hts⟩ (v_within_20 l D K x_30348 H.size) (va_cwS 3 hts gX12_layHour_X12_within rfl rfl rfl (by decide +kernel) ⟨Nat.le_of_ble_eq_true rfl, Nat.le_of_ble_eq_true rfl⟩) (mkS hK hN (va_P.nil) (va_D.nil (A := fun _ => True))) rfl rfl hl.1 rfl (lv_room (Nat.le_of_ble_eq_true rfl)) dX12_layHour_150 ⟨Nat.le_of_ble_eq_true rfl, Nat.le_of_ble_eq_true rfl⟩) (fun r_30349 hw => ?_)))
                  obtain ⟨h_30351, k_30350, -⟩ := hw
                  replace hE := hE.trans (Lt_in k_30350)
                  refine va_iast hx hb hK hP hD hS 1 0 rfl rfl (i_in hx_30336 (by omega)) dX12_layHour_153 (fun H locs hP0 hD0 hS0 => ?_)
                  replace hP := hP0
                  replace hD := hD0
                  replace hS := hS0
                  clear hP0 hD0 hS0
                  generalize hf_30352 : (upd f_29773 (x_30336 : Int32).toNatClampNeg r_30349) = f_30352 at hP hD
                  replace hE := hE.trans (Lt_in hf_30352.symm)
                  have hf_30352_0 : Rg 819 0 20 f_30352 := by rw [← hf_30352]; exact Rg.upd hf_29773_0 rfl (by omega)
                  replace hP : va_P D vwCl [(cc_l i3 (K 1) 819 f_30338), (cc_l tf (K 0) 819 f_30352), (cc_O m0 12 [m_0, m_1, m_2, .ref w0, m_4, m_5, m_6, m_7, m_8, m_9, m_10, m_11, m_12, m_13, m_14, m_15, m_16, m_17, m_18, m_19, .int 0, m_21, m_22, m_23, m_24, m_25, m_26, m_27, m_28, m_29, m_30, m_31, m_32, m_33, .int (u_30343.2.2.2.1 0), .ref e0, m_36, .ref q0, .int (u_30343.2.2.2.1 1), .long (u_30343.2.2.2.2.1 0), .long (u_30343.2.2.2.2.1 1), m_41, m_42, .ref tf, .ref i3, m_45, m_46, m_47, m_48, m_49, m_50, m_51, m_52, m_53, m_54, m_55, m_56, m_57, m_58, m_59]), (cc_l w0 (K 0) 5500 f_30272), (cc_rl e0 (K 2) 13 (u_30343.2.2.1 0)), (cc_rl q0 (K 2) 400 (u_30343.2.2.1 1))] H := hP
                  replace hD := as_D hP hD rfl
                  obtain ⟨x_30353, ex_30353⟩ : ∃ y : Int32, y = v_29763 + Int32.ofInt 1 := ⟨_, rfl⟩
                  replace hE := hE.trans (Lt_in ex_30353)
                  have hx_30353 : x_30353.toInt = (v_29763.toInt + 1) := by rw [ex_30353]; exact i_add rfl (show (Int32.ofInt 1).toInt = 1 from rfl) (by omega)
                  refine lv_iinc (v := x_30353) (lv' := [(6, .int x_30353), (7, .int x_30336), (5, .int v_30267), (4, .int v_26094), (0, .ref m0), (1, .int x), (2, .int y), (3, .int z)]) hx hb dX12_layHour_154 hl (k := 2) rfl (by rw [ex_30353]) (by decide +kernel) rfl (fun ls hl => ?_)
                  refine lv_goto (tgt := 27) hx hb dX12_layHour_157 (by decide +kernel) ?_
                  exact ih_30216 x_30353 v_30267 (u_30343.2.2.2.1 0) (u_30343.2.2.2.1 1) (u_30343.2.2.2.2.1 0) (u_30343.2.2.2.2.1 1) f_30272 (u_30343.2.2.1 0) (u_30343.2.2.1 1) f_30338 f_30352 (by rw [hx_30353]; omega) (by omega) (by omega) hf_30272_0 hf_30272_1 hf_30352_0 (by omega) (hE.trans (by rw [hrec_30215])) _ _ (hP.sub [2, 3, 4, 5, 0, 1] rfl) (hD.sub [2, 3, 4, 5, 0, 1] (by decide +kernel) rfl) hS ls (lv_sub hl [0, 2, 3, 4, 5, 6, 7] rfl)
                · have c_30337i := i_ne (x := v_30267.toInt) (y := 0) rfl rfl c_30337
                  replace hE := hE.trans (if_neg c_30337)
                  refine lv_aload_n hx hb dX12_layHour_104 rfl (lv_at hl 4 rfl) (lv_iload_n hx hb dX12_layHour_105 rfl (lv_at hl 5 rfl) (pci (va_runV (As := [.int x]) (rest := [.int x_30336, .ref i3]) ⟨hx, hb, hml, hown, hts⟩ (v_isSounding l D K m0 x m_0 m_1 m_2 w0 m_4 m_5 m_6 m_7 m_8 m_9 m_10 m_11 m_12 m_13 m_14 m_15 m_16 m_17 m_18 m_19 (.int 0) m_21 m_22 m_23 m_24 m_25 m_26 m_27 m_28 m_29 m_30 m_31 m_32 m_33 (.int v_30268) (.ref e0) m_36 (.ref q0) (.int v_30269) (.long v_30270) (.long v_30271) m_41 m_42 (.ref tf) (.ref i3) m_45 m_46 m_47 m_48 m_49 m_50 m_51 m_52 m_53 m_54 m_55 m_56 m_57 m_58 m_59 f_30272 H.size (by first | omega | decide) hf_30272_0) (cwV 1 hts gX12_layHour_X12_isSounding rfl rfl rfl (by decide +kernel) ⟨Nat.le_of_ble_eq_true rfl, Nat.le_of_ble_eq_true rfl⟩) (mkV hK hN (hP.sub [0, 1] rfl) (hD.sub [0, 1] (by decide +kernel) rfl) (ci := 12) (q0 := 0) rfl rfl) rfl rfl hl.1 rfl (lv_room (Nat.le_of_ble_eq_true rfl)) dX12_layHour_106 ⟨Nat.le_of_ble_eq_true rfl, Nat.le_of_ble_eq_true rfl⟩) (fun r_30354 hw => ?_)))
                  obtain ⟨h_30356, k_30355, -⟩ := hw
                  replace hE := hE.trans (Lt_in k_30355)
                  refine lv_iload_n hx hb dX12_layHour_109 rfl (lv_at hl 7 rfl) (lv_icmp_ne (tgt := 117) hx hb dX12_layHour_110 (by decide +kernel) (fun c_30357 => ?_) (fun c_30357 => ?_))
                  · have c_30357i := i_ne (x := r_30354.toInt) (y := z.toInt) rfl rfl c_30357
                    replace hE := hE.trans (if_neg c_30357)
                    refine lv_iconst (v := 0) hx hb dX12_layHour_117 (by decide +kernel) (va_zast hx hb hK hP hD hS 4 1 rfl rfl (i_in hx_30336 (by omega)) dX12_layHour_118 (fun H locs hP0 hD0 hS0 => ?_))
                    replace hP := hP0
                    replace hD := hD0
                    replace hS := hS0
                    clear hP0 hD0 hS0
                    generalize hf_30358 : (upd f_29772 (x_30336 : Int32).toNatClampNeg (vp_nar .boolean 0)) = f_30358 at hP hD
                    replace hE := hE.trans (Lt_in hf_30358.symm)
                    replace hP : va_P D vwCl [(cc_O m0 12 [m_0, m_1, m_2, .ref w0, m_4, m_5, m_6, m_7, m_8, m_9, m_10, m_11, m_12, m_13, m_14, m_15, m_16, m_17, m_18, m_19, .int 0, m_21, m_22, m_23, m_24, m_25, m_26, m_27, m_28, m_29, m_30, m_31, m_32, m_33, .int v_30268, .ref e0, m_36, .ref q0, .int v_30269, .long v_30270, .long v_30271, m_41, m_42, .ref tf, .ref i3, m_45, m_46, m_47, m_48, m_49, m_50, m_51, m_52, m_53, m_54, m_55, m_56, m_57, m_58, m_59]), (cc_l w0 (K 0) 5500 f_30272), (cc_rl e0 (K 2) 13 f_30273), (cc_rl q0 (K 2) 400 f_30274), (cc_l i3 (K 1) 819 f_30358), (cc_l tf (K 0) 819 f_29773)] H := hP
                    replace hD := as_D hP hD rfl
                    refine lv_aload_n hx hb dX12_layHour_119 rfl (lv_at hl 4 rfl) (va_get (ci := 12) (v := .ref tf) (C := RX12) (T := TX12) (N := 60) hx hb hts hw12 hown hK hP 0 rfl rfl 43 (by decide +kernel) (hts _ mm_X12_layHour_873) (fun _ h9 => h9) rfl dX12_layHour_120 (lv_iload hx hb dX12_layHour_123 (lv_at hl 0 rfl) (lv_aload_n hx hb dX12_layHour_125 rfl (lv_at hl 4 rfl) (va_get (ci := 12) (v := .ref w0) (C := RX12) (T := TX12) (N := 60) hx hb hts hw12 hown hK hP 0 rfl rfl 3 (by decide +kernel) (hts _ mm_X12_layHour_833) (fun _ h9 => h9) rfl dX12_layHour_126 (lv_bipush (v := 11) hx hb dX12_layHour_129 (by decide +kernel) (lv_iload_n hx hb dX12_layHour_131 rfl (lv_at hl 5 rfl) (lv_iadd hx hb dX12_layHour_132 (lv_topi (fun x_30359 ex_30359 => ?_)))))))))
                    replace hE := hE.trans (Lt_in ex_30359)
                    have hx_30359 : x_30359.toInt = (11 + x.toInt) := by rw [ex_30359]; exact i_add (show (11 : Int32).toInt = 11 from rfl) rfl (by omega)
                    refine va_iald hx hb hK hP 1 0 rfl rfl (i_in hx_30359 (by omega)) dX12_layHour_133 (lv_topi (fun x_30360 ex_30360 => ?_))
                    replace hE := hE.trans (Lt_in ex_30360)
                    have px_30360 := RwOK.at hf_30272_0 hx_30359 (show 0 ≤ (11 + x.toInt) ∧ (11 + x.toInt) < 100 by omega)
                    rw [← ex_30360] at px_30360
                    have hx_30360 := PR.r_11 px_30360 (by omega)
                    refine lv_aload_n hx hb dX12_layHour_134 rfl (lv_at hl 4 rfl) (lv_aload_n hx hb dX12_layHour_135 rfl (lv_at hl 4 rfl) (va_get (ci := 12) (v := .ref w0) (C := RX12) (T := TX12) (N := 60) hx hb hts hw12 hown hK hP 0 rfl rfl 3 (by decide +kernel) (hts _ mm_X12_layHour_833) (fun _ h9 => h9) rfl dX12_layHour_136 (lv_iconst (v := 3) hx hb dX12_layHour_139 (by decide +kernel) (va_iald hx hb hK hP 1 0 rfl rfl (i_in (x := 3) rfl (by omega)) dX12_layHour_140 (lv_topi (fun x_30361 ex_30361 => ?_))))))
                    replace hE := hE.trans (Lt_in ex_30361)
                    have px_30361 := RwOK.at hf_30272_0 (show (3 : Int32).toInt = 3 from rfl) (show 0 ≤ 3 ∧ 3 < 100 by omega)
                    rw [← ex_30361] at px_30361
                    have hx_30361 := PR.r_3 px_30361 (by omega)
                    refine lv_iload_n hx hb dX12_layHour_141 rfl (lv_at hl 5 rfl) (kci (S := Su) (wr := [(cc_l i3 (K 1) 819 f_30358), (cc_l tf (K 0) 819 f_29773)]) (va_runV (As := [.int x_30361, .int x]) (rest := [.int x_30360, .int x_30336, .ref tf]) ⟨hx, hb, hml, hown, hts⟩ (v_burnsOf l D K m0 x_30361 x m_0 m_1 m_2 w0 m_4 m_5 m_6 m_7 m_8 m_9 m_10 m_11 m_12 m_13 m_14 m_15 m_16 m_17 m_18 m_19 m_21 m_22 m_23 m_24 m_25 m_26 m_27 m_28 m_29 m_30 m_31 m_32 m_33 v_30268 e0 m_36 q0 v_30269 v_30270 v_30271 m_41 m_42 (.ref tf) (.ref i3) m_45 m_46 m_47 m_48 m_49 m_50 m_51 m_52 m_53 m_54 m_55 m_56 m_57 m_58 m_59 f_30272 gr f_30273 f_30274 H.size (by first | omega | decide) (by first | omega | decide) (by first | omega | decide) hf_30272_0 hf_30272_1) (cwV 2 hts gX12_layHour_X12_burnsOf rfl rfl rfl (by decide +kernel) ⟨Nat.le_of_ble_eq_true rfl, Nat.le_of_ble_eq_true rfl⟩) (mkV hK hN (hP.sub [0, 1, 2, 3] rfl) (hD.sub [0, 1, 2, 3] (by decide +kernel) rfl) (ci := 12) (q0 := 0) rfl rfl) rfl rfl hl.1 rfl (lv_room (Nat.le_of_ble_eq_true rfl)) dX12_layHour_142 ⟨Nat.le_of_ble_eq_true rfl, Nat.le_of_ble_eq_true rfl⟩) hP hD hS hA [0, 1, 2, 3] [4, 5] rfl rfl (by decide +kernel) (by decide +kernel) (fun r_30362 u_30363 H locs hw hP0 hD0 hS0 => ?_))
                    replace hP : va_P D vwCl [(cc_l i3 (K 1) 819 f_30358), (cc_l tf (K 0) 819 f_29773), (cc_O m0 12 [m_0, m_1, m_2, .ref w0, m_4, m_5, m_6, m_7, m_8, m_9, m_10, m_11, m_12, m_13, m_14, m_15, m_16, m_17, m_18, m_19, .int 0, m_21, m_22, m_23, m_24, m_25, m_26, m_27, m_28, m_29, m_30, m_31, m_32, m_33, .int (u_30363.2.2.2.1 0), .ref e0, m_36, .ref q0, .int (u_30363.2.2.2.1 1), .long (u_30363.2.2.2.2.1 0), .long (u_30363.2.2.2.2.1 1), m_41, m_42, .ref tf, .ref i3, m_45, m_46, m_47, m_48, m_49, m_50, m_51, m_52, m_53, m_54, m_55, m_56, m_57, m_58, m_59]), (cc_l w0 (K 0) 5500 f_30272), (cc_rl e0 (K 2) 13 (u_30363.2.2.1 0)), (cc_rl q0 (K 2) 400 (u_30363.2.2.1 1))] H := hP0
                    replace hD := as_D hP hD0 rfl
                    replace hS := hS0
                    clear hP0 hD0 hS0
                    obtain ⟨h_30366, k_30364, k_30365, -⟩ := hw
                    replace hE := (((((hE.trans (Lt2_in k_30365)).trans (Lt2_in rfl)).trans (Lt2_in rfl)).trans (Lt2_in rfl)).trans (Lt2_in rfl)).trans (Lt2_in rfl)
                    refine lv_isub hx hb dX12_layHour_145 (lv_topi (fun x_30367 ex_30367 => ?_))
                    replace hE := hE.trans (Lt_in ex_30367)
                    have hx_30367 : x_30367.toInt = (x_30360.toInt - r_30362.toInt) := by rw [ex_30367]; exact i_sub rfl rfl (by omega)
                    refine lv_i2l hx hb dX12_layHour_146 rfl (lv_topl (fun x_30368 ex_30368 => ?_))
                    replace hE := hE.trans (Lt_in ex_30368)
                    have hx_30368 : x_30368.toInt = (x_30360.toInt - r_30362.toInt) := by rw [ex_30368]; exact i_wide hx_30367
                    refine lv_iconst (v := 0) hx hb dX12_layHour_147 (by decide +kernel) (lv_bipush (v := 20) hx hb dX12_layHour_148 (by decide +kernel) (pci (va_runS (As := [.long x_30368, .int 0, .int 20]) (rest := [.int x_30336, .ref tf]) ⟨hx, hb, hml, hown, hts⟩ (v_within_20 l D K x_30368 H.size) (va_cwS 3 hts gX12_layHour_X12_within rfl rfl rfl (by decide +kernel) ⟨Nat.le_of_ble_eq_true rfl, Nat.le_of_ble_eq_true rfl⟩) (mkS hK hN (va_P.nil) (va_D.nil (A := fun _ => True))) rfl rfl hl.1 rfl (lv_room (Nat.le_of_ble_eq_true rfl)) dX12_layHour_150 ⟨Nat.le_of_ble_eq_true rfl, Nat.le_of_ble_eq_true rfl⟩) (fun r_30369 hw => ?_)))
                    obtain ⟨h_30371, k_30370, -⟩ := hw
                    replace hE := hE.trans (Lt_in k_30370)
                    refine va_iast hx hb hK hP hD hS 1 0 rfl rfl (i_in hx_30336 (by omega)) dX12_layHour_153 (fun H locs hP0 hD0 hS0 => ?_)
                    replace hP := hP0
                    replace hD := hD0
                    replace hS := hS0
                    clear hP0 hD0 hS0
                    generalize hf_30372 : (upd f_29773 (x_30336 : Int32).toNatClampNeg r_30369) = f_30372 at hP hD
                    replace hE := hE.trans (Lt_in hf_30372.symm)
                    have hf_30372_0 : Rg 819 0 20 f_30372 := by rw [← hf_30372]; exact Rg.upd hf_29773_0 rfl (by omega)
                    replace hP : va_P D vwCl [(cc_l i3 (K 1) 819 f_30358), (cc_l tf (K 0) 819 f_30372), (cc_O m0 12 [m_0, m_1, m_2, .ref w0, m_4, m_5, m_6, m_7, m_8, m_9, m_10, m_11, m_12, m_13, m_14, m_15, m_16, m_17, m_18, m_19, .int 0, m_21, m_22, m_23, m_24, m_25, m_26, m_27, m_28, m_29, m_30, m_31, m_32, m_33, .int (u_30363.2.2.2.1 0), .ref e0, m_36, .ref q0, .int (u_30363.2.2.2.1 1), .long (u_30363.2.2.2.2.1 0), .long (u_30363.2.2.2.2.1 1), m_41, m_42, .ref tf, .ref i3, m_45, m_46, m_47, m_48, m_49, m_50, m_51, m_52, m_53, m_54, m_55, m_56, m_57, m_58, m_59]), (cc_l w0 (K 0) 5500 f_30272), (cc_rl e0 (K 2) 13 (u_30363.2.2.1 0)), (cc_rl q0 (K 2) 400 (u_30363.2.2.1 1))] H := hP
                    replace hD := as_D hP hD rfl
                    obtain ⟨x_30373, ex_30373⟩ : ∃ y : Int32, y = v_29763 + Int32.ofInt 1 := ⟨_, rfl⟩
                    replace hE := hE.trans (Lt_in ex_30373)
                    have hx_30373 : x_30373.toInt = (v_29763.toInt + 1) := by rw [ex_30373]; exact i_add rfl (show (Int32.ofInt 1).toInt = 1 from rfl) (by omega)
                    refine lv_iinc (v := x_30373) (lv' := [(6, .int x_30373), (7, .int x_30336), (5, .int v_30267), (4, .int v_26094), (0, .ref m0), (1, .int x), (2, .int y), (3, .int z)]) hx hb dX12_layHour_154 hl (k := 2) rfl (by rw [ex_30373]) (by decide +kernel) rfl (fun ls hl => ?_)
                    refine lv_goto (tgt := 27) hx hb dX12_layHour_157 (by decide +kernel) ?_
                    exact ih_30216 x_30373 v_30267 (u_30363.2.2.2.1 0) (u_30363.2.2.2.1 1) (u_30363.2.2.2.2.1 0) (u_30363.2.2.2.2.1 1) f_30272 (u_30363.2.2.1 0) (u_30363.2.2.1 1) f_30358 f_30372 (by rw [hx_30373]; omega) (by omega) (by omega) hf_30272_0 hf_30272_1 hf_30372_0 (by omega) (hE.trans (by rw [hrec_30215])) _ _ (hP.sub [2, 3, 4, 5, 0, 1] rfl) (hD.sub [2, 3, 4, 5, 0, 1] (by decide +kernel) rfl) hS ls (lv_sub hl [0, 2, 3, 4, 5, 6, 7] rfl)
                  · have c_30357i := i_eq (x := r_30354.toInt) (y := z.toInt) rfl rfl c_30357
                    replace hE := hE.trans (if_pos c_30357)
                    refine lv_iconst (v := 1) hx hb dX12_layHour_113 (by decide +kernel) (lv_goto (tgt := 118) hx hb dX12_layHour_114 (by decide +kernel) (va_zast hx hb hK hP hD hS 4 1 rfl rfl (i_in hx_30336 (by omega)) dX12_layHour_118 (fun H locs hP0 hD0 hS0 => ?_)))
                    replace hP := hP0
                    replace hD := hD0
                    replace hS := hS0
                    clear hP0 hD0 hS0
                    generalize hf_30374 : (upd f_29772 (x_30336 : Int32).toNatClampNeg (vp_nar .boolean 1)) = f_30374 at hP hD
                    replace hE := hE.trans (Lt_in hf_30374.symm)
                    replace hP : va_P D vwCl [(cc_O m0 12 [m_0, m_1, m_2, .ref w0, m_4, m_5, m_6, m_7, m_8, m_9, m_10, m_11, m_12, m_13, m_14, m_15, m_16, m_17, m_18, m_19, .int 0, m_21, m_22, m_23, m_24, m_25, m_26, m_27, m_28, m_29, m_30, m_31, m_32, m_33, .int v_30268, .ref e0, m_36, .ref q0, .int v_30269, .long v_30270, .long v_30271, m_41, m_42, .ref tf, .ref i3, m_45, m_46, m_47, m_48, m_49, m_50, m_51, m_52, m_53, m_54, m_55, m_56, m_57, m_58, m_59]), (cc_l w0 (K 0) 5500 f_30272), (cc_rl e0 (K 2) 13 f_30273), (cc_rl q0 (K 2) 400 f_30274), (cc_l i3 (K 1) 819 f_30374), (cc_l tf (K 0) 819 f_29773)] H := hP
                    replace hD := as_D hP hD rfl
                    refine lv_aload_n hx hb dX12_layHour_119 rfl (lv_at hl 4 rfl) (va_get (ci := 12) (v := .ref tf) (C := RX12) (T := TX12) (N := 60) hx hb hts hw12 hown hK hP 0 rfl rfl 43 (by decide +kernel) (hts _ mm_X12_layHour_873) (fun _ h9 => h9) rfl dX12_layHour_120 (lv_iload hx hb dX12_layHour_123 (lv_at hl 0 rfl) (lv_aload_n hx hb dX12_layHour_125 rfl (lv_at hl 4 rfl) (va_get (ci := 12) (v := .ref w0) (C := RX12) (T := TX12) (N := 60) hx hb hts hw12 hown hK hP 0 rfl rfl 3 (by decide +kernel) (hts _ mm_X12_layHour_833) (fun _ h9 => h9) rfl dX12_layHour_126 (lv_bipush (v := 11) hx hb dX12_layHour_129 (by decide +kernel) (lv_iload_n hx hb dX12_layHour_131 rfl (lv_at hl 5 rfl) (lv_iadd hx hb dX12_layHour_132 (lv_topi (fun x_30375 ex_30375 => ?_)))))))))
                    replace hE := hE.trans (Lt_in ex_30375)
                    have hx_30375 : x_30375.toInt = (11 + x.toInt) := by rw [ex_30375]; exact i_add (show (11 : Int32).toInt = 11 from rfl) rfl (by omega)
                    refine va_iald hx hb hK hP 1 0 rfl rfl (i_in hx_30375 (by omega)) dX12_layHour_133 (lv_topi (fun x_30376 ex_30376 => ?_))
                    replace hE := hE.trans (Lt_in ex_30376)
                    have px_30376 := RwOK.at hf_30272_0 hx_30375 (show 0 ≤ (11 + x.toInt) ∧ (11 + x.toInt) < 100 by omega)
                    rw [← ex_30376] at px_30376
                    have hx_30376 := PR.r_11 px_30376 (by omega)
                    refine lv_aload_n hx hb dX12_layHour_134 rfl (lv_at hl 4 rfl) (lv_aload_n hx hb dX12_layHour_135 rfl (lv_at hl 4 rfl) (va_get (ci := 12) (v := .ref w0) (C := RX12) (T := TX12) (N := 60) hx hb hts hw12 hown hK hP 0 rfl rfl 3 (by decide +kernel) (hts _ mm_X12_layHour_833) (fun _ h9 => h9) rfl dX12_layHour_136 (lv_iconst (v := 3) hx hb dX12_layHour_139 (by decide +kernel) (va_iald hx hb hK hP 1 0 rfl rfl (i_in (x := 3) rfl (by omega)) dX12_layHour_140 (lv_topi (fun x_30377 ex_30377 => ?_))))))
                    replace hE := hE.trans (Lt_in ex_30377)
                    have px_30377 := RwOK.at hf_30272_0 (show (3 : Int32).toInt = 3 from rfl) (show 0 ≤ 3 ∧ 3 < 100 by omega)
                    rw [← ex_30377] at px_30377
                    have hx_30377 := PR.r_3 px_30377 (by omega)
                    refine lv_iload_n hx hb dX12_layHour_141 rfl (lv_at hl 5 rfl) (kci (S := Su) (wr := [(cc_l i3 (K 1) 819 f_30374), (cc_l tf (K 0) 819 f_29773)]) (va_runV (As := [.int x_30377, .int x]) (rest := [.int x_30376, .int x_30336, .ref tf]) ⟨hx, hb, hml, hown, hts⟩ (v_burnsOf l D K m0 x_30377 x m_0 m_1 m_2 w0 m_4 m_5 m_6 m_7 m_8 m_9 m_10 m_11 m_12 m_13 m_14 m_15 m_16 m_17 m_18 m_19 m_21 m_22 m_23 m_24 m_25 m_26 m_27 m_28 m_29 m_30 m_31 m_32 m_33 v_30268 e0 m_36 q0 v_30269 v_30270 v_30271 m_41 m_42 (.ref tf) (.ref i3) m_45 m_46 m_47 m_48 m_49 m_50 m_51 m_52 m_53 m_54 m_55 m_56 m_57 m_58 m_59 f_30272 gr f_30273 f_30274 H.size (by first | omega | decide) (by first | omega | decide) (by first | omega | decide) hf_30272_0 hf_30272_1) (cwV 2 hts gX12_layHour_X12_burnsOf rfl rfl rfl (by decide +kernel) ⟨Nat.le_of_ble_eq_true rfl, Nat.le_of_ble_eq_true rfl⟩) (mkV hK hN (hP.sub [0, 1, 2, 3] rfl) (hD.sub [0, 1, 2, 3] (by decide +kernel) rfl) (ci := 12) (q0 := 0) rfl rfl) rfl rfl hl.1 rfl (lv_room (Nat.le_of_ble_eq_true rfl)) dX12_layHour_142 ⟨Nat.le_of_ble_eq_true rfl, Nat.le_of_ble_eq_true rfl⟩) hP hD hS hA [0, 1, 2, 3] [4, 5] rfl rfl (by decide +kernel) (by decide +kernel) (fun r_30378 u_30379 H locs hw hP0 hD0 hS0 => ?_))
                    replace hP : va_P D vwCl [(cc_l i3 (K 1) 819 f_30374), (cc_l tf (K 0) 819 f_29773), (cc_O m0 12 [m_0, m_1, m_2, .ref w0, m_4, m_5, m_6, m_7, m_8, m_9, m_10, m_11, m_12, m_13, m_14, m_15, m_16, m_17, m_18, m_19, .int 0, m_21, m_22, m_23, m_24, m_25, m_26, m_27, m_28, m_29, m_30, m_31, m_32, m_33, .int (u_30379.2.2.2.1 0), .ref e0, m_36, .ref q0, .int (u_30379.2.2.2.1 1), .long (u_30379.2.2.2.2.1 0), .long (u_30379.2.2.2.2.1 1), m_41, m_42, .ref tf, .ref i3, m_45, m_46, m_47, m_48, m_49, m_50, m_51, m_52, m_53, m_54, m_55, m_56, m_57, m_58, m_59]), (cc_l w0 (K 0) 5500 f_30272), (cc_rl e0 (K 2) 13 (u_30379.2.2.1 0)), (cc_rl q0 (K 2) 400 (u_30379.2.2.1 1))] H := hP0
                    replace hD := as_D hP hD0 rfl
                    replace hS := hS0
                    clear hP0 hD0 hS0
                    obtain ⟨h_30382, k_30380, k_30381, -⟩ := hw
                    replace hE := (((((hE.trans (Lt2_in k_30381)).trans (Lt2_in rfl)).trans (Lt2_in rfl)).trans (Lt2_in rfl)).trans (Lt2_in rfl)).trans (Lt2_in rfl)
                    refine lv_isub hx hb dX12_layHour_145 (lv_topi (fun x_30383 ex_30383 => ?_))
                    replace hE := hE.trans (Lt_in ex_30383)
                    have hx_30383 : x_30383.toInt = (x_30376.toInt - r_30378.toInt) := by rw [ex_30383]; exact i_sub rfl rfl (by omega)
                    refine lv_i2l hx hb dX12_layHour_146 rfl (lv_topl (fun x_30384 ex_30384 => ?_))
                    replace hE := hE.trans (Lt_in ex_30384)
                    have hx_30384 : x_30384.toInt = (x_30376.toInt - r_30378.toInt) := by rw [ex_30384]; exact i_wide hx_30383
                    refine lv_iconst (v := 0) hx hb dX12_layHour_147 (by decide +kernel) (lv_bipush (v := 20) hx hb dX12_layHour_148 (by decide +kernel) (pci (va_runS (As := [.long x_30384, .int 0, .int 20]) (rest := [.int x_30336, .ref tf]) ⟨hx, hb, hml, hown, hts⟩ (v_within_20 l D K x_30384 H.size) (va_cwS 3 hts gX12_layHour_X12_within rfl rfl rfl (by decide +kernel) ⟨Nat.le_of_ble_eq_true rfl, Nat.le_of_ble_eq_true rfl⟩) (mkS hK hN (va_P.nil) (va_D.nil (A := fun _ => True))) rfl rfl hl.1 rfl (lv_room (Nat.le_of_ble_eq_true rfl)) dX12_layHour_150 ⟨Nat.le_of_ble_eq_true rfl, Nat.le_of_ble_eq_true rfl⟩) (fun r_30385 hw => ?_)))
                    obtain ⟨h_30387, k_30386, -⟩ := hw
                    replace hE := hE.trans (Lt_in k_30386)
                    refine va_iast hx hb hK hP hD hS 1 0 rfl rfl (i_in hx_30336 (by omega)) dX12_layHour_153 (fun H locs hP0 hD0 hS0 => ?_)
                    replace hP := hP0
                    replace hD := hD0
                    replace hS := hS0
                    clear hP0 hD0 hS0
                    generalize hf_30388 : (upd f_29773 (x_30336 : Int32).toNatClampNeg r_30385) = f_30388 at hP hD
                    replace hE := hE.trans (Lt_in hf_30388.symm)
                    have hf_30388_0 : Rg 819 0 20 f_30388 := by rw [← hf_30388]; exact Rg.upd hf_29773_0 rfl (by omega)
                    replace hP : va_P D vwCl [(cc_l i3 (K 1) 819 f_30374), (cc_l tf (K 0) 819 f_30388), (cc_O m0 12 [m_0, m_1, m_2, .ref w0, m_4, m_5, m_6, m_7, m_8, m_9, m_10, m_11, m_12, m_13, m_14, m_15, m_16, m_17, m_18, m_19, .int 0, m_21, m_22, m_23, m_24, m_25, m_26, m_27, m_28, m_29, m_30, m_31, m_32, m_33, .int (u_30379.2.2.2.1 0), .ref e0, m_36, .ref q0, .int (u_30379.2.2.2.1 1), .long (u_30379.2.2.2.2.1 0), .long (u_30379.2.2.2.2.1 1), m_41, m_42, .ref tf, .ref i3, m_45, m_46, m_47, m_48, m_49, m_50, m_51, m_52, m_53, m_54, m_55, m_56, m_57, m_58, m_59]), (cc_l w0 (K 0) 5500 f_30272), (cc_rl e0 (K 2) 13 (u_30379.2.2.1 0)), (cc_rl q0 (K 2) 400 (u_30379.2.2.1 1))] H := hP
                    replace hD := as_D hP hD rfl
                    obtain ⟨x_30389, ex_30389⟩ : ∃ y : Int32, y = v_29763 + Int32.ofInt 1 := ⟨_, rfl⟩
                    replace hE := hE.trans (Lt_in ex_30389)
                    have hx_30389 : x_30389.toInt = (v_29763.toInt + 1) := by rw [ex_30389]; exact i_add rfl (show (Int32.ofInt 1).toInt = 1 from rfl) (by omega)
                    refine lv_iinc (v := x_30389) (lv' := [(6, .int x_30389), (7, .int x_30336), (5, .int v_30267), (4, .int v_26094), (0, .ref m0), (1, .int x), (2, .int y), (3, .int z)]) hx hb dX12_layHour_154 hl (k := 2) rfl (by rw [ex_30389]) (by decide +kernel) rfl (fun ls hl => ?_)
                    refine lv_goto (tgt := 27) hx hb dX12_layHour_157 (by decide +kernel) ?_
                    exact ih_30216 x_30389 v_30267 (u_30379.2.2.2.1 0) (u_30379.2.2.2.1 1) (u_30379.2.2.2.2.1 0) (u_30379.2.2.2.2.1 1) f_30272 (u_30379.2.2.1 0) (u_30379.2.2.1 1) f_30374 f_30388 (by rw [hx_30389]; omega) (by omega) (by omega) hf_30272_0 hf_30272_1 hf_30388_0 (by omega) (hE.trans (by rw [hrec_30215])) _ _ (hP.sub [2, 3, 4, 5, 0, 1] rfl) (hD.sub [2, 3, 4, 5, 0, 1] (by decide +kernel) rfl) hS ls (lv_sub hl [0, 2, 3, 4, 5, 6, 7] rfl)
              have j_30390 : ∀ (v_30259 : Int32) (v_30260 : Int32) (v_30261 : Int64) (v_30262 : Int64) (f_30263 : Nat → Int64) (f_30264 : Nat → Int64) (hv_30260 : 0 ≤ v_30260.toInt ∧ v_30260.toInt ≤ 1) (hE : E_v_layHour x y z lw bro val sm fw fe frs fi ft = E_v_layHour_j55 x y z v_26094 v_29763 f_29769 f_29772 f_29773 rec_30215 v_30259 v_30260 v_30261 v_30262 f_30263 f_30264) (H : Heap) (locs : List Loc) (hP : va_P D vwCl [(cc_O m0 12 [m_0, m_1, m_2, .ref w0, m_4, m_5, m_6, m_7, m_8, m_9, m_10, m_11, m_12, m_13, m_14, m_15, m_16, m_17, m_18, m_19, .int 0, m_21, m_22, m_23, m_24, m_25, m_26, m_27, m_28, m_29, m_30, m_31, m_32, m_33, .int v_30259, .ref e0, m_36, .ref q0, .int v_30260, .long v_30261, .long v_30262, m_41, m_42, .ref tf, .ref i3, m_45, m_46, m_47, m_48, m_49, m_50, m_51, m_52, m_53, m_54, m_55, m_56, m_57, m_58, m_59]), (cc_l w0 (K 0) 5500 f_29769), (cc_rl e0 (K 2) 13 f_30263), (cc_rl q0 (K 2) 400 f_30264), (cc_l i3 (K 1) 819 f_29772), (cc_l tf (K 0) 819 f_29773)] H) (hD : va_D A [(cc_O m0 12 [m_0, m_1, m_2, .ref w0, m_4, m_5, m_6, m_7, m_8, m_9, m_10, m_11, m_12, m_13, m_14, m_15, m_16, m_17, m_18, m_19, .int 0, m_21, m_22, m_23, m_24, m_25, m_26, m_27, m_28, m_29, m_30, m_31, m_32, m_33, .int v_30259, .ref e0, m_36, .ref q0, .int v_30260, .long v_30261, .long v_30262, m_41, m_42, .ref tf, .ref i3, m_45, m_46, m_47, m_48, m_49, m_50, m_51, m_52, m_53, m_54, m_55, m_56, m_57, m_58, m_59]), (cc_l w0 (K 0) 5500 f_29769), (cc_rl e0 (K 2) 13 f_30263), (cc_rl q0 (K 2) 400 f_30264), (cc_l i3 (K 1) 819 f_29772), (cc_l tf (K 0) 819 f_29773)]) (hS : va_S A s.heap H locs) (ls : Array Slot) (hl : lv_has ls 8 [(6, .int v_29763), (4, .int v_26094), (0, .ref m0), (1, .int x), (2, .int y), (3, .int z)]), W p l e ({ frames := 6, cells := 0, slots := 0, locals := 146 }) s m (([.ref m0, .int x, .int y, .int z] : List Value).toArray) below meth c H locs 0 0 Q (F0 m 55 ls []) := by
                clear hE hP hD hS hl
                intro v_30259 v_30260 v_30261 v_30262 f_30263 f_30264 hv_30260 hE H locs hP hD hS ls hl
                replace hE := hE.trans (E_v_layHour_j55.eq_def _ _ _ _ _ _ _ _ _ _ _ _ _ _ _)
                refine lv_iconst (v := 0) hx hb dX12_layHour_55 (by decide +kernel) (lv_istore (lv' := [(5, .int 0), (6, .int v_29763), (4, .int v_26094), (0, .ref m0), (1, .int x), (2, .int y), (3, .int z)]) hx hb dX12_layHour_56 hl (by decide +kernel) rfl (fun ls hl => ?_))
                refine lv_iload hx hb dX12_layHour_58 (lv_at hl 1 rfl) (lv_if_le (tgt := 79) hx hb dX12_layHour_60 (by decide +kernel) (fun c_30391 => ?_) (fun c_30391 => ?_))
                · have c_30391i := i_le (x := v_29763.toInt) (y := 0) rfl rfl c_30391
                  replace hE := hE.trans (if_pos c_30391)
                  exact j_30332 0 v_30259 v_30260 v_30261 v_30262 f_29769 f_30263 f_30264 (by decide +kernel) (by omega) hf_29769_0 hf_29769_1 hE _ _ hP hD hS ls (lv_sub hl [0, 1, 2, 3, 4, 5, 6] rfl)
                · have c_30391i := i_nle (x := v_29763.toInt) (y := 0) rfl rfl c_30391
                  replace hE := hE.trans (if_neg c_30391)
                  refine lv_iload hx hb dX12_layHour_63 (lv_at hl 0 rfl) (lv_if_eq (tgt := 79) hx hb dX12_layHour_65 (by decide +kernel) (fun c_30392 => ?_) (fun c_30392 => absurd (by decide +kernel) c_30392))
                  exact j_30332 0 v_30259 v_30260 v_30261 v_30262 f_29769 f_30263 f_30264 (by decide +kernel) (by omega) hf_29769_0 hf_29769_1 hE _ _ hP hD hS ls (lv_sub hl [0, 1, 2, 3, 4, 5, 6] rfl)
              refine lv_if_eq (tgt := 55) hx hb dX12_layHour_35 (by decide +kernel) (fun c_30393 => ?_) (fun c_30393 => ?_)
              · have c_30393i := i_eq (x := v_29764.toInt) (y := 0) rfl rfl c_30393
                replace hE := hE.trans (if_pos c_30393)
                exact j_30390 v_29765 v_29766 v_29767 v_29768 f_29770 f_29771 (by omega) hE _ _ hP hD hS ls (lv_sub hl [0, 2, 3, 4, 5, 6] rfl)
              · have c_30393i := i_ne (x := v_29764.toInt) (y := 0) rfl rfl c_30393
                replace hE := hE.trans (if_neg c_30393)
                refine lv_iload hx hb dX12_layHour_38 (lv_at hl 0 rfl) ?_
                have j_30416 : ∀ (v_30401 : Int32) (v_30402 : Int32) (v_30403 : Int64) (v_30404 : Int64) (f_30405 : Nat → Int64) (f_30406 : Nat → Int64) (hv_30402 : 0 ≤ v_30402.toInt ∧ v_30402.toInt ≤ 1) (hE : E_v_layHour x y z lw bro val sm fw fe frs fi ft = E_v_layHour_j51 x y z v_26094 v_29763 f_29769 f_29772 f_29773 rec_30215 v_30401 v_30402 v_30403 v_30404 f_30405 f_30406) (H : Heap) (locs : List Loc) (hP : va_P D vwCl [(cc_O m0 12 [m_0, m_1, m_2, .ref w0, m_4, m_5, m_6, m_7, m_8, m_9, m_10, m_11, m_12, m_13, m_14, m_15, m_16, m_17, m_18, m_19, .int 0, m_21, m_22, m_23, m_24, m_25, m_26, m_27, m_28, m_29, m_30, m_31, m_32, m_33, .int v_30401, .ref e0, m_36, .ref q0, .int v_30402, .long v_30403, .long v_30404, m_41, m_42, .ref tf, .ref i3, m_45, m_46, m_47, m_48, m_49, m_50, m_51, m_52, m_53, m_54, m_55, m_56, m_57, m_58, m_59]), (cc_l w0 (K 0) 5500 f_29769), (cc_rl e0 (K 2) 13 f_30405), (cc_rl q0 (K 2) 400 f_30406), (cc_l i3 (K 1) 819 f_29772), (cc_l tf (K 0) 819 f_29773)] H) (hD : va_D A [(cc_O m0 12 [m_0, m_1, m_2, .ref w0, m_4, m_5, m_6, m_7, m_8, m_9, m_10, m_11, m_12, m_13, m_14, m_15, m_16, m_17, m_18, m_19, .int 0, m_21, m_22, m_23, m_24, m_25, m_26, m_27, m_28, m_29, m_30, m_31, m_32, m_33, .int v_30401, .ref e0, m_36, .ref q0, .int v_30402, .long v_30403, .long v_30404, m_41, m_42, .ref tf, .ref i3, m_45, m_46, m_47, m_48, m_49, m_50, m_51, m_52, m_53, m_54, m_55, m_56, m_57, m_58, m_59]), (cc_l w0 (K 0) 5500 f_29769), (cc_rl e0 (K 2) 13 f_30405), (cc_rl q0 (K 2) 400 f_30406), (cc_l i3 (K 1) 819 f_29772), (cc_l tf (K 0) 819 f_29773)]) (hS : va_S A s.heap H locs) (ls : Array Slot) (hl : lv_has ls 8 [(6, .int v_29763), (4, .int v_26094), (0, .ref m0), (1, .int x), (2, .int y), (3, .int z)]), W p l e ({ frames := 6, cells := 0, slots := 0, locals := 146 }) s m (([.ref m0, .int x, .int y, .int z] : List Value).toArray) below meth c H locs 0 0 Q (F0 m 51 ls []) := by
                  clear hE hP hD hS hl
                  intro v_30401 v_30402 v_30403 v_30404 f_30405 f_30406 hv_30402 hE H locs hP hD hS ls hl
                  replace hE := hE.trans (E_v_layHour_j51.eq_def _ _ _ _ _ _ _ _ _ _ _ _ _ _ _)
                  refine lv_iconst (v := 1) hx hb dX12_layHour_51 (by decide +kernel) (lv_goto (tgt := 56) hx hb dX12_layHour_52 (by decide +kernel) (lv_istore (lv' := [(5, .int 1), (6, .int v_29763), (4, .int v_26094), (0, .ref m0), (1, .int x), (2, .int y), (3, .int z)]) hx hb dX12_layHour_56 hl (by decide +kernel) rfl (fun ls hl => ?_)))
                  refine lv_iload hx hb dX12_layHour_58 (lv_at hl 1 rfl) (lv_if_le (tgt := 79) hx hb dX12_layHour_60 (by decide +kernel) (fun c_30417 => ?_) (fun c_30417 => ?_))
                  · have c_30417i := i_le (x := v_29763.toInt) (y := 0) rfl rfl c_30417
                    replace hE := hE.trans (if_pos c_30417)
                    exact j_30332 1 v_30401 v_30402 v_30403 v_30404 f_29769 f_30405 f_30406 (by decide +kernel) (by omega) hf_29769_0 hf_29769_1 hE _ _ hP hD hS ls (lv_sub hl [0, 1, 2, 3, 4, 5, 6] rfl)
                  · have c_30417i := i_nle (x := v_29763.toInt) (y := 0) rfl rfl c_30417
                    replace hE := hE.trans (if_neg c_30417)
                    refine lv_iload hx hb dX12_layHour_63 (lv_at hl 0 rfl) (lv_if_eq (tgt := 79) hx hb dX12_layHour_65 (by decide +kernel) (fun c_30418 => absurd c_30418 (by decide +kernel)) (fun c_30418 => ?_))
                    refine lv_aload_n hx hb dX12_layHour_68 rfl (lv_at hl 3 rfl) (lv_aload_n hx hb dX12_layHour_69 rfl (lv_at hl 3 rfl) (va_get (ci := 12) (v := .ref w0) (C := RX12) (T := TX12) (N := 60) hx hb hts hw12 hown hK hP 0 rfl rfl 3 (by decide +kernel) (hts _ mm_X12_layHour_833) (fun _ h9 => h9) rfl dX12_layHour_70 (lv_iconst (v := 3) hx hb dX12_layHour_73 (by decide +kernel) (va_iald hx hb hK hP 1 0 rfl rfl (i_in (x := 3) rfl (by omega)) dX12_layHour_74 (lv_topi (fun x_30419 ex_30419 => ?_))))))
                    replace hE := hE.trans (Lt_in ex_30419)
                    have px_30419 := RwOK.at hf_29769_0 (show (3 : Int32).toInt = 3 from rfl) (show 0 ≤ 3 ∧ 3 < 100 by omega)
                    rw [← ex_30419] at px_30419
                    have hx_30419 := PR.r_3 px_30419 (by omega)
                    refine lv_iload_n hx hb dX12_layHour_75 rfl (lv_at hl 4 rfl) (kcv (S := Su) (wr := [(cc_l i3 (K 1) 819 f_29772), (cc_l tf (K 0) 819 f_29773)]) (va_runV (As := [.int x_30419, .int x]) (rest := []) ⟨hx, hb, hml, hown, hts⟩ (v_flare l D K m0 x_30419 x m_0 m_1 m_2 w0 m_4 m_5 m_6 m_7 m_8 m_9 m_10 m_11 m_12 m_13 m_14 m_15 m_16 m_17 m_18 m_19 m_21 m_22 m_23 m_24 m_25 m_26 m_27 m_28 m_29 m_30 m_31 m_32 m_33 v_30401 e0 m_36 q0 v_30402 v_30403 v_30404 m_41 m_42 (.ref tf) (.ref i3) m_45 m_46 m_47 m_48 m_49 m_50 m_51 m_52 m_53 m_54 m_55 m_56 m_57 m_58 m_59 f_29769 gr f_30405 f_30406 H.size (by first | omega | decide) (by first | omega | decide) (by first | omega | decide) hf_29769_0 hf_29769_1) (cwV 2 hts gX12_layHour_X12_flare rfl rfl rfl (by decide +kernel) ⟨Nat.le_of_ble_eq_true rfl, Nat.le_of_ble_eq_true rfl⟩) (mkV hK hN (hP.sub [0, 1, 2, 3] rfl) (hD.sub [0, 1, 2, 3] (by decide +kernel) rfl) (ci := 12) (q0 := 0) rfl rfl) rfl rfl hl.1 rfl (lv_room (Nat.le_of_ble_eq_true rfl)) dX12_layHour_76 ⟨Nat.le_of_ble_eq_true rfl, Nat.le_of_ble_eq_true rfl⟩) hP hD hS hA [0, 1, 2, 3] [4, 5] rfl rfl (by decide +kernel) (by decide +kernel) (fun u_30421 H locs hw hP0 hD0 hS0 => ?_))
                    replace hP : va_P D vwCl [(cc_l i3 (K 1) 819 f_29772), (cc_l tf (K 0) 819 f_29773), (cc_O m0 12 [m_0, m_1, m_2, .ref w0, m_4, m_5, m_6, m_7, m_8, m_9, m_10, m_11, m_12, m_13, m_14, m_15, m_16, m_17, m_18, m_19, .int 0, m_21, m_22, m_23, m_24, m_25, m_26, m_27, m_28, m_29, m_30, m_31, m_32, m_33, .int (u_30421.2.2.2.1 0), .ref e0, m_36, .ref q0, .int (u_30421.2.2.2.1 1), .long (u_30421.2.2.2.2.1 0), .long (u_30421.2.2.2.2.1 1), m_41, m_42, .ref tf, .ref i3, m_45, m_46, m_47, m_48, m_49, m_50, m_51, m_52, m_53, m_54, m_55, m_56, m_57, m_58, m_59]), (cc_l w0 (K 0) 5500 (u_30421.2.1 0)), (cc_rl e0 (K 2) 13 (u_30421.2.2.1 0)), (cc_rl q0 (K 2) 400 (u_30421.2.2.1 1))] H := hP0
                    replace hD := as_D hP hD0 rfl
                    replace hS := hS0
                    clear hP0 hD0 hS0
                    obtain ⟨k_30422, k_30423, k_30424, k_30425, -⟩ := hw
                    replace hE := (((((hE.trans (Lt2_in k_30425)).trans (Lt2_in rfl)).trans (Lt2_in rfl)).trans (Lt2_in rfl)).trans (Lt2_in rfl)).trans (Lt2_in rfl)
                    exact j_30332 1 (u_30421.2.2.2.1 0) (u_30421.2.2.2.1 1) (u_30421.2.2.2.2.1 0) (u_30421.2.2.2.2.1 1) (u_30421.2.1 0) (u_30421.2.2.1 0) (u_30421.2.2.1 1) (by decide +kernel) (by omega) k_30423 k_30424 hE _ _ (hP.sub [2, 3, 4, 5, 0, 1] rfl) (hD.sub [2, 3, 4, 5, 0, 1] (by decide +kernel) rfl) hS ls (lv_sub hl [0, 1, 2, 3, 4, 5, 6] rfl)
                refine lv_if_eq (tgt := 51) hx hb dX12_layHour_40 (by decide +kernel) (fun c_30426 => ?_) (fun c_30426 => ?_)
                · have c_30426i := i_eq (x := v_29763.toInt) (y := 0) rfl rfl c_30426
                  replace hE := hE.trans (if_pos c_30426)
                  exact j_30416 v_29765 v_29766 v_29767 v_29768 f_29770 f_29771 (by omega) hE _ _ hP hD hS ls (lv_sub hl [0, 2, 3, 4, 5, 6] rfl)
                · have c_30426i := i_ne (x := v_29763.toInt) (y := 0) rfl rfl c_30426
                  replace hE := hE.trans (if_neg c_30426)
                  refine lv_aload_n hx hb dX12_layHour_43 rfl (lv_at hl 3 rfl) (lv_iload_n hx hb dX12_layHour_44 rfl (lv_at hl 4 rfl) (kci (S := Su) (wr := [(cc_l i3 (K 1) 819 f_29772), (cc_l tf (K 0) 819 f_29773)]) (va_runV (As := [.int x]) (rest := []) ⟨hx, hb, hml, hown, hts⟩ (v_isBarred l D K m0 x m_0 m_1 m_2 w0 m_4 m_5 m_6 m_7 m_8 m_9 m_10 m_11 m_12 m_13 m_14 m_15 m_16 m_17 m_18 m_19 m_21 m_22 m_23 m_24 m_25 m_26 m_27 m_28 m_29 m_30 m_31 m_32 m_33 v_29765 e0 m_36 q0 v_29766 v_29767 v_29768 m_41 m_42 (.ref tf) (.ref i3) m_45 m_46 m_47 m_48 m_49 m_50 m_51 m_52 m_53 m_54 m_55 m_56 m_57 m_58 m_59 f_29769 gr f_29770 f_29771 H.size (by first | omega | decide) (by first | omega | decide) hf_29769_0 hf_29769_1) (cwV 1 hts gX12_layHour_X12_isBarred rfl rfl rfl (by decide +kernel) ⟨Nat.le_of_ble_eq_true rfl, Nat.le_of_ble_eq_true rfl⟩) (mkV hK hN (hP.sub [0, 1, 2, 3] rfl) (hD.sub [0, 1, 2, 3] (by decide +kernel) rfl) (ci := 12) (q0 := 0) rfl rfl) rfl rfl hl.1 rfl (lv_room (Nat.le_of_ble_eq_true rfl)) dX12_layHour_45 ⟨Nat.le_of_ble_eq_true rfl, Nat.le_of_ble_eq_true rfl⟩) hP hD hS hA [0, 1, 2, 3] [4, 5] rfl rfl (by decide +kernel) (by decide +kernel) (fun r_30427 u_30428 H locs hw hP0 hD0 hS0 => ?_)))
                  replace hP : va_P D vwCl [(cc_l i3 (K 1) 819 f_29772), (cc_l tf (K 0) 819 f_29773), (cc_O m0 12 [m_0, m_1, m_2, .ref w0, m_4, m_5, m_6, m_7, m_8, m_9, m_10, m_11, m_12, m_13, m_14, m_15, m_16, m_17, m_18, m_19, .int 0, m_21, m_22, m_23, m_24, m_25, m_26, m_27, m_28, m_29, m_30, m_31, m_32, m_33, .int (u_30428.2.2.2.1 0), .ref e0, m_36, .ref q0, .int (u_30428.2.2.2.1 1), .long (u_30428.2.2.2.2.1 0), .long (u_30428.2.2.2.2.1 1), m_41, m_42, .ref tf, .ref i3, m_45, m_46, m_47, m_48, m_49, m_50, m_51, m_52, m_53, m_54, m_55, m_56, m_57, m_58, m_59]), (cc_l w0 (K 0) 5500 f_29769), (cc_rl e0 (K 2) 13 (u_30428.2.2.1 0)), (cc_rl q0 (K 2) 400 (u_30428.2.2.1 1))] H := hP0
                  replace hD := as_D hP hD0 rfl
                  replace hS := hS0
                  clear hP0 hD0 hS0
                  obtain ⟨h_30431, k_30429, k_30430, -⟩ := hw
                  replace hE := (((((hE.trans (Lt2_in k_30430)).trans (Lt2_in rfl)).trans (Lt2_in rfl)).trans (Lt2_in rfl)).trans (Lt2_in rfl)).trans (Lt2_in rfl)
                  refine lv_if_ne (tgt := 55) hx hb dX12_layHour_48 (by decide +kernel) (fun c_30432 => ?_) (fun c_30432 => ?_)
                  · have c_30432i := i_ne (x := r_30427.toInt) (y := 0) rfl rfl c_30432
                    replace hE := hE.trans (if_neg c_30432)
                    exact j_30390 (u_30428.2.2.2.1 0) (u_30428.2.2.2.1 1) (u_30428.2.2.2.2.1 0) (u_30428.2.2.2.2.1 1) (u_30428.2.2.1 0) (u_30428.2.2.1 1) (by omega) hE _ _ (hP.sub [2, 3, 4, 5, 0, 1] rfl) (hD.sub [2, 3, 4, 5, 0, 1] (by decide +kernel) rfl) hS ls (lv_sub hl [0, 2, 3, 4, 5, 6] rfl)
                  · have c_30432i := i_eq (x := r_30427.toInt) (y := 0) rfl rfl c_30432
                    replace hE := hE.trans (if_pos c_30432)
                    exact j_30416 (u_30428.2.2.2.1 0) (u_30428.2.2.2.1 1) (u_30428.2.2.2.2.1 0) (u_30428.2.2.2.2.1 1) (u_30428.2.2.1 0) (u_30428.2.2.1 1) (by omega) hE _ _ (hP.sub [2, 3, 4, 5, 0, 1] rfl) (hD.sub [2, 3, 4, 5, 0, 1] (by decide +kernel) rfl) hS ls (lv_sub hl [0, 2, 3, 4, 5, 6] rfl)
        exact lp_30215 ((4 - (0 : Int32).toInt : Int).toNat + 1) 0 1 v_26095 v_26096 v_26097 v_26098 f_28996 f_26100 f_26101 f_26102 f_26103 (by decide +kernel) (by decide +kernel) (by omega) hf_28996_0 hf_28996_1 hf_26103_0 (Nat.lt_succ_self _) hE _ _ hP hD hS ls (lv_sub hl [0, 1, 2, 3, 4, 5, 6] rfl)
  exact lp_28992 ((22 - (0 : Int32).toInt : Int).toNat + 1) 0 lw bro val sm fw fe frs fi ft (by decide +kernel) (by omega) zfw zgr zft (Nat.lt_succ_self _) hE _ _ hP hD hS ls (lv_sub hl [0, 1, 2, 3, 4] rfl)
