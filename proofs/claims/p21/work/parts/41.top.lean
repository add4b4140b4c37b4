theorem dX11_of_79 : decode cX11_of 79 = .ok (.tableswitch 73 8 10 #[25, 41, 57], 25) := by decide +kernel
theorem BX11_settle_0 : bsegs (ByteArray.data cX11_settle |>.toList.drop 0) 0 [(0, [28]), (1, [156, 0, 9]), (4, [42]), (5, [28]), (6, [182, 0, 101]), (9, [172]), (10, [42]), (11, [180, 0, 61]), (14, [27]), (15, [182, 1, 44]), (18, [42]), (19, [28]), (20, [182, 0, 118]), (23, [172])] = true := by decide +kernel
theorem dX11_settle_0 : decode cX11_settle 0 = .ok (.iload_n 2, 1) := dk_28 (bs_at BX11_settle_0 0 rfl)
theorem dX11_settle_1 : decode cX11_settle 1 = .ok (.ifCond .ge 9, 3) := dk_156 0 9 (bs_at BX11_settle_0 1 rfl) rfl
theorem dX11_settle_4 : decode cX11_settle 4 = .ok (.aload_n 0, 1) := dk_42 (bs_at BX11_settle_0 2 rfl)
theorem dX11_settle_5 : decode cX11_settle 5 = .ok (.iload_n 2, 1) := dk_28 (bs_at BX11_settle_0 3 rfl)
theorem dX11_settle_6 : decode cX11_settle 6 = .ok (.invokevirtual 101, 3) := dk_182 0 101 (bs_at BX11_settle_0 4 rfl) rfl
theorem dX11_settle_9 : decode cX11_settle 9 = .ok (.ireturn, 1) := dk_172 (bs_at BX11_settle_0 5 rfl)
theorem dX11_settle_10 : decode cX11_settle 10 = .ok (.aload_n 0, 1) := dk_42 (bs_at BX11_settle_0 6 rfl)
theorem dX11_settle_11 : decode cX11_settle 11 = .ok (.getfield 61, 3) := dk_180 0 61 (bs_at BX11_settle_0 7 rfl) rfl
theorem dX11_settle_14 : decode cX11_settle 14 = .ok (.iload_n 1, 1) := dk_27 (bs_at BX11_settle_0 8 rfl)
theorem dX11_settle_15 : decode cX11_settle 15 = .ok (.invokevirtual 300, 3) := dk_182 1 44 (bs_at BX11_settle_0 9 rfl) rfl
theorem dX11_settle_18 : decode cX11_settle 18 = .ok (.aload_n 0, 1) := dk_42 (bs_at BX11_settle_0 10 rfl)
theorem dX11_settle_19 : decode cX11_settle 19 = .ok (.iload_n 2, 1) := dk_28 (bs_at BX11_settle_0 11 rfl)
theorem dX11_settle_20 : decode cX11_settle 20 = .ok (.invokevirtual 118, 3) := dk_182 0 118 (bs_at BX11_settle_0 12 rfl) rfl
theorem dX11_settle_23 : decode cX11_settle 23 = .ok (.ireturn, 1) := dk_172 (bs_at BX11_settle_0 13 rfl)
theorem BX11_house_0 : bsegs (ByteArray.data cX11_house |>.toList.drop 0) 0 [(0, [27]), (1, [3]), (2, [16, 6]), (4, [184, 0, 97]), (7, [153, 0, 16]), (10, [28]), (11, [3]), (12, [6]), (13, [184, 0, 97]), (16, [153, 0, 7]), (19, [4]), (20, [167, 0, 4]), (23, [3]), (24, [54, 6]), (26, [21, 4]), (28, [3]), (29, [16, 7]), (31, [184, 0, 97]), (34, [153, 0, 18]), (37, [21, 5]), (39, [3]), (40, [16, 7]), (42, [184, 0, 97]), (45, [153, 0, 7])] = true := by decide +kernel
theorem dX11_house_0 : decode cX11_house 0 = .ok (.iload_n 1, 1) := dk_27 (bs_at BX11_house_0 0 rfl)
theorem dX11_house_1 : decode cX11_house 1 = .ok (.iconst 0, 1) := dk_3 (bs_at BX11_house_0 1 rfl)
theorem dX11_house_2 : decode cX11_house 2 = .ok (.bipush 6, 2) := dk_16 6 (bs_at BX11_house_0 2 rfl) rfl
theorem dX11_house_4 : decode cX11_house 4 = .ok (.invokestatic 97, 3) := dk_184 0 97 (bs_at BX11_house_0 3 rfl) rfl
theorem dX11_house_7 : decode cX11_house 7 = .ok (.ifCond .eq 16, 3) := dk_153 0 16 (bs_at BX11_house_0 4 rfl) rfl
theorem dX11_house_10 : decode cX11_house 10 = .ok (.iload_n 2, 1) := dk_28 (bs_at BX11_house_0 5 rfl)
theorem dX11_house_11 : decode cX11_house 11 = .ok (.iconst 0, 1) := dk_3 (bs_at BX11_house_0 6 rfl)
theorem dX11_house_12 : decode cX11_house 12 = .ok (.iconst 3, 1) := dk_6 (bs_at BX11_house_0 7 rfl)
theorem dX11_house_13 : decode cX11_house 13 = .ok (.invokestatic 97, 3) := dk_184 0 97 (bs_at BX11_house_0 8 rfl) rfl
theorem dX11_house_16 : decode cX11_house 16 = .ok (.ifCond .eq 7, 3) := dk_153 0 7 (bs_at BX11_house_0 9 rfl) rfl
theorem dX11_house_19 : decode cX11_house 19 = .ok (.iconst 1, 1) := dk_4 (bs_at BX11_house_0 10 rfl)
theorem dX11_house_20 : decode cX11_house 20 = .ok (.goto 4, 3) := dk_167 0 4 (bs_at BX11_house_0 11 rfl) rfl
theorem dX11_house_23 : decode cX11_house 23 = .ok (.iconst 0, 1) := dk_3 (bs_at BX11_house_0 12 rfl)
theorem dX11_house_24 : decode cX11_house 24 = .ok (.istore 6, 2) := dk_54 6 (bs_at BX11_house_0 13 rfl)
theorem dX11_house_26 : decode cX11_house 26 = .ok (.iload 4, 2) := dk_21 4 (bs_at BX11_house_0 14 rfl)
theorem dX11_house_28 : decode cX11_house 28 = .ok (.iconst 0, 1) := dk_3 (bs_at BX11_house_0 15 rfl)
theorem dX11_house_29 : decode cX11_house 29 = .ok (.bipush 7, 2) := dk_16 7 (bs_at BX11_house_0 16 rfl) rfl
theorem dX11_house_31 : decode cX11_house 31 = .ok (.invokestatic 97, 3) := dk_184 0 97 (bs_at BX11_house_0 17 rfl) rfl
theorem dX11_house_34 : decode cX11_house 34 = .ok (.ifCond .eq 18, 3) := dk_153 0 18 (bs_at BX11_house_0 18 rfl) rfl
theorem dX11_house_37 : decode cX11_house 37 = .ok (.iload 5, 2) := dk_21 5 (bs_at BX11_house_0 19 rfl)
theorem dX11_house_39 : decode cX11_house 39 = .ok (.iconst 0, 1) := dk_3 (bs_at BX11_house_0 20 rfl)
theorem dX11_house_40 : decode cX11_house 40 = .ok (.bipush 7, 2) := dk_16 7 (bs_at BX11_house_0 21 rfl) rfl
theorem dX11_house_42 : decode cX11_house 42 = .ok (.invokestatic 97, 3) := dk_184 0 97 (bs_at BX11_house_0 22 rfl) rfl
theorem dX11_house_45 : decode cX11_house 45 = .ok (.ifCond .eq 7, 3) := dk_153 0 7 (bs_at BX11_house_0 23 rfl) rfl
theorem BX11_house_48 : bsegs (ByteArray.data cX11_house |>.toList.drop 48) 48 [(48, [4]), (49, [167, 0, 4]), (52, [3]), (53, [54, 7]), (55, [21, 6]), (57, [153, 0, 19]), (60, [21, 7]), (62, [153, 0, 14]), (65, [29]), (66, [3]), (67, [17, 3, 231]), (70, [184, 0, 97]), (73, [154, 0, 9]), (76, [42]), (77, [2]), (78, [182, 0, 101]), (81, [172]), (82, [42]), (83, [180, 0, 10]), (86, [21, 4]), (88, [182, 0, 105]), (91, [2]), (92, [159, 0, 10]), (95, [42])] = true := by decide +kernel
theorem dX11_house_48 : decode cX11_house 48 = .ok (.iconst 1, 1) := dk_4 (bs_at BX11_house_48 0 rfl)
theorem dX11_house_49 : decode cX11_house 49 = .ok (.goto 4, 3) := dk_167 0 4 (bs_at BX11_house_48 1 rfl) rfl
theorem dX11_house_52 : decode cX11_house 52 = .ok (.iconst 0, 1) := dk_3 (bs_at BX11_house_48 2 rfl)
theorem dX11_house_53 : decode cX11_house 53 = .ok (.istore 7, 2) := dk_54 7 (bs_at BX11_house_48 3 rfl)
theorem dX11_house_55 : decode cX11_house 55 = .ok (.iload 6, 2) := dk_21 6 (bs_at BX11_house_48 4 rfl)
theorem dX11_house_57 : decode cX11_house 57 = .ok (.ifCond .eq 19, 3) := dk_153 0 19 (bs_at BX11_house_48 5 rfl) rfl
theorem dX11_house_60 : decode cX11_house 60 = .ok (.iload 7, 2) := dk_21 7 (bs_at BX11_house_48 6 rfl)
theorem dX11_house_62 : decode cX11_house 62 = .ok (.ifCond .eq 14, 3) := dk_153 0 14 (bs_at BX11_house_48 7 rfl) rfl
theorem dX11_house_65 : decode cX11_house 65 = .ok (.iload_n 3, 1) := dk_29 (bs_at BX11_house_48 8 rfl)
theorem dX11_house_66 : decode cX11_house 66 = .ok (.iconst 0, 1) := dk_3 (bs_at BX11_house_48 9 rfl)
theorem dX11_house_67 : decode cX11_house 67 = .ok (.sipush 999, 3) := dk_17 3 231 (bs_at BX11_house_48 10 rfl) rfl
theorem dX11_house_70 : decode cX11_house 70 = .ok (.invokestatic 97, 3) := dk_184 0 97 (bs_at BX11_house_48 11 rfl) rfl
theorem dX11_house_73 : decode cX11_house 73 = .ok (.ifCond .ne 9, 3) := dk_154 0 9 (bs_at BX11_house_48 12 rfl) rfl
theorem dX11_house_76 : decode cX11_house 76 = .ok (.aload_n 0, 1) := dk_42 (bs_at BX11_house_48 13 rfl)
theorem dX11_house_77 : decode cX11_house 77 = .ok (.iconst (-1), 1) := dk_2 (bs_at BX11_house_48 14 rfl)
theorem dX11_house_78 : decode cX11_house 78 = .ok (.invokevirtual 101, 3) := dk_182 0 101 (bs_at BX11_house_48 15 rfl) rfl
theorem dX11_house_81 : decode cX11_house 81 = .ok (.ireturn, 1) := dk_172 (bs_at BX11_house_48 16 rfl)
theorem dX11_house_82 : decode cX11_house 82 = .ok (.aload_n 0, 1) := dk_42 (bs_at BX11_house_48 17 rfl)
theorem dX11_house_83 : decode cX11_house 83 = .ok (.getfield 10, 3) := dk_180 0 10 (bs_at BX11_house_48 18 rfl) rfl
theorem dX11_house_86 : decode cX11_house 86 = .ok (.iload 4, 2) := dk_21 4 (bs_at BX11_house_48 19 rfl)
theorem dX11_house_88 : decode cX11_house 88 = .ok (.invokevirtual 105, 3) := dk_182 0 105 (bs_at BX11_house_48 20 rfl) rfl
theorem dX11_house_91 : decode cX11_house 91 = .ok (.iconst (-1), 1) := dk_2 (bs_at BX11_house_48 21 rfl)
theorem dX11_house_92 : decode cX11_house 92 = .ok (.if_icmp .eq 10, 3) := dk_159 0 10 (bs_at BX11_house_48 22 rfl) rfl
theorem dX11_house_95 : decode cX11_house 95 = .ok (.aload_n 0, 1) := dk_42 (bs_at BX11_house_48 23 rfl)
theorem BX11_house_96 : bsegs (ByteArray.data cX11_house |>.toList.drop 96) 96 [(96, [16, 253]), (98, [182, 0, 101]), (101, [172]), (102, [42]), (103, [180, 0, 10]), (106, [180, 0, 108]), (109, [16, 8]), (111, [161, 0, 10]), (114, [42]), (115, [16, 251]), (117, [182, 0, 101]), (120, [172]), (121, [42]), (122, [180, 0, 61]), (125, [182, 0, 111]), (128, [42]), (129, [42]), (130, [180, 0, 10]), (133, [27]), (134, [28]), (135, [29]), (136, [21, 4]), (138, [21, 5]), (140, [182, 0, 114])] = true := by decide +kernel
theorem dX11_house_96 : decode cX11_house 96 = .ok (.bipush (-3), 2) := dk_16 253 (bs_at BX11_house_96 0 rfl) rfl
theorem dX11_house_98 : decode cX11_house 98 = .ok (.invokevirtual 101, 3) := dk_182 0 101 (bs_at BX11_house_96 1 rfl) rfl
theorem dX11_house_101 : decode cX11_house 101 = .ok (.ireturn, 1) := dk_172 (bs_at BX11_house_96 2 rfl)
theorem dX11_house_102 : decode cX11_house 102 = .ok (.aload_n 0, 1) := dk_42 (bs_at BX11_house_96 3 rfl)
theorem dX11_house_103 : decode cX11_house 103 = .ok (.getfield 10, 3) := dk_180 0 10 (bs_at BX11_house_96 4 rfl) rfl
theorem dX11_house_106 : decode cX11_house 106 = .ok (.getfield 108, 3) := dk_180 0 108 (bs_at BX11_house_96 5 rfl) rfl
theorem dX11_house_109 : decode cX11_house 109 = .ok (.bipush 8, 2) := dk_16 8 (bs_at BX11_house_96 6 rfl) rfl
theorem dX11_house_111 : decode cX11_house 111 = .ok (.if_icmp .lt 10, 3) := dk_161 0 10 (bs_at BX11_house_96 7 rfl) rfl
theorem dX11_house_114 : decode cX11_house 114 = .ok (.aload_n 0, 1) := dk_42 (bs_at BX11_house_96 8 rfl)
theorem dX11_house_115 : decode cX11_house 115 = .ok (.bipush (-5), 2) := dk_16 251 (bs_at BX11_house_96 9 rfl) rfl
theorem dX11_house_117 : decode cX11_house 117 = .ok (.invokevirtual 101, 3) := dk_182 0 101 (bs_at BX11_house_96 10 rfl) rfl
theorem dX11_house_120 : decode cX11_house 120 = .ok (.ireturn, 1) := dk_172 (bs_at BX11_house_96 11 rfl)
theorem dX11_house_121 : decode cX11_house 121 = .ok (.aload_n 0, 1) := dk_42 (bs_at BX11_house_96 12 rfl)
theorem dX11_house_122 : decode cX11_house 122 = .ok (.getfield 61, 3) := dk_180 0 61 (bs_at BX11_house_96 13 rfl) rfl
theorem dX11_house_125 : decode cX11_house 125 = .ok (.invokevirtual 111, 3) := dk_182 0 111 (bs_at BX11_house_96 14 rfl) rfl
theorem dX11_house_128 : decode cX11_house 128 = .ok (.aload_n 0, 1) := dk_42 (bs_at BX11_house_96 15 rfl)
theorem dX11_house_129 : decode cX11_house 129 = .ok (.aload_n 0, 1) := dk_42 (bs_at BX11_house_96 16 rfl)
theorem dX11_house_130 : decode cX11_house 130 = .ok (.getfield 10, 3) := dk_180 0 10 (bs_at BX11_house_96 17 rfl) rfl
theorem dX11_house_133 : decode cX11_house 133 = .ok (.iload_n 1, 1) := dk_27 (bs_at BX11_house_96 18 rfl)
theorem dX11_house_134 : decode cX11_house 134 = .ok (.iload_n 2, 1) := dk_28 (bs_at BX11_house_96 19 rfl)
theorem dX11_house_135 : decode cX11_house 135 = .ok (.iload_n 3, 1) := dk_29 (bs_at BX11_house_96 20 rfl)
theorem dX11_house_136 : decode cX11_house 136 = .ok (.iload 4, 2) := dk_21 4 (bs_at BX11_house_96 21 rfl)
theorem dX11_house_138 : decode cX11_house 138 = .ok (.iload 5, 2) := dk_21 5 (bs_at BX11_house_96 22 rfl)
theorem dX11_house_140 : decode cX11_house 140 = .ok (.invokevirtual 114, 3) := dk_182 0 114 (bs_at BX11_house_96 23 rfl) rfl
theorem BX11_house_143 : bsegs (ByteArray.data cX11_house |>.toList.drop 143) 143 [(143, [182, 0, 118]), (146, [172])] = true := by decide +kernel
theorem dX11_house_143 : decode cX11_house 143 = .ok (.invokevirtual 118, 3) := dk_182 0 118 (bs_at BX11_house_143 0 rfl) rfl
theorem dX11_house_146 : decode cX11_house 146 = .ok (.ireturn, 1) := dk_172 (bs_at BX11_house_143 1 rfl)
theorem BX11_of_0 : bsegs (ByteArray.data cX11_of |>.toList.drop 0) 0 [(0, [42]), (1, [180, 0, 10]), (4, [27]), (5, [182, 0, 121]), (8, [154, 0, 5]), (11, [2]), (12, [172]), (13, [28]), (14, [3]), (15, [16, 6]), (17, [184, 0, 97]), (20, [153, 0, 13]), (23, [42]), (24, [180, 0, 10]), (27, [27]), (28, [28]), (29, [182, 0, 125]), (32, [172]), (33, [28]), (34, [16, 7]), (36, [160, 0, 20]), (39, [42]), (40, [180, 0, 10]), (43, [27])] = true := by decide +kernel
theorem dX11_of_0 : decode cX11_of 0 = .ok (.aload_n 0, 1) := dk_42 (bs_at BX11_of_0 0 rfl)
theorem dX11_of_1 : decode cX11_of 1 = .ok (.getfield 10, 3) := dk_180 0 10 (bs_at BX11_of_0 1 rfl) rfl
theorem dX11_of_4 : decode cX11_of 4 = .ok (.iload_n 1, 1) := dk_27 (bs_at BX11_of_0 2 rfl)
theorem dX11_of_5 : decode cX11_of 5 = .ok (.invokevirtual 121, 3) := dk_182 0 121 (bs_at BX11_of_0 3 rfl) rfl
theorem dX11_of_8 : decode cX11_of 8 = .ok (.ifCond .ne 5, 3) := dk_154 0 5 (bs_at BX11_of_0 4 rfl) rfl
theorem dX11_of_11 : decode cX11_of 11 = .ok (.iconst (-1), 1) := dk_2 (bs_at BX11_of_0 5 rfl)
theorem dX11_of_12 : decode cX11_of 12 = .ok (.ireturn, 1) := dk_172 (bs_at BX11_of_0 6 rfl)
theorem dX11_of_13 : decode cX11_of 13 = .ok (.iload_n 2, 1) := dk_28 (bs_at BX11_of_0 7 rfl)
theorem dX11_of_14 : decode cX11_of 14 = .ok (.iconst 0, 1) := dk_3 (bs_at BX11_of_0 8 rfl)
theorem dX11_of_15 : decode cX11_of 15 = .ok (.bipush 6, 2) := dk_16 6 (bs_at BX11_of_0 9 rfl) rfl
theorem dX11_of_17 : decode cX11_of 17 = .ok (.invokestatic 97, 3) := dk_184 0 97 (bs_at BX11_of_0 10 rfl) rfl
theorem dX11_of_20 : decode cX11_of 20 = .ok (.ifCond .eq 13, 3) := dk_153 0 13 (bs_at BX11_of_0 11 rfl) rfl
theorem dX11_of_23 : decode cX11_of 23 = .ok (.aload_n 0, 1) := dk_42 (bs_at BX11_of_0 12 rfl)
theorem dX11_of_24 : decode cX11_of 24 = .ok (.getfield 10, 3) := dk_180 0 10 (bs_at BX11_of_0 13 rfl) rfl
theorem dX11_of_27 : decode cX11_of 27 = .ok (.iload_n 1, 1) := dk_27 (bs_at BX11_of_0 14 rfl)
theorem dX11_of_28 : decode cX11_of 28 = .ok (.iload_n 2, 1) := dk_28 (bs_at BX11_of_0 15 rfl)
theorem dX11_of_29 : decode cX11_of 29 = .ok (.invokevirtual 125, 3) := dk_182 0 125 (bs_at BX11_of_0 16 rfl) rfl
theorem dX11_of_32 : decode cX11_of 32 = .ok (.ireturn, 1) := dk_172 (bs_at BX11_of_0 17 rfl)
theorem dX11_of_33 : decode cX11_of 33 = .ok (.iload_n 2, 1) := dk_28 (bs_at BX11_of_0 18 rfl)
theorem dX11_of_34 : decode cX11_of 34 = .ok (.bipush 7, 2) := dk_16 7 (bs_at BX11_of_0 19 rfl) rfl
theorem dX11_of_36 : decode cX11_of 36 = .ok (.if_icmp .ne 20, 3) := dk_160 0 20 (bs_at BX11_of_0 20 rfl) rfl
theorem dX11_of_39 : decode cX11_of 39 = .ok (.aload_n 0, 1) := dk_42 (bs_at BX11_of_0 21 rfl)
theorem dX11_of_40 : decode cX11_of 40 = .ok (.getfield 10, 3) := dk_180 0 10 (bs_at BX11_of_0 22 rfl) rfl
theorem dX11_of_43 : decode cX11_of 43 = .ok (.iload_n 1, 1) := dk_27 (bs_at BX11_of_0 23 rfl)
theorem BX11_of_44 : bsegs (ByteArray.data cX11_of |>.toList.drop 44) 44 [(44, [182, 0, 129]), (47, [153, 0, 7]), (50, [4]), (51, [167, 0, 4]), (54, [3]), (55, [172]), (56, [42]), (57, [180, 0, 57]), (60, [42]), (61, [180, 0, 10]), (64, [27]), (65, [42]), (66, [180, 0, 10]), (69, [27]), (70, [8]), (71, [182, 0, 125]), (74, [3]), (75, [182, 0, 132]), (78, [28]), (104, [42]), (105, [180, 0, 57]), (108, [42]), (109, [180, 0, 10]), (112, [182, 0, 138])] = true := by decide +kernel
theorem dX11_of_44 : decode cX11_of 44 = .ok (.invokevirtual 129, 3) := dk_182 0 129 (bs_at BX11_of_44 0 rfl) rfl
theorem dX11_of_47 : decode cX11_of 47 = .ok (.ifCond .eq 7, 3) := dk_153 0 7 (bs_at BX11_of_44 1 rfl) rfl
theorem dX11_of_50 : decode cX11_of 50 = .ok (.iconst 1, 1) := dk_4 (bs_at BX11_of_44 2 rfl)
theorem dX11_of_51 : decode cX11_of 51 = .ok (.goto 4, 3) := dk_167 0 4 (bs_at BX11_of_44 3 rfl) rfl
theorem dX11_of_54 : decode cX11_of 54 = .ok (.iconst 0, 1) := dk_3 (bs_at BX11_of_44 4 rfl)
theorem dX11_of_55 : decode cX11_of 55 = .ok (.ireturn, 1) := dk_172 (bs_at BX11_of_44 5 rfl)
theorem dX11_of_56 : decode cX11_of 56 = .ok (.aload_n 0, 1) := dk_42 (bs_at BX11_of_44 6 rfl)
theorem dX11_of_57 : decode cX11_of 57 = .ok (.getfield 57, 3) := dk_180 0 57 (bs_at BX11_of_44 7 rfl) rfl
theorem dX11_of_60 : decode cX11_of 60 = .ok (.aload_n 0, 1) := dk_42 (bs_at BX11_of_44 8 rfl)
theorem dX11_of_61 : decode cX11_of 61 = .ok (.getfield 10, 3) := dk_180 0 10 (bs_at BX11_of_44 9 rfl) rfl
theorem dX11_of_64 : decode cX11_of 64 = .ok (.iload_n 1, 1) := dk_27 (bs_at BX11_of_44 10 rfl)
theorem dX11_of_65 : decode cX11_of 65 = .ok (.aload_n 0, 1) := dk_42 (bs_at BX11_of_44 11 rfl)
theorem dX11_of_66 : decode cX11_of 66 = .ok (.getfield 10, 3) := dk_180 0 10 (bs_at BX11_of_44 12 rfl) rfl
theorem dX11_of_69 : decode cX11_of 69 = .ok (.iload_n 1, 1) := dk_27 (bs_at BX11_of_44 13 rfl)
theorem dX11_of_70 : decode cX11_of 70 = .ok (.iconst 5, 1) := dk_8 (bs_at BX11_of_44 14 rfl)
theorem dX11_of_71 : decode cX11_of 71 = .ok (.invokevirtual 125, 3) := dk_182 0 125 (bs_at BX11_of_44 15 rfl) rfl
theorem dX11_of_74 : decode cX11_of 74 = .ok (.iconst 0, 1) := dk_3 (bs_at BX11_of_44 16 rfl)
theorem dX11_of_75 : decode cX11_of 75 = .ok (.invokevirtual 132, 3) := dk_182 0 132 (bs_at BX11_of_44 17 rfl) rfl
theorem dX11_of_78 : decode cX11_of 78 = .ok (.iload_n 2, 1) := dk_28 (bs_at BX11_of_44 18 rfl)
theorem dX11_of_104 : decode cX11_of 104 = .ok (.aload_n 0, 1) := dk_42 (bs_at BX11_of_44 19 rfl)
theorem dX11_of_105 : decode cX11_of 105 = .ok (.getfield 57, 3) := dk_180 0 57 (bs_at BX11_of_44 20 rfl) rfl
theorem dX11_of_108 : decode cX11_of 108 = .ok (.aload_n 0, 1) := dk_42 (bs_at BX11_of_44 21 rfl)
theorem dX11_of_109 : decode cX11_of 109 = .ok (.getfield 10, 3) := dk_180 0 10 (bs_at BX11_of_44 22 rfl) rfl
theorem dX11_of_112 : decode cX11_of 112 = .ok (.invokevirtual 138, 3) := dk_182 0 138 (bs_at BX11_of_44 23 rfl) rfl
theorem BX11_of_115 : bsegs (ByteArray.data cX11_of |>.toList.drop 115) 115 [(115, [3]), (116, [182, 0, 142]), (119, [172]), (120, [42]), (121, [180, 0, 57]), (124, [42]), (125, [180, 0, 10]), (128, [182, 0, 138]), (131, [4]), (132, [182, 0, 142]), (135, [172]), (136, [42]), (137, [180, 0, 57]), (140, [42]), (141, [180, 0, 10]), (144, [182, 0, 138]), (147, [6]), (148, [182, 0, 142]), (151, [172]), (152, [2]), (153, [172])] = true := by decide +kernel
theorem dX11_of_115 : decode cX11_of 115 = .ok (.iconst 0, 1) := dk_3 (bs_at BX11_of_115 0 rfl)
theorem dX11_of_116 : decode cX11_of 116 = .ok (.invokevirtual 142, 3) := dk_182 0 142 (bs_at BX11_of_115 1 rfl) rfl
theorem dX11_of_119 : decode cX11_of 119 = .ok (.ireturn, 1) := dk_172 (bs_at BX11_of_115 2 rfl)
theorem dX11_of_120 : decode cX11_of 120 = .ok (.aload_n 0, 1) := dk_42 (bs_at BX11_of_115 3 rfl)
theorem dX11_of_121 : decode cX11_of 121 = .ok (.getfield 57, 3) := dk_180 0 57 (bs_at BX11_of_115 4 rfl) rfl
theorem dX11_of_124 : decode cX11_of 124 = .ok (.aload_n 0, 1) := dk_42 (bs_at BX11_of_115 5 rfl)
theorem dX11_of_125 : decode cX11_of 125 = .ok (.getfield 10, 3) := dk_180 0 10 (bs_at BX11_of_115 6 rfl) rfl
theorem dX11_of_128 : decode cX11_of 128 = .ok (.invokevirtual 138, 3) := dk_182 0 138 (bs_at BX11_of_115 7 rfl) rfl
theorem dX11_of_131 : decode cX11_of 131 = .ok (.iconst 1, 1) := dk_4 (bs_at BX11_of_115 8 rfl)
theorem dX11_of_132 : decode cX11_of 132 = .ok (.invokevirtual 142, 3) := dk_182 0 142 (bs_at BX11_of_115 9 rfl) rfl
theorem dX11_of_135 : decode cX11_of 135 = .ok (.ireturn, 1) := dk_172 (bs_at BX11_of_115 10 rfl)
theorem dX11_of_136 : decode cX11_of 136 = .ok (.aload_n 0, 1) := dk_42 (bs_at BX11_of_115 11 rfl)
theorem dX11_of_137 : decode cX11_of 137 = .ok (.getfield 57, 3) := dk_180 0 57 (bs_at BX11_of_115 12 rfl) rfl
theorem dX11_of_140 : decode cX11_of 140 = .ok (.aload_n 0, 1) := dk_42 (bs_at BX11_of_115 13 rfl)
theorem dX11_of_141 : decode cX11_of 141 = .ok (.getfield 10, 3) := dk_180 0 10 (bs_at BX11_of_115 14 rfl) rfl
theorem dX11_of_144 : decode cX11_of 144 = .ok (.invokevirtual 138, 3) := dk_182 0 138 (bs_at BX11_of_115 15 rfl) rfl
theorem dX11_of_147 : decode cX11_of 147 = .ok (.iconst 3, 1) := dk_6 (bs_at BX11_of_115 16 rfl)
theorem dX11_of_148 : decode cX11_of 148 = .ok (.invokevirtual 142, 3) := dk_182 0 142 (bs_at BX11_of_115 17 rfl) rfl
theorem dX11_of_151 : decode cX11_of 151 = .ok (.ireturn, 1) := dk_172 (bs_at BX11_of_115 18 rfl)
theorem dX11_of_152 : decode cX11_of 152 = .ok (.iconst (-1), 1) := dk_2 (bs_at BX11_of_115 19 rfl)
theorem dX11_of_153 : decode cX11_of 153 = .ok (.ireturn, 1) := dk_172 (bs_at BX11_of_115 20 rfl)
theorem BX11_score_0 : bsegs (ByteArray.data cX11_score |>.toList.drop 0) 0 [(0, [27]), (1, [3]), (2, [16, 23]), (4, [184, 0, 97]), (7, [153, 0, 13]), (10, [28]), (11, [3]), (12, [16, 127]), (14, [184, 0, 97]), (17, [154, 0, 9]), (20, [42]), (21, [2]), (22, [182, 0, 101]), (25, [172]), (26, [42]), (27, [180, 0, 10]), (30, [27]), (31, [182, 0, 146]), (34, [62]), (35, [42]), (36, [180, 0, 10]), (39, [180, 0, 149]), (42, [27]), (43, [28])] = true := by decide +kernel
theorem dX11_score_0 : decode cX11_score 0 = .ok (.iload_n 1, 1) := dk_27 (bs_at BX11_score_0 0 rfl)
theorem dX11_score_1 : decode cX11_score 1 = .ok (.iconst 0, 1) := dk_3 (bs_at BX11_score_0 1 rfl)
theorem dX11_score_2 : decode cX11_score 2 = .ok (.bipush 23, 2) := dk_16 23 (bs_at BX11_score_0 2 rfl) rfl
theorem dX11_score_4 : decode cX11_score 4 = .ok (.invokestatic 97, 3) := dk_184 0 97 (bs_at BX11_score_0 3 rfl) rfl
theorem dX11_score_7 : decode cX11_score 7 = .ok (.ifCond .eq 13, 3) := dk_153 0 13 (bs_at BX11_score_0 4 rfl) rfl
theorem dX11_score_10 : decode cX11_score 10 = .ok (.iload_n 2, 1) := dk_28 (bs_at BX11_score_0 5 rfl)
theorem dX11_score_11 : decode cX11_score 11 = .ok (.iconst 0, 1) := dk_3 (bs_at BX11_score_0 6 rfl)
theorem dX11_score_12 : decode cX11_score 12 = .ok (.bipush 127, 2) := dk_16 127 (bs_at BX11_score_0 7 rfl) rfl
theorem dX11_score_14 : decode cX11_score 14 = .ok (.invokestatic 97, 3) := dk_184 0 97 (bs_at BX11_score_0 8 rfl) rfl
theorem dX11_score_17 : decode cX11_score 17 = .ok (.ifCond .ne 9, 3) := dk_154 0 9 (bs_at BX11_score_0 9 rfl) rfl
theorem dX11_score_20 : decode cX11_score 20 = .ok (.aload_n 0, 1) := dk_42 (bs_at BX11_score_0 10 rfl)
theorem dX11_score_21 : decode cX11_score 21 = .ok (.iconst (-1), 1) := dk_2 (bs_at BX11_score_0 11 rfl)
theorem dX11_score_22 : decode cX11_score 22 = .ok (.invokevirtual 101, 3) := dk_182 0 101 (bs_at BX11_score_0 12 rfl) rfl
theorem dX11_score_25 : decode cX11_score 25 = .ok (.ireturn, 1) := dk_172 (bs_at BX11_score_0 13 rfl)
theorem dX11_score_26 : decode cX11_score 26 = .ok (.aload_n 0, 1) := dk_42 (bs_at BX11_score_0 14 rfl)
theorem dX11_score_27 : decode cX11_score 27 = .ok (.getfield 10, 3) := dk_180 0 10 (bs_at BX11_score_0 15 rfl) rfl
theorem dX11_score_30 : decode cX11_score 30 = .ok (.iload_n 1, 1) := dk_27 (bs_at BX11_score_0 16 rfl)
theorem dX11_score_31 : decode cX11_score 31 = .ok (.invokevirtual 146, 3) := dk_182 0 146 (bs_at BX11_score_0 17 rfl) rfl
theorem dX11_score_34 : decode cX11_score 34 = .ok (.istore_n 3, 1) := dk_62 (bs_at BX11_score_0 18 rfl)
theorem dX11_score_35 : decode cX11_score 35 = .ok (.aload_n 0, 1) := dk_42 (bs_at BX11_score_0 19 rfl)
theorem dX11_score_36 : decode cX11_score 36 = .ok (.getfield 10, 3) := dk_180 0 10 (bs_at BX11_score_0 20 rfl) rfl
theorem dX11_score_39 : decode cX11_score 39 = .ok (.getfield 149, 3) := dk_180 0 149 (bs_at BX11_score_0 21 rfl) rfl
theorem dX11_score_42 : decode cX11_score 42 = .ok (.iload_n 1, 1) := dk_27 (bs_at BX11_score_0 22 rfl)
theorem dX11_score_43 : decode cX11_score 43 = .ok (.iload_n 2, 1) := dk_28 (bs_at BX11_score_0 23 rfl)
theorem BX11_score_44 : bsegs (ByteArray.data cX11_score |>.toList.drop 44) 44 [(44, [79]), (45, [42]), (46, [29]), (47, [182, 0, 118]), (50, [172])] = true := by decide +kernel
theorem dX11_score_44 : decode cX11_score 44 = .ok (.iastore, 1) := dk_79 (bs_at BX11_score_44 0 rfl)
theorem dX11_score_45 : decode cX11_score 45 = .ok (.aload_n 0, 1) := dk_42 (bs_at BX11_score_44 1 rfl)
theorem dX11_score_46 : decode cX11_score 46 = .ok (.iload_n 3, 1) := dk_29 (bs_at BX11_score_44 2 rfl)
theorem dX11_score_47 : decode cX11_score 47 = .ok (.invokevirtual 118, 3) := dk_182 0 118 (bs_at BX11_score_44 3 rfl) rfl
theorem dX11_score_50 : decode cX11_score 50 = .ok (.ireturn, 1) := dk_172 (bs_at BX11_score_44 4 rfl)
theorem BX11_chord_0 : bsegs (ByteArray.data cX11_chord |>.toList.drop 0) 0 [(0, [42]), (1, [180, 0, 10]), (4, [27]), (5, [182, 0, 146]), (8, [172])] = true := by decide +kernel
theorem dX11_chord_0 : decode cX11_chord 0 = .ok (.aload_n 0, 1) := dk_42 (bs_at BX11_chord_0 0 rfl)
theorem dX11_chord_1 : decode cX11_chord 1 = .ok (.getfield 10, 3) := dk_180 0 10 (bs_at BX11_chord_0 1 rfl) rfl
theorem dX11_chord_4 : decode cX11_chord 4 = .ok (.iload_n 1, 1) := dk_27 (bs_at BX11_chord_0 2 rfl)
theorem dX11_chord_5 : decode cX11_chord 5 = .ok (.invokevirtual 146, 3) := dk_182 0 146 (bs_at BX11_chord_0 3 rfl) rfl
theorem dX11_chord_8 : decode cX11_chord 8 = .ok (.ireturn, 1) := dk_172 (bs_at BX11_chord_0 4 rfl)
theorem BX11_terms_0 : bsegs (ByteArray.data cX11_terms |>.toList.drop 0) 0 [(0, [27]), (1, [3]), (2, [8]), (3, [184, 0, 97]), (6, [153, 0, 20]), (9, [28]), (10, [178, 0, 152]), (13, [27]), (14, [46]), (15, [178, 0, 155]), (18, [27]), (19, [46]), (20, [184, 0, 97]), (23, [154, 0, 9]), (26, [42]), (27, [2]), (28, [182, 0, 101]), (31, [172]), (32, [42]), (33, [180, 0, 10]), (36, [180, 0, 158]), (39, [27]), (40, [46]), (41, [62])] = true := by decide +kernel
theorem dX11_terms_0 : decode cX11_terms 0 = .ok (.iload_n 1, 1) := dk_27 (bs_at BX11_terms_0 0 rfl)
theorem dX11_terms_1 : decode cX11_terms 1 = .ok (.iconst 0, 1) := dk_3 (bs_at BX11_terms_0 1 rfl)
theorem dX11_terms_2 : decode cX11_terms 2 = .ok (.iconst 5, 1) := dk_8 (bs_at BX11_terms_0 2 rfl)
theorem dX11_terms_3 : decode cX11_terms 3 = .ok (.invokestatic 97, 3) := dk_184 0 97 (bs_at BX11_terms_0 3 rfl) rfl
theorem dX11_terms_6 : decode cX11_terms 6 = .ok (.ifCond .eq 20, 3) := dk_153 0 20 (bs_at BX11_terms_0 4 rfl) rfl
theorem dX11_terms_9 : decode cX11_terms 9 = .ok (.iload_n 2, 1) := dk_28 (bs_at BX11_terms_0 5 rfl)
theorem dX11_terms_10 : decode cX11_terms 10 = .ok (.getstatic 152, 3) := dk_178 0 152 (bs_at BX11_terms_0 6 rfl) rfl
theorem dX11_terms_13 : decode cX11_terms 13 = .ok (.iload_n 1, 1) := dk_27 (bs_at BX11_terms_0 7 rfl)
theorem dX11_terms_14 : decode cX11_terms 14 = .ok (.iaload, 1) := dk_46 (bs_at BX11_terms_0 8 rfl)
theorem dX11_terms_15 : decode cX11_terms 15 = .ok (.getstatic 155, 3) := dk_178 0 155 (bs_at BX11_terms_0 9 rfl) rfl
theorem dX11_terms_18 : decode cX11_terms 18 = .ok (.iload_n 1, 1) := dk_27 (bs_at BX11_terms_0 10 rfl)
theorem dX11_terms_19 : decode cX11_terms 19 = .ok (.iaload, 1) := dk_46 (bs_at BX11_terms_0 11 rfl)
theorem dX11_terms_20 : decode cX11_terms 20 = .ok (.invokestatic 97, 3) := dk_184 0 97 (bs_at BX11_terms_0 12 rfl) rfl
theorem dX11_terms_23 : decode cX11_terms 23 = .ok (.ifCond .ne 9, 3) := dk_154 0 9 (bs_at BX11_terms_0 13 rfl) rfl
theorem dX11_terms_26 : decode cX11_terms 26 = .ok (.aload_n 0, 1) := dk_42 (bs_at BX11_terms_0 14 rfl)
theorem dX11_terms_27 : decode cX11_terms 27 = .ok (.iconst (-1), 1) := dk_2 (bs_at BX11_terms_0 15 rfl)
theorem dX11_terms_28 : decode cX11_terms 28 = .ok (.invokevirtual 101, 3) := dk_182 0 101 (bs_at BX11_terms_0 16 rfl) rfl
theorem dX11_terms_31 : decode cX11_terms 31 = .ok (.ireturn, 1) := dk_172 (bs_at BX11_terms_0 17 rfl)
theorem dX11_terms_32 : decode cX11_terms 32 = .ok (.aload_n 0, 1) := dk_42 (bs_at BX11_terms_0 18 rfl)
theorem dX11_terms_33 : decode cX11_terms 33 = .ok (.getfield 10, 3) := dk_180 0 10 (bs_at BX11_terms_0 19 rfl) rfl
theorem dX11_terms_36 : decode cX11_terms 36 = .ok (.getfield 158, 3) := dk_180 0 158 (bs_at BX11_terms_0 20 rfl) rfl
theorem dX11_terms_39 : decode cX11_terms 39 = .ok (.iload_n 1, 1) := dk_27 (bs_at BX11_terms_0 21 rfl)
theorem dX11_terms_40 : decode cX11_terms 40 = .ok (.iaload, 1) := dk_46 (bs_at BX11_terms_0 22 rfl)
theorem dX11_terms_41 : decode cX11_terms 41 = .ok (.istore_n 3, 1) := dk_62 (bs_at BX11_terms_0 23 rfl)
theorem BX11_terms_42 : bsegs (ByteArray.data cX11_terms |>.toList.drop 42) 42 [(42, [42]), (43, [180, 0, 10]), (46, [180, 0, 158]), (49, [27]), (50, [28]), (51, [79]), (52, [42]), (53, [180, 0, 61]), (56, [182, 0, 111]), (59, [42]), (60, [29]), (61, [182, 0, 118]), (64, [172])] = true := by decide +kernel
theorem dX11_terms_42 : decode cX11_terms 42 = .ok (.aload_n 0, 1) := dk_42 (bs_at BX11_terms_42 0 rfl)
theorem dX11_terms_43 : decode cX11_terms 43 = .ok (.getfield 10, 3) := dk_180 0 10 (bs_at BX11_terms_42 1 rfl) rfl
theorem dX11_terms_46 : decode cX11_terms 46 = .ok (.getfield 158, 3) := dk_180 0 158 (bs_at BX11_terms_42 2 rfl) rfl
theorem dX11_terms_49 : decode cX11_terms 49 = .ok (.iload_n 1, 1) := dk_27 (bs_at BX11_terms_42 3 rfl)
theorem dX11_terms_50 : decode cX11_terms 50 = .ok (.iload_n 2, 1) := dk_28 (bs_at BX11_terms_42 4 rfl)
theorem dX11_terms_51 : decode cX11_terms 51 = .ok (.iastore, 1) := dk_79 (bs_at BX11_terms_42 5 rfl)
theorem dX11_terms_52 : decode cX11_terms 52 = .ok (.aload_n 0, 1) := dk_42 (bs_at BX11_terms_42 6 rfl)
theorem dX11_terms_53 : decode cX11_terms 53 = .ok (.getfield 61, 3) := dk_180 0 61 (bs_at BX11_terms_42 7 rfl) rfl
theorem dX11_terms_56 : decode cX11_terms 56 = .ok (.invokevirtual 111, 3) := dk_182 0 111 (bs_at BX11_terms_42 8 rfl) rfl
theorem dX11_terms_59 : decode cX11_terms 59 = .ok (.aload_n 0, 1) := dk_42 (bs_at BX11_terms_42 9 rfl)
theorem dX11_terms_60 : decode cX11_terms 60 = .ok (.iload_n 3, 1) := dk_29 (bs_at BX11_terms_42 10 rfl)
theorem dX11_terms_61 : decode cX11_terms 61 = .ok (.invokevirtual 118, 3) := dk_182 0 118 (bs_at BX11_terms_42 11 rfl) rfl
theorem dX11_terms_64 : decode cX11_terms 64 = .ok (.ireturn, 1) := dk_172 (bs_at BX11_terms_42 12 rfl)
theorem BX11_feed_0 : bsegs (ByteArray.data cX11_feed |>.toList.drop 0) 0 [(0, [42]), (1, [180, 0, 38]), (4, [180, 0, 161]), (7, [16, 20]), (9, [96]), (10, [17, 1, 144]), (13, [164, 0, 5]), (16, [2]), (17, [172]), (18, [42]), (19, [180, 0, 38]), (22, [27]), (23, [182, 0, 166]), (26, [42]), (27, [180, 0, 38]), (30, [28]), (31, [182, 0, 166]), (34, [42]), (35, [180, 0, 38]), (38, [29]), (39, [182, 0, 166]), (42, [42]), (43, [180, 0, 38]), (46, [21, 4])] = true := by decide +kernel
theorem dX11_feed_0 : decode cX11_feed 0 = .ok (.aload_n 0, 1) := dk_42 (bs_at BX11_feed_0 0 rfl)
theorem dX11_feed_1 : decode cX11_feed 1 = .ok (.getfield 38, 3) := dk_180 0 38 (bs_at BX11_feed_0 1 rfl) rfl
theorem dX11_feed_4 : decode cX11_feed 4 = .ok (.getfield 161, 3) := dk_180 0 161 (bs_at BX11_feed_0 2 rfl) rfl
theorem dX11_feed_7 : decode cX11_feed 7 = .ok (.bipush 20, 2) := dk_16 20 (bs_at BX11_feed_0 3 rfl) rfl
theorem dX11_feed_9 : decode cX11_feed 9 = .ok (.iadd, 1) := dk_96 (bs_at BX11_feed_0 4 rfl)
theorem dX11_feed_10 : decode cX11_feed 10 = .ok (.sipush 400, 3) := dk_17 1 144 (bs_at BX11_feed_0 5 rfl) rfl
theorem dX11_feed_13 : decode cX11_feed 13 = .ok (.if_icmp .le 5, 3) := dk_164 0 5 (bs_at BX11_feed_0 6 rfl) rfl
theorem dX11_feed_16 : decode cX11_feed 16 = .ok (.iconst (-1), 1) := dk_2 (bs_at BX11_feed_0 7 rfl)
theorem dX11_feed_17 : decode cX11_feed 17 = .ok (.ireturn, 1) := dk_172 (bs_at BX11_feed_0 8 rfl)
theorem dX11_feed_18 : decode cX11_feed 18 = .ok (.aload_n 0, 1) := dk_42 (bs_at BX11_feed_0 9 rfl)
theorem dX11_feed_19 : decode cX11_feed 19 = .ok (.getfield 38, 3) := dk_180 0 38 (bs_at BX11_feed_0 10 rfl) rfl
theorem dX11_feed_22 : decode cX11_feed 22 = .ok (.iload_n 1, 1) := dk_27 (bs_at BX11_feed_0 11 rfl)
theorem dX11_feed_23 : decode cX11_feed 23 = .ok (.invokevirtual 166, 3) := dk_182 0 166 (bs_at BX11_feed_0 12 rfl) rfl
theorem dX11_feed_26 : decode cX11_feed 26 = .ok (.aload_n 0, 1) := dk_42 (bs_at BX11_feed_0 13 rfl)
theorem dX11_feed_27 : decode cX11_feed 27 = .ok (.getfield 38, 3) := dk_180 0 38 (bs_at BX11_feed_0 14 rfl) rfl
theorem dX11_feed_30 : decode cX11_feed 30 = .ok (.iload_n 2, 1) := dk_28 (bs_at BX11_feed_0 15 rfl)
theorem dX11_feed_31 : decode cX11_feed 31 = .ok (.invokevirtual 166, 3) := dk_182 0 166 (bs_at BX11_feed_0 16 rfl) rfl
theorem dX11_feed_34 : decode cX11_feed 34 = .ok (.aload_n 0, 1) := dk_42 (bs_at BX11_feed_0 17 rfl)
theorem dX11_feed_35 : decode cX11_feed 35 = .ok (.getfield 38, 3) := dk_180 0 38 (bs_at BX11_feed_0 18 rfl) rfl
theorem dX11_feed_38 : decode cX11_feed 38 = .ok (.iload_n 3, 1) := dk_29 (bs_at BX11_feed_0 19 rfl)
theorem dX11_feed_39 : decode cX11_feed 39 = .ok (.invokevirtual 166, 3) := dk_182 0 166 (bs_at BX11_feed_0 20 rfl) rfl
theorem dX11_feed_42 : decode cX11_feed 42 = .ok (.aload_n 0, 1) := dk_42 (bs_at BX11_feed_0 21 rfl)
theorem dX11_feed_43 : decode cX11_feed 43 = .ok (.getfield 38, 3) := dk_180 0 38 (bs_at BX11_feed_0 22 rfl) rfl
theorem dX11_feed_46 : decode cX11_feed 46 = .ok (.iload 4, 2) := dk_21 4 (bs_at BX11_feed_0 23 rfl)
theorem BX11_feed_48 : bsegs (ByteArray.data cX11_feed |>.toList.drop 48) 48 [(48, [182, 0, 166]), (51, [42]), (52, [180, 0, 38]), (55, [21, 5]), (57, [182, 0, 166]), (60, [42]), (61, [180, 0, 38]), (64, [180, 0, 161]), (67, [172])] = true := by decide +kernel
theorem dX11_feed_48 : decode cX11_feed 48 = .ok (.invokevirtual 166, 3) := dk_182 0 166 (bs_at BX11_feed_48 0 rfl) rfl
theorem dX11_feed_51 : decode cX11_feed 51 = .ok (.aload_n 0, 1) := dk_42 (bs_at BX11_feed_48 1 rfl)
theorem dX11_feed_52 : decode cX11_feed 52 = .ok (.getfield 38, 3) := dk_180 0 38 (bs_at BX11_feed_48 2 rfl) rfl
theorem dX11_feed_55 : decode cX11_feed 55 = .ok (.iload 5, 2) := dk_21 5 (bs_at BX11_feed_48 3 rfl)
theorem dX11_feed_57 : decode cX11_feed 57 = .ok (.invokevirtual 166, 3) := dk_182 0 166 (bs_at BX11_feed_48 4 rfl) rfl
theorem dX11_feed_60 : decode cX11_feed 60 = .ok (.aload_n 0, 1) := dk_42 (bs_at BX11_feed_48 5 rfl)
theorem dX11_feed_61 : decode cX11_feed 61 = .ok (.getfield 38, 3) := dk_180 0 38 (bs_at BX11_feed_48 6 rfl) rfl
theorem dX11_feed_64 : decode cX11_feed 64 = .ok (.getfield 161, 3) := dk_180 0 161 (bs_at BX11_feed_48 7 rfl) rfl
theorem dX11_feed_67 : decode cX11_feed 67 = .ok (.ireturn, 1) := dk_172 (bs_at BX11_feed_48 8 rfl)
theorem BX11_end_0 : bsegs (ByteArray.data cX11_end |>.toList.drop 0) 0 [(0, [27]), (1, [3]), (2, [42]), (3, [180, 0, 38]), (6, [180, 0, 161]), (9, [184, 0, 97]), (12, [154, 0, 5]), (15, [2]), (16, [172]), (17, [42]), (18, [180, 0, 38]), (21, [27]), (22, [181, 0, 161]), (25, [27]), (26, [172])] = true := by decide +kernel
theorem dX11_end_0 : decode cX11_end 0 = .ok (.iload_n 1, 1) := dk_27 (bs_at BX11_end_0 0 rfl)
theorem dX11_end_1 : decode cX11_end 1 = .ok (.iconst 0, 1) := dk_3 (bs_at BX11_end_0 1 rfl)
theorem dX11_end_2 : decode cX11_end 2 = .ok (.aload_n 0, 1) := dk_42 (bs_at BX11_end_0 2 rfl)
theorem dX11_end_3 : decode cX11_end 3 = .ok (.getfield 38, 3) := dk_180 0 38 (bs_at BX11_end_0 3 rfl) rfl
theorem dX11_end_6 : decode cX11_end 6 = .ok (.getfield 161, 3) := dk_180 0 161 (bs_at BX11_end_0 4 rfl) rfl
theorem dX11_end_9 : decode cX11_end 9 = .ok (.invokestatic 97, 3) := dk_184 0 97 (bs_at BX11_end_0 5 rfl) rfl
theorem dX11_end_12 : decode cX11_end 12 = .ok (.ifCond .ne 5, 3) := dk_154 0 5 (bs_at BX11_end_0 6 rfl) rfl
theorem dX11_end_15 : decode cX11_end 15 = .ok (.iconst (-1), 1) := dk_2 (bs_at BX11_end_0 7 rfl)
theorem dX11_end_16 : decode cX11_end 16 = .ok (.ireturn, 1) := dk_172 (bs_at BX11_end_0 8 rfl)
theorem dX11_end_17 : decode cX11_end 17 = .ok (.aload_n 0, 1) := dk_42 (bs_at BX11_end_0 9 rfl)
theorem dX11_end_18 : decode cX11_end 18 = .ok (.getfield 38, 3) := dk_180 0 38 (bs_at BX11_end_0 10 rfl) rfl
theorem dX11_end_21 : decode cX11_end 21 = .ok (.iload_n 1, 1) := dk_27 (bs_at BX11_end_0 11 rfl)
theorem dX11_end_22 : decode cX11_end 22 = .ok (.putfield 161, 3) := dk_181 0 161 (bs_at BX11_end_0 12 rfl) rfl
theorem dX11_end_25 : decode cX11_end 25 = .ok (.iload_n 1, 1) := dk_27 (bs_at BX11_end_0 13 rfl)
theorem dX11_end_26 : decode cX11_end 26 = .ok (.ireturn, 1) := dk_172 (bs_at BX11_end_0 14 rfl)
theorem BX11_row_0 : bsegs (ByteArray.data cX11_row |>.toList.drop 0) 0 [(0, [42]), (1, [180, 0, 38]), (4, [180, 0, 161]), (7, [154, 0, 10]), (10, [42]), (11, [16, 250]), (13, [182, 0, 101]), (16, [172]), (17, [3]), (18, [60]), (19, [3]), (20, [61]), (21, [28]), (22, [42]), (23, [180, 0, 38]), (26, [180, 0, 161]), (29, [162, 0, 47]), (32, [42]), (33, [180, 0, 38]), (36, [28]), (37, [182, 0, 170]), (40, [62]), (41, [28]), (42, [16, 24])] = true := by decide +kernel
theorem dX11_row_0 : decode cX11_row 0 = .ok (.aload_n 0, 1) := dk_42 (bs_at BX11_row_0 0 rfl)
theorem dX11_row_1 : decode cX11_row 1 = .ok (.getfield 38, 3) := dk_180 0 38 (bs_at BX11_row_0 1 rfl) rfl
theorem dX11_row_4 : decode cX11_row 4 = .ok (.getfield 161, 3) := dk_180 0 161 (bs_at BX11_row_0 2 rfl) rfl
theorem dX11_row_7 : decode cX11_row 7 = .ok (.ifCond .ne 10, 3) := dk_154 0 10 (bs_at BX11_row_0 3 rfl) rfl
theorem dX11_row_10 : decode cX11_row 10 = .ok (.aload_n 0, 1) := dk_42 (bs_at BX11_row_0 4 rfl)
theorem dX11_row_11 : decode cX11_row 11 = .ok (.bipush (-6), 2) := dk_16 250 (bs_at BX11_row_0 5 rfl) rfl
theorem dX11_row_13 : decode cX11_row 13 = .ok (.invokevirtual 101, 3) := dk_182 0 101 (bs_at BX11_row_0 6 rfl) rfl
theorem dX11_row_16 : decode cX11_row 16 = .ok (.ireturn, 1) := dk_172 (bs_at BX11_row_0 7 rfl)
theorem dX11_row_17 : decode cX11_row 17 = .ok (.iconst 0, 1) := dk_3 (bs_at BX11_row_0 8 rfl)
theorem dX11_row_18 : decode cX11_row 18 = .ok (.istore_n 1, 1) := dk_60 (bs_at BX11_row_0 9 rfl)
theorem dX11_row_19 : decode cX11_row 19 = .ok (.iconst 0, 1) := dk_3 (bs_at BX11_row_0 10 rfl)
theorem dX11_row_20 : decode cX11_row 20 = .ok (.istore_n 2, 1) := dk_61 (bs_at BX11_row_0 11 rfl)
theorem dX11_row_21 : decode cX11_row 21 = .ok (.iload_n 2, 1) := dk_28 (bs_at BX11_row_0 12 rfl)
theorem dX11_row_22 : decode cX11_row 22 = .ok (.aload_n 0, 1) := dk_42 (bs_at BX11_row_0 13 rfl)
theorem dX11_row_23 : decode cX11_row 23 = .ok (.getfield 38, 3) := dk_180 0 38 (bs_at BX11_row_0 14 rfl) rfl
theorem dX11_row_26 : decode cX11_row 26 = .ok (.getfield 161, 3) := dk_180 0 161 (bs_at BX11_row_0 15 rfl) rfl
theorem dX11_row_29 : decode cX11_row 29 = .ok (.if_icmp .ge 47, 3) := dk_162 0 47 (bs_at BX11_row_0 16 rfl) rfl
theorem dX11_row_32 : decode cX11_row 32 = .ok (.aload_n 0, 1) := dk_42 (bs_at BX11_row_0 17 rfl)
theorem dX11_row_33 : decode cX11_row 33 = .ok (.getfield 38, 3) := dk_180 0 38 (bs_at BX11_row_0 18 rfl) rfl
theorem dX11_row_36 : decode cX11_row 36 = .ok (.iload_n 2, 1) := dk_28 (bs_at BX11_row_0 19 rfl)
theorem dX11_row_37 : decode cX11_row 37 = .ok (.invokevirtual 170, 3) := dk_182 0 170 (bs_at BX11_row_0 20 rfl) rfl
theorem dX11_row_40 : decode cX11_row 40 = .ok (.istore_n 3, 1) := dk_62 (bs_at BX11_row_0 21 rfl)
theorem dX11_row_41 : decode cX11_row 41 = .ok (.iload_n 2, 1) := dk_28 (bs_at BX11_row_0 22 rfl)
theorem dX11_row_42 : decode cX11_row 42 = .ok (.bipush 24, 2) := dk_16 24 (bs_at BX11_row_0 23 rfl) rfl
theorem BX11_row_44 : bsegs (ByteArray.data cX11_row |>.toList.drop 44) 44 [(44, [162, 0, 26]), (47, [29]), (48, [3]), (49, [16, 127]), (51, [184, 0, 97]), (54, [153, 0, 16]), (57, [42]), (58, [180, 0, 10]), (61, [180, 0, 149]), (64, [28]), (65, [29]), (66, [79]), (67, [132, 1, 1]), (70, [132, 2, 1]), (73, [167, 255, 204]), (76, [42]), (77, [42]), (78, [180, 0, 38]), (81, [180, 0, 161]), (84, [27]), (85, [100]), (86, [181, 0, 87]), (89, [42]), (90, [180, 0, 38])] = true := by decide +kernel
theorem dX11_row_44 : decode cX11_row 44 = .ok (.if_icmp .ge 26, 3) := dk_162 0 26 (bs_at BX11_row_44 0 rfl) rfl
theorem dX11_row_47 : decode cX11_row 47 = .ok (.iload_n 3, 1) := dk_29 (bs_at BX11_row_44 1 rfl)
theorem dX11_row_48 : decode cX11_row 48 = .ok (.iconst 0, 1) := dk_3 (bs_at BX11_row_44 2 rfl)
theorem dX11_row_49 : decode cX11_row 49 = .ok (.bipush 127, 2) := dk_16 127 (bs_at BX11_row_44 3 rfl) rfl
theorem dX11_row_51 : decode cX11_row 51 = .ok (.invokestatic 97, 3) := dk_184 0 97 (bs_at BX11_row_44 4 rfl) rfl
theorem dX11_row_54 : decode cX11_row 54 = .ok (.ifCond .eq 16, 3) := dk_153 0 16 (bs_at BX11_row_44 5 rfl) rfl
theorem dX11_row_57 : decode cX11_row 57 = .ok (.aload_n 0, 1) := dk_42 (bs_at BX11_row_44 6 rfl)
theorem dX11_row_58 : decode cX11_row 58 = .ok (.getfield 10, 3) := dk_180 0 10 (bs_at BX11_row_44 7 rfl) rfl
theorem dX11_row_61 : decode cX11_row 61 = .ok (.getfield 149, 3) := dk_180 0 149 (bs_at BX11_row_44 8 rfl) rfl
theorem dX11_row_64 : decode cX11_row 64 = .ok (.iload_n 2, 1) := dk_28 (bs_at BX11_row_44 9 rfl)
theorem dX11_row_65 : decode cX11_row 65 = .ok (.iload_n 3, 1) := dk_29 (bs_at BX11_row_44 10 rfl)
theorem dX11_row_66 : decode cX11_row 66 = .ok (.iastore, 1) := dk_79 (bs_at BX11_row_44 11 rfl)
theorem dX11_row_67 : decode cX11_row 67 = .ok (.iinc 1 1, 3) := dk_132 1 1 (bs_at BX11_row_44 12 rfl) rfl
theorem dX11_row_70 : decode cX11_row 70 = .ok (.iinc 2 1, 3) := dk_132 2 1 (bs_at BX11_row_44 13 rfl) rfl
theorem dX11_row_73 : decode cX11_row 73 = .ok (.goto (-52), 3) := dk_167 255 204 (bs_at BX11_row_44 14 rfl) rfl
theorem dX11_row_76 : decode cX11_row 76 = .ok (.aload_n 0, 1) := dk_42 (bs_at BX11_row_44 15 rfl)
theorem dX11_row_77 : decode cX11_row 77 = .ok (.aload_n 0, 1) := dk_42 (bs_at BX11_row_44 16 rfl)
theorem dX11_row_78 : decode cX11_row 78 = .ok (.getfield 38, 3) := dk_180 0 38 (bs_at BX11_row_44 17 rfl) rfl
theorem dX11_row_81 : decode cX11_row 81 = .ok (.getfield 161, 3) := dk_180 0 161 (bs_at BX11_row_44 18 rfl) rfl
theorem dX11_row_84 : decode cX11_row 84 = .ok (.iload_n 1, 1) := dk_27 (bs_at BX11_row_44 19 rfl)
theorem dX11_row_85 : decode cX11_row 85 = .ok (.isub, 1) := dk_100 (bs_at BX11_row_44 20 rfl)
theorem dX11_row_86 : decode cX11_row 86 = .ok (.putfield 87, 3) := dk_181 0 87 (bs_at BX11_row_44 21 rfl) rfl
theorem dX11_row_89 : decode cX11_row 89 = .ok (.aload_n 0, 1) := dk_42 (bs_at BX11_row_44 22 rfl)
theorem dX11_row_90 : decode cX11_row 90 = .ok (.getfield 38, 3) := dk_180 0 38 (bs_at BX11_row_44 23 rfl) rfl
theorem BX11_row_93 : bsegs (ByteArray.data cX11_row |>.toList.drop 93) 93 [(93, [3]), (94, [181, 0, 161]), (97, [42]), (98, [27]), (99, [182, 0, 118]), (102, [172])] = true := by decide +kernel
theorem dX11_row_93 : decode cX11_row 93 = .ok (.iconst 0, 1) := dk_3 (bs_at BX11_row_93 0 rfl)
theorem dX11_row_94 : decode cX11_row 94 = .ok (.putfield 161, 3) := dk_181 0 161 (bs_at BX11_row_93 1 rfl) rfl
theorem dX11_row_97 : decode cX11_row 97 = .ok (.aload_n 0, 1) := dk_42 (bs_at BX11_row_93 2 rfl)
theorem dX11_row_98 : decode cX11_row 98 = .ok (.iload_n 1, 1) := dk_27 (bs_at BX11_row_93 3 rfl)
theorem dX11_row_99 : decode cX11_row 99 = .ok (.invokevirtual 118, 3) := dk_182 0 118 (bs_at BX11_row_93 4 rfl) rfl
theorem dX11_row_102 : decode cX11_row 102 = .ok (.ireturn, 1) := dk_172 (bs_at BX11_row_93 5 rfl)
theorem BX11_ash_0 : bsegs (ByteArray.data cX11_ash |>.toList.drop 0) 0 [(0, [42]), (1, [180, 0, 87]), (4, [172])] = true := by decide +kernel
theorem dX11_ash_0 : decode cX11_ash 0 = .ok (.aload_n 0, 1) := dk_42 (bs_at BX11_ash_0 0 rfl)
theorem dX11_ash_1 : decode cX11_ash 1 = .ok (.getfield 87, 3) := dk_180 0 87 (bs_at BX11_ash_0 1 rfl) rfl
theorem dX11_ash_4 : decode cX11_ash 4 = .ok (.ireturn, 1) := dk_172 (bs_at BX11_ash_0 2 rfl)
theorem ggX11_settle_X2_keep : GoodIn wsX11_settle wsX2_keep := gi_ch ch_X11_settle ch_X2_keep (by decide +kernel)
set_option maxRecDepth 20000 in
theorem gX11_settle_X2_keep_n300 : GoodIn wsX11_settle (wsX2_keep) := ggX11_settle_X2_keep
theorem ggX11_settle_X11_accept : GoodIn wsX11_settle wsX11_accept := gi_ch ch_X11_settle ch_X11_accept (by decide +kernel)
theorem gX11_settle_X11_accept : GoodIn wsX11_settle (wsV RX11 118 RX11 yX11_accept wsX11_accept) := gi_ch ch_X11_settle (ch_v [390, 391, 6, 144] rfl ch_X11_accept) (by decide +kernel)
theorem ggX11_settle_X11_refuse : GoodIn wsX11_settle wsX11_refuse := gi_ch ch_X11_settle ch_X11_refuse (by decide +kernel)
theorem gX11_settle_X11_refuse : GoodIn wsX11_settle (wsV RX11 101 RX11 yX11_refuse wsX11_refuse) := gi_ch ch_X11_settle (ch_v [375, 376, 0, 144] rfl ch_X11_refuse) (by decide +kernel)
theorem ggX11_house_X11_refuse : GoodIn wsX11_house wsX11_refuse := gi_ch ch_X11_house ch_X11_refuse (by decide +kernel)
theorem gX11_house_X11_refuse : GoodIn wsX11_house (wsV RX11 101 RX11 yX11_refuse wsX11_refuse) := gi_ch ch_X11_house (ch_v [375, 376, 0, 144] rfl ch_X11_refuse) (by decide +kernel)
theorem ggX11_house_X11_within : GoodIn wsX11_house wsX11_within := gi_ch ch_X11_house ch_X11_within (by decide +kernel)
theorem gX11_house_X11_within : GoodIn wsX11_house (va_wsS RX11 97 yX11_within wsX11_within) := gi_ch ch_X11_house (ch_s [372, 373, 144] rfl ch_X11_within) (by decide +kernel)
theorem ggX11_house_X9_dinerOf : GoodIn wsX11_house wsX9_dinerOf := gi_ch ch_X11_house ch_X9_dinerOf (by decide +kernel)
set_option maxRecDepth 20000 in
theorem gX11_house_X9_dinerOf_n105 : GoodIn wsX11_house (wsX9_dinerOf) := ggX11_house_X9_dinerOf
theorem ggX11_house_X2_clear : GoodIn wsX11_house wsX2_clear := gi_ch ch_X11_house ch_X2_clear (by decide +kernel)
set_option maxRecDepth 20000 in
theorem gX11_house_X2_clear_n111 : GoodIn wsX11_house (wsX2_clear) := ggX11_house_X2_clear
theorem ggX11_house_X9_build : GoodIn wsX11_house wsX9_build := gi_ch ch_X11_house ch_X9_build (by decide +kernel)
set_option maxRecDepth 20000 in
theorem gX11_house_X9_build_n114 : GoodIn wsX11_house (wsX9_build) := ggX11_house_X9_build
theorem ggX11_house_X11_accept : GoodIn wsX11_house wsX11_accept := gi_ch ch_X11_house ch_X11_accept (by decide +kernel)
theorem gX11_house_X11_accept : GoodIn wsX11_house (wsV RX11 118 RX11 yX11_accept wsX11_accept) := gi_ch ch_X11_house (ch_v [390, 391, 6, 144] rfl ch_X11_accept) (by decide +kernel)
theorem ggX11_of_X9_has : GoodIn wsX11_of wsX9_has := gi_ch ch_X11_of ch_X9_has (by decide +kernel)
set_option maxRecDepth 20000 in
theorem gX11_of_X9_has_n121 : GoodIn wsX11_of (wsX9_has) := ggX11_of_X9_has
theorem ggX11_of_X11_within : GoodIn wsX11_of wsX11_within := gi_ch ch_X11_of ch_X11_within (by decide +kernel)
theorem gX11_of_X11_within : GoodIn wsX11_of (va_wsS RX11 97 yX11_within wsX11_within) := gi_ch ch_X11_of (ch_s [372, 373, 144] rfl ch_X11_within) (by decide +kernel)
theorem ggX11_of_X9_fact : GoodIn wsX11_of wsX9_fact := gi_ch ch_X11_of ch_X9_fact (by decide +kernel)
set_option maxRecDepth 20000 in
theorem gX11_of_X9_fact_n125 : GoodIn wsX11_of (wsX9_fact) := ggX11_of_X9_fact
theorem ggX11_of_X0_face : GoodIn wsX11_of wsX0_face := gi_ch ch_X11_of ch_X0_face (by decide +kernel)
set_option maxRecDepth 20000 in
theorem gX11_of_X0_face_n132 : GoodIn wsX11_of (wsX0_face) := ggX11_of_X0_face
theorem ggX11_of_X9_lawInForce : GoodIn wsX11_of wsX9_lawInForce := gi_ch ch_X11_of ch_X9_lawInForce (by decide +kernel)
set_option maxRecDepth 20000 in
theorem gX11_of_X9_lawInForce_n138 : GoodIn wsX11_of (wsX9_lawInForce) := ggX11_of_X9_lawInForce
theorem ggX11_of_X0_told : GoodIn wsX11_of wsX0_told := gi_ch ch_X11_of ch_X0_told (by decide +kernel)
set_option maxRecDepth 20000 in
theorem gX11_of_X0_told_n142 : GoodIn wsX11_of (wsX0_told) := ggX11_of_X0_told
theorem ggX11_of_X9_sings : GoodIn wsX11_of wsX9_sings := gi_ch ch_X11_of ch_X9_sings (by decide +kernel)
set_option maxRecDepth 20000 in
theorem gX11_of_X9_sings_n129 : GoodIn wsX11_of (wsX9_sings) := ggX11_of_X9_sings
theorem ggX11_score_X11_refuse : GoodIn wsX11_score wsX11_refuse := gi_ch ch_X11_score ch_X11_refuse (by decide +kernel)
theorem gX11_score_X11_refuse : GoodIn wsX11_score (wsV RX11 101 RX11 yX11_refuse wsX11_refuse) := gi_ch ch_X11_score (ch_v [375, 376, 0, 144] rfl ch_X11_refuse) (by decide +kernel)
theorem ggX11_score_X11_within : GoodIn wsX11_score wsX11_within := gi_ch ch_X11_score ch_X11_within (by decide +kernel)
theorem gX11_score_X11_within : GoodIn wsX11_score (va_wsS RX11 97 yX11_within wsX11_within) := gi_ch ch_X11_score (ch_s [372, 373, 144] rfl ch_X11_within) (by decide +kernel)
theorem ggX11_score_X9_chordAt : GoodIn wsX11_score wsX9_chordAt := gi_ch ch_X11_score ch_X9_chordAt (by decide +kernel)
set_option maxRecDepth 20000 in
theorem gX11_score_X9_chordAt_n146 : GoodIn wsX11_score (wsX9_chordAt) := ggX11_score_X9_chordAt
theorem ggX11_score_X11_accept : GoodIn wsX11_score wsX11_accept := gi_ch ch_X11_score ch_X11_accept (by decide +kernel)
theorem gX11_score_X11_accept : GoodIn wsX11_score (wsV RX11 118 RX11 yX11_accept wsX11_accept) := gi_ch ch_X11_score (ch_v [390, 391, 6, 144] rfl ch_X11_accept) (by decide +kernel)
theorem ggX11_chord_X9_chordAt : GoodIn wsX11_chord wsX9_chordAt := gi_ch ch_X11_chord ch_X9_chordAt (by decide +kernel)
set_option maxRecDepth 20000 in
theorem gX11_chord_X9_chordAt_n146 : GoodIn wsX11_chord (wsX9_chordAt) := ggX11_chord_X9_chordAt
theorem ggX11_terms_X11_refuse : GoodIn wsX11_terms wsX11_refuse := gi_ch ch_X11_terms ch_X11_refuse (by decide +kernel)
theorem gX11_terms_X11_refuse : GoodIn wsX11_terms (wsV RX11 101 RX11 yX11_refuse wsX11_refuse) := gi_ch ch_X11_terms (ch_v [375, 376, 0, 144] rfl ch_X11_refuse) (by decide +kernel)
theorem ggX11_terms_X11_within : GoodIn wsX11_terms wsX11_within := gi_ch ch_X11_terms ch_X11_within (by decide +kernel)
theorem gX11_terms_X11_within : GoodIn wsX11_terms (va_wsS RX11 97 yX11_within wsX11_within) := gi_ch ch_X11_terms (ch_s [372, 373, 144] rfl ch_X11_within) (by decide +kernel)
theorem ggX11_terms_X2_clear : GoodIn wsX11_terms wsX2_clear := gi_ch ch_X11_terms ch_X2_clear (by decide +kernel)
set_option maxRecDepth 20000 in
theorem gX11_terms_X2_clear_n111 : GoodIn wsX11_terms (wsX2_clear) := ggX11_terms_X2_clear
theorem ggX11_terms_X11_accept : GoodIn wsX11_terms wsX11_accept := gi_ch ch_X11_terms ch_X11_accept (by decide +kernel)
theorem gX11_terms_X11_accept : GoodIn wsX11_terms (wsV RX11 118 RX11 yX11_accept wsX11_accept) := gi_ch ch_X11_terms (ch_v [390, 391, 6, 144] rfl ch_X11_accept) (by decide +kernel)
theorem ggX11_feed_X8_take : GoodIn wsX11_feed wsX8_take := gi_ch ch_X11_feed ch_X8_take (by decide +kernel)
set_option maxRecDepth 20000 in
theorem gX11_feed_X8_take_n166 : GoodIn wsX11_feed (wsX8_take) := ggX11_feed_X8_take
theorem ggX11_end_X11_within : GoodIn wsX11_end wsX11_within := gi_ch ch_X11_end ch_X11_within (by decide +kernel)
theorem gX11_end_X11_within : GoodIn wsX11_end (va_wsS RX11 97 yX11_within wsX11_within) := gi_ch ch_X11_end (ch_s [372, 373, 144] rfl ch_X11_within) (by decide +kernel)
theorem ggX11_row_X11_accept : GoodIn wsX11_row wsX11_accept := gi_ch ch_X11_row ch_X11_accept (by decide +kernel)
theorem gX11_row_X11_accept : GoodIn wsX11_row (wsV RX11 118 RX11 yX11_accept wsX11_accept) := gi_ch ch_X11_row (ch_v [390, 391, 6, 144] rfl ch_X11_accept) (by decide +kernel)
theorem ggX11_row_X8_byteAt : GoodIn wsX11_row wsX8_byteAt := gi_ch ch_X11_row ch_X8_byteAt (by decide +kernel)
set_option maxRecDepth 20000 in
theorem gX11_row_X8_byteAt_n170 : GoodIn wsX11_row (wsX8_byteAt) := ggX11_row_X8_byteAt
theorem ggX11_row_X11_within : GoodIn wsX11_row wsX11_within := gi_ch ch_X11_row ch_X11_within (by decide +kernel)
theorem gX11_row_X11_within : GoodIn wsX11_row (va_wsS RX11 97 yX11_within wsX11_within) := gi_ch ch_X11_row (ch_s [372, 373, 144] rfl ch_X11_within) (by decide +kernel)
theorem ggX11_row_X11_refuse : GoodIn wsX11_row wsX11_refuse := gi_ch ch_X11_row ch_X11_refuse (by decide +kernel)
theorem gX11_row_X11_refuse : GoodIn wsX11_row (wsV RX11 101 RX11 yX11_refuse wsX11_refuse) := gi_ch ch_X11_row (ch_v [375, 376, 0, 144] rfl ch_X11_refuse) (by decide +kernel)
set_option maxRecDepth 100000 in
noncomputable def E_w_accept (x : Int32) (rb : Int32) : Int32 :=
  (x : Int32)
set_option maxHeartbeats 4000000 in
set_option maxRecDepth 100000 in
theorem w_accept (l : Launch) (D : va_G) (K : Nat → ClassId) (o0 : Nat) (x : Int32) (o_0 : Value) (o_1 : Value) (o_2 : Value) (o_3 : Value) (o_4 : Value) (o_5 : Value) (o_6 : Value) (o_7 : Value) (o_8 : Value) (o_9 : Value) (o_10 : Value) (o_11 : Value) (o_12 : Value) (rb : Int32) (o_14 : Value) (o_15 : Value) (o_16 : Value) (sz : Nat) : Met l yX11_accept wsX11_accept ({ frames := 0, cells := 0, slots := 0, locals := 0 }) (va_Pc [.ref o0, .int x] (Pre D K [(o0, .inr (11, [o_0, o_1, o_2, o_3, o_4, o_5, o_6, o_7, o_8, o_9, o_10, o_11, o_12, .int rb, o_14, o_15, o_16]))] sz)) (va_Qi (S := Su) (fun (r : Int32) (u : Su) => ((r = x)) ∧ (r = E_w_accept x rb) ∧ True) (fun u t => Wd D (va_A [(o0, .inr (11, [o_0, o_1, o_2, o_3, o_4, o_5, o_6, o_7, o_8, o_9, o_10, o_11, o_12, .int rb, o_14, o_15, o_16]))] sz) ((fun u => [(o0, .inr (11, [o_0, o_1, o_2, o_3, o_4, o_5, o_6, o_7, o_8, o_9, o_10, o_11, o_12, .int 0, o_14, o_15, o_16]))]) u) t) (va_A [(o0, .inr (11, [o_0, o_1, o_2, o_3, o_4, o_5, o_6, o_7, o_8, o_9, o_10, o_11, o_12, .int rb, o_14, o_15, o_16]))] sz)) 0 0 (va_A [(o0, .inr (11, [o_0, o_1, o_2, o_3, o_4, o_5, o_6, o_7, o_8, o_9, o_10, o_11, o_12, .int rb, o_14, o_15, o_16]))] sz) := by
  refine Met.ofW (cc := cX11_accept) (maxL := 2) (ret := (some .int)) (by decide +kernel) rfl ?_
  intro p e s m args below meth c s₁ B hml hv
  obtain ⟨rfl, hsz, hP, hK, hD0, hN⟩ := hv
  have hx := B.exec
  have hb := B.bytes
  have hr := B.returns
  have hts := atoms_spec (ws := wsX11_accept) B.pre
  have hown : s.vm.findClass RX11 = some m.cls := findClass_of_methodNamed B.named
  have hlocks := B.notSynchronized
  subst hsz
  have hD := hD0.self (sz := s.heap.size)
  generalize hAe : va_A [(o0, .inr (11, [o_0, o_1, o_2, o_3, o_4, o_5, o_6, o_7, o_8, o_9, o_10, o_11, o_12, .int rb, o_14, o_15, o_16]))] s.heap.size = A at hD ⊢
  have hA : ∀ q : Nat, s.heap.size ≤ q → A q := fun q h => by rw [← hAe]; exact Or.inr h
  clear hAe
  have hS : va_S A s.heap s.heap [] := va_S.rf
  replace hP : va_P D vwCl [(o0, .inr (11, [o_0, o_1, o_2, o_3, o_4, o_5, o_6, o_7, o_8, o_9, o_10, o_11, o_12, .int rb, o_14, o_15, o_16]))] s.heap := hP
  have hl := lv_entry [.ref o0, .int x] (n := 2) (Nat.le_of_ble_eq_true rfl)
  rw [lg_entry_eq]
  generalize (lg_sl [.ref o0, .int x] ++ List.replicate (2 - (lg_sl [.ref o0, .int x]).length) Slot.unset).toArray = ls at hl ⊢
  have hl : lv_has ls 2 [(0, .ref o0), (1, .int x)] := hl
  have hw11 : ∀ w ∈ wsX110, w ∈ wsX11_accept := fun w h => (List.mem_cons_of_mem _ (List.mem_append_right _ h))
  generalize hQ : MQ below _ _ s _ _ _ = Q
  have hE := E_w_accept.eq_def x rb
  refine lv_aload_n hx hb dX11_accept_0 rfl (lv_at hl 0 rfl) ?_
  refine lv_iconst (v := 0) hx hb dX11_accept_1 (by decide +kernel) ?_
  refine va_put (ci := 11) (v := .int 0) (ty := .int) (C := RX11) (T := TX11) (N := 17) hx hb hts hw11 tyX11 tyX11_ok nmX11 hown hK hP hD hS 0 rfl rfl 13 (by decide +kernel) (hts _ mm_X11_accept_347) (fun _ h9 => h9) rfl (by decide +kernel) (by first | rfl | decide) (by first | rfl | decide) (Nat.le_of_ble_eq_true rfl) dX11_accept_2 (fun H locs hP0 hD0 hS0 => ?_)
  clear hP hD hS
  have hP := hP0
  have hD := hD0
  have hS := hS0
  clear hP0 hD0 hS0
  replace hP : va_P D vwCl [(o0, .inr (11, [o_0, o_1, o_2, o_3, o_4, o_5, o_6, o_7, o_8, o_9, o_10, o_11, o_12, .int 0, o_14, o_15, o_16]))] H := hP
  replace hD : va_D A [(o0, .inr (11, [o_0, o_1, o_2, o_3, o_4, o_5, o_6, o_7, o_8, o_9, o_10, o_11, o_12, .int 0, o_14, o_15, o_16]))] := hD
  refine lv_iload_n hx hb dX11_accept_5 rfl (lv_at hl 1 rfl) ?_
  rw [← hQ]
  have hP9 := hP.sub (ws' := [(o0, .inr (11, [o_0, o_1, o_2, o_3, o_4, o_5, o_6, o_7, o_8, o_9, o_10, o_11, o_12, .int 0, o_14, o_15, o_16]))]) [0] rfl
  have hD9 := hD.sub (ws' := [(o0, .inr (11, [o_0, o_1, o_2, o_3, o_4, o_5, o_6, o_7, o_8, o_9, o_10, o_11, o_12, .int 0, o_14, o_15, o_16]))]) [0] (by decide +kernel) rfl
  exact W.iret (v := x) hx hb hr (fun t ht hW => ⟨⟨x, ((fun _ => 0, fun _ => fun _ => 0, fun _ => fun _ => 0, fun _ => 0, fun _ => 0, fun _ => fun _ => none) : Su), rfl, ⟨(by first | exact rfl | assumption), hE.symm, trivial⟩, (⟨by rw [ht]; exact hP9, hD9⟩ : Wd D A _ t)⟩, hS.F ht⟩) hS.2.2 dX11_accept_6
set_option maxRecDepth 100000 in
noncomputable def E_w_refuse_j43 (x : Int32) (f_200 : Nat → Int32) : Int32 × (Nat → Int32) :=
  ((x, f_200) : Int32 × (Nat → Int32))
set_option maxRecDepth 100000 in
noncomputable def E_w_refuse (x : Int32) (rb : Int32) (frf : Nat → Int32) : Int32 × (Nat → Int32) :=
  if x ≤ (-4) then (Lt (- x : Int32) (fun x_203 => Lt (x_203 - 2 : Int32) (fun x_204 => Lt (E_w_within x_204 0 4) (fun r_206 => if r_206 = 1 then (Lt (frf (x_204 : Int32).toNatClampNeg : Int32) (fun x_212 => Lt (x_212 + 1 : Int32) (fun x_213 => Lt (upd frf (x_204 : Int32).toNatClampNeg x_213 : Nat → Int32) (fun f_214 => E_w_refuse_j43 x f_214)))) else (E_w_refuse_j43 x frf))))) else (Lt (- x : Int32) (fun x_216 => Lt (x_216 - 1 : Int32) (fun x_217 => Lt (E_w_within x_217 0 4) (fun r_219 => if r_219 = 1 then (Lt (frf (x_217 : Int32).toNatClampNeg : Int32) (fun x_225 => Lt (x_225 + 1 : Int32) (fun x_226 => Lt (upd frf (x_217 : Int32).toNatClampNeg x_226 : Nat → Int32) (fun f_227 => E_w_refuse_j43 x f_227)))) else (E_w_refuse_j43 x frf)))))
set_option maxHeartbeats 4000000 in
set_option maxRecDepth 100000 in
theorem w_refuse (l : Launch) (D : va_G) (K : Nat → ClassId) (o0 : Nat) (x : Int32) (o_0 : Value) (o_1 : Value) (o_2 : Value) (o_3 : Value) (o_4 : Value) (o_5 : Value) (o_6 : Value) (o_7 : Value) (o_8 : Value) (o_9 : Value) (o_10 : Value) (o_11 : Value) (rf : Nat) (rb : Int32) (o_14 : Value) (o_15 : Value) (o_16 : Value) (frf : Nat → Int32) (sz : Nat) : Met l yX11_refuse wsX11_refuse ({ frames := 1, cells := 0, slots := 0, locals := 22 }) (va_Pc [.ref o0, .int x] (Pre D K [(o0, .inr (11, [o_0, o_1, o_2, o_3, o_4, o_5, o_6, o_7, o_8, o_9, o_10, o_11, .ref rf, .int rb, o_14, o_15, o_16])), (rf, .inl (K 0, 5, .inl frf))] sz)) (va_Qi (S := Su) (fun (r : Int32) (u : Su) => ((r, (u.2.1 0)) = E_w_refuse x rb frf) ∧ True) (fun u t => Wd D (va_A [(o0, .inr (11, [o_0, o_1, o_2, o_3, o_4, o_5, o_6, o_7, o_8, o_9, o_10, o_11, .ref rf, .int rb, o_14, o_15, o_16])), (rf, .inl (K 0, 5, .inl frf))] sz) ((fun u => [(o0, .inr (11, [o_0, o_1, o_2, o_3, o_4, o_5, o_6, o_7, o_8, o_9, o_10, o_11, .ref rf, .int x, o_14, o_15, o_16])), (rf, .inl (K 0, 5, .inl (u.2.1 0)))]) u) t) (va_A [(o0, .inr (11, [o_0, o_1, o_2, o_3, o_4, o_5, o_6, o_7, o_8, o_9, o_10, o_11, .ref rf, .int rb, o_14, o_15, o_16])), (rf, .inl (K 0, 5, .inl frf))] sz)) 0 0 (va_A [(o0, .inr (11, [o_0, o_1, o_2, o_3, o_4, o_5, o_6, o_7, o_8, o_9, o_10, o_11, .ref rf, .int rb, o_14, o_15, o_16])), (rf, .inl (K 0, 5, .inl frf))] sz) := by
  refine Met.ofW (cc := cX11_refuse) (maxL := 3) (ret := (some .int)) (by decide +kernel) rfl ?_
  intro p e s m args below meth c s₁ B hml hv
  obtain ⟨rfl, hsz, hP, hK, hD0, hN⟩ := hv
  have hx := B.exec
  have hb := B.bytes
  have hr := B.returns
  have hts := atoms_spec (ws := wsX11_refuse) B.pre
  have hown : s.vm.findClass RX11 = some m.cls := findClass_of_methodNamed B.named
  have hlocks := B.notSynchronized
  subst hsz
  have hD := hD0.self (sz := s.heap.size)
  generalize hAe : va_A [(o0, .inr (11, [o_0, o_1, o_2, o_3, o_4, o_5, o_6, o_7, o_8, o_9, o_10, o_11, .ref rf, .int rb, o_14, o_15, o_16])), (rf, .inl (K 0, 5, .inl frf))] s.heap.size = A at hD ⊢
  have hA : ∀ q : Nat, s.heap.size ≤ q → A q := fun q h => by rw [← hAe]; exact Or.inr h
  clear hAe
  have hS : va_S A s.heap s.heap [] := va_S.rf
  replace hP : va_P D vwCl [(o0, .inr (11, [o_0, o_1, o_2, o_3, o_4, o_5, o_6, o_7, o_8, o_9, o_10, o_11, .ref rf, .int rb, o_14, o_15, o_16])), (rf, .inl (K 0, 5, .inl frf))] s.heap := hP
  have hl := lv_entry [.ref o0, .int x] (n := 3) (Nat.le_of_ble_eq_true rfl)
  rw [lg_entry_eq]
  generalize (lg_sl [.ref o0, .int x] ++ List.replicate (3 - (lg_sl [.ref o0, .int x]).length) Slot.unset).toArray = ls at hl ⊢
  have hl : lv_has ls 3 [(0, .ref o0), (1, .int x)] := hl
  have hw11 : ∀ w ∈ wsX110, w ∈ wsX11_refuse := fun w h => (List.mem_cons_of_mem _ (List.mem_append_right _ h))
  generalize hQ : MQ below _ _ s _ _ _ = Q
  have hE := E_w_refuse.eq_def x rb frf
  refine lv_iload_n hx hb dX11_refuse_0 rfl (lv_at hl 1 rfl) ?_
  refine lv_bipush (v := (-4)) hx hb dX11_refuse_1 (by decide +kernel) ?_
  have j_201 : ∀ (f_200 : Nat → Int32) (hE : E_w_refuse x rb frf = E_w_refuse_j43 x f_200) (H : Heap) (locs : List Loc) (hP : va_P D vwCl [(o0, .inr (11, [o_0, o_1, o_2, o_3, o_4, o_5, o_6, o_7, o_8, o_9, o_10, o_11, .ref rf, .int rb, o_14, o_15, o_16])), (rf, .inl (K 0, 5, .inl f_200))] H) (hD : va_D A [(o0, .inr (11, [o_0, o_1, o_2, o_3, o_4, o_5, o_6, o_7, o_8, o_9, o_10, o_11, .ref rf, .int rb, o_14, o_15, o_16])), (rf, .inl (K 0, 5, .inl f_200))]) (hS : va_S A s.heap H locs) (ls : Array Slot) (hl : lv_has ls 3 [(0, .ref o0), (1, .int x)]), W p l e ({ frames := 1, cells := 0, slots := 0, locals := 22 }) s m (([.ref o0, .int x] : List Value).toArray) below meth c H locs 0 0 Q (F0 m 43 ls []) := by
    clear hE hP hD hS hl
    intro f_200 hE H locs hP hD hS ls hl
    replace hE := hE.trans (E_w_refuse_j43.eq_def _ _)
    refine lv_aload_n hx hb dX11_refuse_43 rfl (lv_at hl 0 rfl) ?_
    refine lv_iload_n hx hb dX11_refuse_44 rfl (lv_at hl 1 rfl) ?_
    refine va_put (ci := 11) (v := .int x) (ty := .int) (C := RX11) (T := TX11) (N := 17) hx hb hts hw11 tyX11 tyX11_ok nmX11 hown hK hP hD hS 0 rfl rfl 13 (by decide +kernel) (hts _ mm_X11_refuse_347) (fun _ h9 => h9) rfl (by decide +kernel) (by first | rfl | decide) (by first | rfl | decide) (Nat.le_of_ble_eq_true rfl) dX11_refuse_45 (fun H locs hP0 hD0 hS0 => ?_)
    clear hP hD hS
    have hP := hP0
    have hD := hD0
    have hS := hS0
    clear hP0 hD0 hS0
    replace hP : va_P D vwCl [(o0, .inr (11, [o_0, o_1, o_2, o_3, o_4, o_5, o_6, o_7, o_8, o_9, o_10, o_11, .ref rf, .int x, o_14, o_15, o_16])), (rf, .inl (K 0, 5, .inl f_200))] H := hP
    replace hD : va_D A [(o0, .inr (11, [o_0, o_1, o_2, o_3, o_4, o_5, o_6, o_7, o_8, o_9, o_10, o_11, .ref rf, .int x, o_14, o_15, o_16])), (rf, .inl (K 0, 5, .inl f_200))] := hD
    refine lv_iload_n hx hb dX11_refuse_48 rfl (lv_at hl 1 rfl) ?_
    rw [← hQ]
    have hP9 := hP.sub (ws' := [(o0, .inr (11, [o_0, o_1, o_2, o_3, o_4, o_5, o_6, o_7, o_8, o_9, o_10, o_11, .ref rf, .int x, o_14, o_15, o_16])), (rf, .inl (K 0, 5, .inl f_200))]) [0, 1] rfl
    have hD9 := hD.sub (ws' := [(o0, .inr (11, [o_0, o_1, o_2, o_3, o_4, o_5, o_6, o_7, o_8, o_9, o_10, o_11, .ref rf, .int x, o_14, o_15, o_16])), (rf, .inl (K 0, 5, .inl f_200))]) [0, 1] (by decide +kernel) rfl
    exact W.iret (v := x) hx hb hr (fun t ht hW => ⟨⟨x, ((fun _ => 0, fun i => match i with | _ => f_200, fun _ => fun _ => 0, fun _ => 0, fun _ => 0, fun _ => fun _ => none) : Su), rfl, ⟨hE.symm, trivial⟩, (⟨by rw [ht]; exact hP9, hD9⟩ : Wd D A _ t)⟩, hS.F ht⟩) hS.2.2 dX11_refuse_49
  refine lv_icmp_le (tgt := 13) hx hb dX11_refuse_3 (by decide +kernel) (fun c_202 => ?_) (fun c_202 => ?_)
  · have c_202i := i_le (x := x.toInt) (y := (-4)) rfl rfl c_202
    replace hE := hE.trans (if_pos c_202)
    refine lv_iload_n hx hb dX11_refuse_13 rfl (lv_at hl 1 rfl) ?_
    refine lv_ineg hx hb dX11_refuse_14 ?_
    refine lv_topi (fun x_203 ex_203 => ?_)
    replace hE := hE.trans (Lt_in ex_203)
    refine lv_iconst (v := 2) hx hb dX11_refuse_15 (by decide +kernel) ?_
    refine lv_isub hx hb dX11_refuse_16 ?_
    refine lv_topi (fun x_204 ex_204 => ?_)
    replace hE := hE.trans (Lt_in ex_204)
    refine lv_istore_n (lv' := [(2, .int x_204), (0, .ref o0), (1, .int x)]) hx hb dX11_refuse_17 rfl hl (by decide +kernel) rfl (fun ls hl => ?_)
    refine lv_iload_n hx hb dX11_refuse_18 rfl (lv_at hl 0 rfl) ?_
    refine lv_iconst (v := 0) hx hb dX11_refuse_19 (by decide +kernel) ?_
    refine lv_aload_n hx hb dX11_refuse_20 rfl (lv_at hl 1 rfl) ?_
    refine va_get (ci := 11) (v := .ref rf) (C := RX11) (T := TX11) (N := 17) hx hb hts hw11 hown hK hP 0 rfl rfl 12 (by decide +kernel) (hts _ mm_X11_refuse_346) (fun _ h9 => h9) rfl dX11_refuse_21 ?_
    refine va_alen (v := 5) hx hb hK hP 1 0 rfl rfl rfl dX11_refuse_24 ?_
    refine lv_iconst (v := 1) hx hb dX11_refuse_25 (by decide +kernel) ?_
    refine lv_isub hx hb dX11_refuse_26 ?_
    refine lv_topi (fun x_205 ex_205 => ?_)
    obtain rfl : x_205 = 4 := ex_205.trans (by first | rfl | decide)
    refine pci (va_runS (As := [.int x_204, .int 0, .int 4]) (rest := []) ⟨hx, hb, hml, hown, hts⟩ (w_within l D K x_204.toInt 0 4 x_204 0 4 s.heap.size rfl (show (0 : Int32).toInt = 0 from rfl) (show (4 : Int32).toInt = 4 from rfl)) (va_cwS 3 hts gX11_refuse_X11_within rfl rfl rfl (by decide +kernel) ⟨Nat.le_of_ble_eq_true rfl, Nat.le_of_ble_eq_true rfl⟩) (mkS hK hN (va_P.nil) (va_D.nil (A := fun _ => True))) rfl rfl hl.1 rfl (lv_room (Nat.le_of_ble_eq_true rfl)) dX11_refuse_27 ⟨Nat.le_of_ble_eq_true rfl, Nat.le_of_ble_eq_true rfl⟩) (fun r_206 hw => ?_)
    obtain ⟨hw, k_207, -⟩ := hw
    replace hE := hE.trans (Lt_in k_207)
    rcases hw with ⟨rfl, h_208, h_209⟩ | ⟨rfl, h_210⟩
    · replace hE := (hE).trans (if_pos rfl)
      refine lv_if_eq (tgt := 43) hx hb dX11_refuse_30 (by decide +kernel) (fun c_211 => absurd c_211 (by decide +kernel)) (fun c_211 => ?_)
      refine lv_aload_n hx hb dX11_refuse_33 rfl (lv_at hl 1 rfl) ?_
      refine va_get (ci := 11) (v := .ref rf) (C := RX11) (T := TX11) (N := 17) hx hb hts hw11 hown hK hP 0 rfl rfl 12 (by decide +kernel) (hts _ mm_X11_refuse_346) (fun _ h9 => h9) rfl dX11_refuse_34 ?_
      refine lv_iload_n hx hb dX11_refuse_37 rfl (lv_at hl 0 rfl) ?_
      refine lv_dup2_11 hx hb dX11_refuse_38 rfl rfl ?_
      refine va_iald hx hb hK hP 1 0 rfl rfl (i_in rfl (by omega)) dX11_refuse_39 ?_
      refine lv_topi (fun x_212 ex_212 => ?_)
      replace hE := hE.trans (Lt_in ex_212)
      refine lv_iconst (v := 1) hx hb dX11_refuse_40 (by decide +kernel) ?_
      refine lv_iadd hx hb dX11_refuse_41 ?_
      refine lv_topi (fun x_213 ex_213 => ?_)
      replace hE := hE.trans (Lt_in ex_213)
      refine va_iast hx hb hK hP hD hS 1 0 rfl rfl (i_in rfl (by omega)) dX11_refuse_42 (fun H locs hP0 hD0 hS0 => ?_)
      clear hP hD hS
      have hP := hP0
      have hD := hD0
      have hS := hS0
      clear hP0 hD0 hS0
      generalize hf_214 : (upd frf (x_204 : Int32).toNatClampNeg x_213) = f_214 at hP hD
      replace hE := hE.trans (Lt_in hf_214.symm)
      replace hP : va_P D vwCl [(o0, .inr (11, [o_0, o_1, o_2, o_3, o_4, o_5, o_6, o_7, o_8, o_9, o_10, o_11, .ref rf, .int rb, o_14, o_15, o_16])), (rf, .inl (K 0, 5, .inl f_214))] H := hP
      replace hD : va_D A [(o0, .inr (11, [o_0, o_1, o_2, o_3, o_4, o_5, o_6, o_7, o_8, o_9, o_10, o_11, .ref rf, .int rb, o_14, o_15, o_16])), (rf, .inl (K 0, 5, .inl f_214))] := hD
      exact j_201 f_214  hE _ _ hP hD hS ls (lv_sub hl [1, 2] rfl)
    · replace hE := (hE).trans (if_neg (by first | decide | (intro h9; have h8 := congrArg Int32.toInt h9; omega)))
      refine lv_if_eq (tgt := 43) hx hb dX11_refuse_30 (by decide +kernel) (fun c_215 => ?_) (fun c_215 => absurd (by decide +kernel) c_215)
      exact j_201 frf  hE _ _ hP hD hS ls (lv_sub hl [1, 2] rfl)
  · have c_202i := i_nle (x := x.toInt) (y := (-4)) rfl rfl c_202
    replace hE := hE.trans (if_neg c_202)
    refine lv_iload_n hx hb dX11_refuse_6 rfl (lv_at hl 1 rfl) ?_
    refine lv_ineg hx hb dX11_refuse_7 ?_
    refine lv_topi (fun x_216 ex_216 => ?_)
    replace hE := hE.trans (Lt_in ex_216)
    have hx_216 : x_216.toInt = (- x.toInt) := by rw [ex_216]; exact i_neg rfl (by omega)
    refine lv_iconst (v := 1) hx hb dX11_refuse_8 (by decide +kernel) ?_
    refine lv_isub hx hb dX11_refuse_9 ?_
    refine lv_topi (fun x_217 ex_217 => ?_)
    replace hE := hE.trans (Lt_in ex_217)
    have hx_217 : x_217.toInt = ((- x.toInt) - 1) := by rw [ex_217]; exact i_sub hx_216 (show (1 : Int32).toInt = 1 from rfl) (by have q3 := i_rng (a := x) rfl; omega)
    refine lv_goto (tgt := 17) hx hb dX11_refuse_10 (by decide +kernel) ?_
    refine lv_istore_n (lv' := [(2, .int x_217), (0, .ref o0), (1, .int x)]) hx hb dX11_refuse_17 rfl hl (by decide +kernel) rfl (fun ls hl => ?_)
    refine lv_iload_n hx hb dX11_refuse_18 rfl (lv_at hl 0 rfl) ?_
    refine lv_iconst (v := 0) hx hb dX11_refuse_19 (by decide +kernel) ?_
    refine lv_aload_n hx hb dX11_refuse_20 rfl (lv_at hl 1 rfl) ?_
    refine va_get (ci := 11) (v := .ref rf) (C := RX11) (T := TX11) (N := 17) hx hb hts hw11 hown hK hP 0 rfl rfl 12 (by decide +kernel) (hts _ mm_X11_refuse_346) (fun _ h9 => h9) rfl dX11_refuse_21 ?_
    refine va_alen (v := 5) hx hb hK hP 1 0 rfl rfl rfl dX11_refuse_24 ?_
    refine lv_iconst (v := 1) hx hb dX11_refuse_25 (by decide +kernel) ?_
    refine lv_isub hx hb dX11_refuse_26 ?_
    refine lv_topi (fun x_218 ex_218 => ?_)
    obtain rfl : x_218 = 4 := ex_218.trans (by first | rfl | decide)
    refine pci (va_runS (As := [.int x_217, .int 0, .int 4]) (rest := []) ⟨hx, hb, hml, hown, hts⟩ (w_within l D K ((- x.toInt) - 1) 0 4 x_217 0 4 s.heap.size hx_217 (show (0 : Int32).toInt = 0 from rfl) (show (4 : Int32).toInt = 4 from rfl)) (va_cwS 3 hts gX11_refuse_X11_within rfl rfl rfl (by decide +kernel) ⟨Nat.le_of_ble_eq_true rfl, Nat.le_of_ble_eq_true rfl⟩) (mkS hK hN (va_P.nil) (va_D.nil (A := fun _ => True))) rfl rfl hl.1 rfl (lv_room (Nat.le_of_ble_eq_true rfl)) dX11_refuse_27 ⟨Nat.le_of_ble_eq_true rfl, Nat.le_of_ble_eq_true rfl⟩) (fun r_219 hw => ?_)
    obtain ⟨hw, k_220, -⟩ := hw
    replace hE := hE.trans (Lt_in k_220)
    rcases hw with ⟨rfl, h_221, h_222⟩ | ⟨rfl, h_223⟩
    · replace hE := (hE).trans (if_pos rfl)
      refine lv_if_eq (tgt := 43) hx hb dX11_refuse_30 (by decide +kernel) (fun c_224 => absurd c_224 (by decide +kernel)) (fun c_224 => ?_)
      refine lv_aload_n hx hb dX11_refuse_33 rfl (lv_at hl 1 rfl) ?_
      refine va_get (ci := 11) (v := .ref rf) (C := RX11) (T := TX11) (N := 17) hx hb hts hw11 hown hK hP 0 rfl rfl 12 (by decide +kernel) (hts _ mm_X11_refuse_346) (fun _ h9 => h9) rfl dX11_refuse_34 ?_
      refine lv_iload_n hx hb dX11_refuse_37 rfl (lv_at hl 0 rfl) ?_
      refine lv_dup2_11 hx hb dX11_refuse_38 rfl rfl ?_
      refine va_iald hx hb hK hP 1 0 rfl rfl (i_in hx_217 (by omega)) dX11_refuse_39 ?_
      refine lv_topi (fun x_225 ex_225 => ?_)
      replace hE := hE.trans (Lt_in ex_225)
      refine lv_iconst (v := 1) hx hb dX11_refuse_40 (by decide +kernel) ?_
      refine lv_iadd hx hb dX11_refuse_41 ?_
      refine lv_topi (fun x_226 ex_226 => ?_)
      replace hE := hE.trans (Lt_in ex_226)
      refine va_iast hx hb hK hP hD hS 1 0 rfl rfl (i_in hx_217 (by omega)) dX11_refuse_42 (fun H locs hP0 hD0 hS0 => ?_)
      clear hP hD hS
      have hP := hP0
      have hD := hD0
      have hS := hS0
      clear hP0 hD0 hS0
      generalize hf_227 : (upd frf (x_217 : Int32).toNatClampNeg x_226) = f_227 at hP hD
      replace hE := hE.trans (Lt_in hf_227.symm)
      replace hP : va_P D vwCl [(o0, .inr (11, [o_0, o_1, o_2, o_3, o_4, o_5, o_6, o_7, o_8, o_9, o_10, o_11, .ref rf, .int rb, o_14, o_15, o_16])), (rf, .inl (K 0, 5, .inl f_227))] H := hP
      replace hD : va_D A [(o0, .inr (11, [o_0, o_1, o_2, o_3, o_4, o_5, o_6, o_7, o_8, o_9, o_10, o_11, .ref rf, .int rb, o_14, o_15, o_16])), (rf, .inl (K 0, 5, .inl f_227))] := hD
      exact j_201 f_227  hE _ _ hP hD hS ls (lv_sub hl [1, 2] rfl)
    · replace hE := (hE).trans (if_neg (by first | decide | (intro h9; have h8 := congrArg Int32.toInt h9; omega)))
      refine lv_if_eq (tgt := 43) hx hb dX11_refuse_30 (by decide +kernel) (fun c_228 => ?_) (fun c_228 => absurd (by decide +kernel) c_228)
      exact j_201 frf  hE _ _ hP hD hS ls (lv_sub hl [1, 2] rfl)
set_option maxRecDepth 100000 in
noncomputable def E_w_settle (x : Int32) (y : Int32) (rb : Int32) (frf : Nat → Int32) (dr : Int32) (kp : Int32) (fs2 : Nat → Int32) : Int32 × Int32 × (Nat → Int32) × Int32 × Int32 × (Nat → Int32) :=
  if 0 ≤ y then (Lt2 (E_w_keep x dr kp fs2) (fun u_87_2_2_2_1_0 q0_u_87_2_2_2_1_0 => Lt2 q0_u_87_2_2_2_1_0 (fun u_87_2_2_2_1_1 u_87_2_1_0 => Lt (E_w_accept y rb) (fun r_91 => ((r_91, 0, frf, u_87_2_2_2_1_0, u_87_2_2_2_1_1, u_87_2_1_0) : Int32 × Int32 × (Nat → Int32) × Int32 × Int32 × (Nat → Int32)))))) else (Lt2 (E_w_refuse y rb frf) (fun r_94 u_95_2_1_0 => ((r_94, y, u_95_2_1_0, dr, kp, fs2) : Int32 × Int32 × (Nat → Int32) × Int32 × Int32 × (Nat → Int32))))
set_option maxHeartbeats 4000000 in
set_option maxRecDepth 100000 in
theorem w_settle (l : Launch) (D : va_G) (K : Nat → ClassId) (o0 : Nat) (x : Int32) (y : Int32) (o_0 : Value) (o_1 : Value) (o_2 : Value) (o_3 : Value) (o_4 : Value) (o_5 : Value) (o_6 : Value) (o_7 : Value) (o_8 : Value) (h0 : Nat) (o_10 : Value) (o_11 : Value) (rf : Nat) (rb : Int32) (o_14 : Value) (o_15 : Value) (o_16 : Value) (frf : Nat → Int32) (h1 : Nat) (dr : Int32) (kp : Int32) (fs2 : Nat → Int32) (sz : Nat) (zdr : 0 ≤ dr.toInt ∧ dr.toInt ≤ 16) (zkp : 0 ≤ kp.toInt ∧ kp.toInt ≤ 16) : Met l yX11_settle wsX11_settle ({ frames := 2, cells := 0, slots := 0, locals := 44 }) (va_Pc [.ref o0, .int x, .int y] (Pre D K [(o0, .inr (11, [o_0, o_1, o_2, o_3, o_4, o_5, o_6, o_7, o_8, .ref h0, o_10, o_11, .ref rf, .int rb, o_14, o_15, o_16])), (rf, .inl (K 0, 5, .inl frf)), (h0, .inr (2, [.ref h1, .int dr, .int kp])), (h1, .inl (K 0, 476, .inl fs2))] sz)) (va_Qi (S := Su) (fun (r : Int32) (u : Su) => ((u.2.2.2.1 0).toInt ≤ 0) ∧ (0 ≤ (u.2.2.2.1 1).toInt ∧ (u.2.2.2.1 1).toInt ≤ 16) ∧ (0 ≤ (u.2.2.2.1 2).toInt ∧ (u.2.2.2.1 2).toInt ≤ 16) ∧ ((r, (u.2.2.2.1 0), (u.2.1 0), (u.2.2.2.1 1), (u.2.2.2.1 2), (u.2.1 1)) = E_w_settle x y rb frf dr kp fs2) ∧ True) (fun u t => Wd D (va_A [(o0, .inr (11, [o_0, o_1, o_2, o_3, o_4, o_5, o_6, o_7, o_8, .ref h0, o_10, o_11, .ref rf, .int rb, o_14, o_15, o_16])), (rf, .inl (K 0, 5, .inl frf)), (h0, .inr (2, [.ref h1, .int dr, .int kp])), (h1, .inl (K 0, 476, .inl fs2))] sz) ((fun u => [(o0, .inr (11, [o_0, o_1, o_2, o_3, o_4, o_5, o_6, o_7, o_8, .ref h0, o_10, o_11, .ref rf, .int (u.2.2.2.1 0), o_14, o_15, o_16])), (rf, .inl (K 0, 5, .inl (u.2.1 0))), (h0, .inr (2, [.ref h1, .int (u.2.2.2.1 1), .int (u.2.2.2.1 2)])), (h1, .inl (K 0, 476, .inl (u.2.1 1)))]) u) t) (va_A [(o0, .inr (11, [o_0, o_1, o_2, o_3, o_4, o_5, o_6, o_7, o_8, .ref h0, o_10, o_11, .ref rf, .int rb, o_14, o_15, o_16])), (rf, .inl (K 0, 5, .inl frf)), (h0, .inr (2, [.ref h1, .int dr, .int kp])), (h1, .inl (K 0, 476, .inl fs2))] sz)) 0 0 (va_A [(o0, .inr (11, [o_0, o_1, o_2, o_3, o_4, o_5, o_6, o_7, o_8, .ref h0, o_10, o_11, .ref rf, .int rb, o_14, o_15, o_16])), (rf, .inl (K 0, 5, .inl frf)), (h0, .inr (2, [.ref h1, .int dr, .int kp])), (h1, .inl (K 0, 476, .inl fs2))] sz) := by
  refine Met.ofW (cc := cX11_settle) (maxL := 3) (ret := (some .int)) (by decide +kernel) rfl ?_
  intro p e s m args below meth c s₁ B hml hv
  obtain ⟨rfl, hsz, hP, hK, hD0, hN⟩ := hv
  have hx := B.exec
  have hb := B.bytes
  have hr := B.returns
  have hts := atoms_spec (ws := wsX11_settle) B.pre
  have hown : s.vm.findClass RX11 = some m.cls := findClass_of_methodNamed B.named
  have hlocks := B.notSynchronized
  subst hsz
  have hD := hD0.self (sz := s.heap.size)
  generalize hAe : va_A [(o0, .inr (11, [o_0, o_1, o_2, o_3, o_4, o_5, o_6, o_7, o_8, .ref h0, o_10, o_11, .ref rf, .int rb, o_14, o_15, o_16])), (rf, .inl (K 0, 5, .inl frf)), (h0, .inr (2, [.ref h1, .int dr, .int kp])), (h1, .inl (K 0, 476, .inl fs2))] s.heap.size = A at hD ⊢
  have hA : ∀ q : Nat, s.heap.size ≤ q → A q := fun q h => by rw [← hAe]; exact Or.inr h
  clear hAe
  have hS : va_S A s.heap s.heap [] := va_S.rf
  replace hP : va_P D vwCl [(o0, .inr (11, [o_0, o_1, o_2, o_3, o_4, o_5, o_6, o_7, o_8, .ref h0, o_10, o_11, .ref rf, .int rb, o_14, o_15, o_16])), (rf, .inl (K 0, 5, .inl frf)), (h0, .inr (2, [.ref h1, .int dr, .int kp])), (h1, .inl (K 0, 476, .inl fs2))] s.heap := hP
  have hl := lv_entry [.ref o0, .int x, .int y] (n := 3) (Nat.le_of_ble_eq_true rfl)
  rw [lg_entry_eq]
  generalize (lg_sl [.ref o0, .int x, .int y] ++ List.replicate (3 - (lg_sl [.ref o0, .int x, .int y]).length) Slot.unset).toArray = ls at hl ⊢
  have hl : lv_has ls 3 [(0, .ref o0), (1, .int x), (2, .int y)] := hl
  have hw2 : ∀ w ∈ wsX20, w ∈ wsX11_settle := fun w h => (List.mem_cons_of_mem _ (List.mem_append_right _ h))
  have hw11 : ∀ w ∈ wsX110, w ∈ wsX11_settle := fun w h => (List.mem_cons_of_mem _ (List.mem_append_left _ (List.mem_append_right _ h)))
  generalize hQ : MQ below _ _ s _ _ _ = Q
  have hE := E_w_settle.eq_def x y rb frf dr kp fs2
  refine lv_iload_n hx hb dX11_settle_0 rfl (lv_at hl 2 rfl) ?_
  refine lv_if_ge (tgt := 10) hx hb dX11_settle_1 (by decide +kernel) (fun c_85 => ?_) (fun c_85 => ?_)
  · have c_85i := i_le (x := 0) (y := y.toInt) rfl rfl c_85
    replace hE := hE.trans (if_pos c_85)
    refine lv_aload_n hx hb dX11_settle_10 rfl (lv_at hl 0 rfl) ?_
    refine va_get (ci := 11) (v := .ref h0) (C := RX11) (T := TX11) (N := 17) hx hb hts hw11 hown hK hP 0 rfl rfl 9 (by decide +kernel) (hts _ mm_X11_settle_343) (fun _ h9 => h9) rfl dX11_settle_11 ?_
    refine lv_iload_n hx hb dX11_settle_14 rfl (lv_at hl 1 rfl) ?_
    refine kcv (S := Su) (wr := [(o0, .inr (11, [o_0, o_1, o_2, o_3, o_4, o_5, o_6, o_7, o_8, .ref h0, o_10, o_11, .ref rf, .int rb, o_14, o_15, o_16])), (rf, .inl (K 0, 5, .inl frf))]) (va_runVN (As := [.int x]) (rest := []) ⟨hx, hb, hml, hown, hts⟩ (w_keep l D K h0 x h1 dr kp fs2 s.heap.size (by first | omega | decide) (by first | omega | decide)) ⟨va_cnB 1 hts gX11_settle_X2_keep_n300 rfl rfl rfl (nst_at hN 71 rfl) (hts _ mm_X11_settle_153) (by decide +kernel) ⟨Nat.le_of_ble_eq_true rfl, Nat.le_of_ble_eq_true rfl⟩, (hts _ mm_X11_settle_629), (hts _ mm_X11_settle_52)⟩ (mkV hK hN (hP.sub [2, 3] rfl) (hD.sub [2, 3] (by decide +kernel) rfl) (ci := 2) (q0 := 0) rfl rfl) rfl rfl hl.1 rfl (lv_room (Nat.le_of_ble_eq_true rfl)) dX11_settle_15 ⟨Nat.le_of_ble_eq_true rfl, Nat.le_of_ble_eq_true rfl⟩) hP hD hS hA [2, 3] [0, 1] rfl rfl (by decide +kernel) (by decide +kernel) (fun u_87 H locs hw hP0 hD0 hS0 => ?_)
    clear hP hD hS
    have hP := hP0
    have hD := hD0
    have hS := hS0
    clear hP0 hD0 hS0
    replace hP : va_P D vwCl [(o0, .inr (11, [o_0, o_1, o_2, o_3, o_4, o_5, o_6, o_7, o_8, .ref h0, o_10, o_11, .ref rf, .int rb, o_14, o_15, o_16])), (rf, .inl (K 0, 5, .inl frf)), (h0, .inr (2, [.ref h1, .int (u_87.2.2.2.1 0), .int (u_87.2.2.2.1 1)])), (h1, .inl (K 0, 476, .inl (u_87.2.1 0)))] H := hP
    replace hD : va_D A [(o0, .inr (11, [o_0, o_1, o_2, o_3, o_4, o_5, o_6, o_7, o_8, .ref h0, o_10, o_11, .ref rf, .int rb, o_14, o_15, o_16])), (rf, .inl (K 0, 5, .inl frf)), (h0, .inr (2, [.ref h1, .int (u_87.2.2.2.1 0), .int (u_87.2.2.2.1 1)])), (h1, .inl (K 0, 476, .inl (u_87.2.1 0)))] := hD
    obtain ⟨k_88, k_89, k_90, -⟩ := hw
    replace hE := (hE.trans (Lt2_in k_90)).trans (Lt2_in rfl)
    refine lv_aload_n hx hb dX11_settle_18 rfl (lv_at hl 0 rfl) ?_
    refine lv_iload_n hx hb dX11_settle_19 rfl (lv_at hl 2 rfl) ?_
    refine kci (S := Su) (wr := [(rf, .inl (K 0, 5, .inl frf)), (h0, .inr (2, [.ref h1, .int (u_87.2.2.2.1 0), .int (u_87.2.2.2.1 1)])), (h1, .inl (K 0, 476, .inl (u_87.2.1 0)))]) (va_runV (As := [.int y]) (rest := []) ⟨hx, hb, hml, hown, hts⟩ (w_accept l D K o0 y o_0 o_1 o_2 o_3 o_4 o_5 o_6 o_7 o_8 (.ref h0) o_10 o_11 (.ref rf) rb o_14 o_15 o_16 H.size) (cwV 1 hts gX11_settle_X11_accept rfl rfl rfl (by decide +kernel) ⟨Nat.le_of_ble_eq_true rfl, Nat.le_of_ble_eq_true rfl⟩) (mkV hK hN (hP.sub [0] rfl) (hD.sub [0] (by decide +kernel) rfl) (ci := 11) (q0 := 0) rfl rfl) rfl rfl hl.1 rfl (lv_room (Nat.le_of_ble_eq_true rfl)) dX11_settle_20 ⟨Nat.le_of_ble_eq_true rfl, Nat.le_of_ble_eq_true rfl⟩) hP hD hS hA [0] [1, 2, 3] rfl rfl (by decide +kernel) (by decide +kernel) (fun r_91 u_92 H locs hw hP0 hD0 hS0 => ?_)
    clear hP hD hS
    have hP := hP0
    have hD := hD0
    have hS := hS0
    clear hP0 hD0 hS0
    replace hP : va_P D vwCl [(rf, .inl (K 0, 5, .inl frf)), (h0, .inr (2, [.ref h1, .int (u_87.2.2.2.1 0), .int (u_87.2.2.2.1 1)])), (h1, .inl (K 0, 476, .inl (u_87.2.1 0))), (o0, .inr (11, [o_0, o_1, o_2, o_3, o_4, o_5, o_6, o_7, o_8, .ref h0, o_10, o_11, .ref rf, .int 0, o_14, o_15, o_16]))] H := hP
    replace hD : va_D A [(rf, .inl (K 0, 5, .inl frf)), (h0, .inr (2, [.ref h1, .int (u_87.2.2.2.1 0), .int (u_87.2.2.2.1 1)])), (h1, .inl (K 0, 476, .inl (u_87.2.1 0))), (o0, .inr (11, [o_0, o_1, o_2, o_3, o_4, o_5, o_6, o_7, o_8, .ref h0, o_10, o_11, .ref rf, .int 0, o_14, o_15, o_16]))] := hD
    obtain ⟨hw, k_93, -⟩ := hw
    replace hE := hE.trans (Lt_in k_93)
    have er_r_91 := hw
    have hr_r_91 : r_91.toInt = y.toInt := (congrArg Int32.toInt er_r_91).trans rfl
    rw [← hQ]
    have hP9 := hP.sub (ws' := [(o0, .inr (11, [o_0, o_1, o_2, o_3, o_4, o_5, o_6, o_7, o_8, .ref h0, o_10, o_11, .ref rf, .int 0, o_14, o_15, o_16])), (rf, .inl (K 0, 5, .inl frf)), (h0, .inr (2, [.ref h1, .int (u_87.2.2.2.1 0), .int (u_87.2.2.2.1 1)])), (h1, .inl (K 0, 476, .inl (u_87.2.1 0)))]) [3, 0, 1, 2] rfl
    have hD9 := hD.sub (ws' := [(o0, .inr (11, [o_0, o_1, o_2, o_3, o_4, o_5, o_6, o_7, o_8, .ref h0, o_10, o_11, .ref rf, .int 0, o_14, o_15, o_16])), (rf, .inl (K 0, 5, .inl frf)), (h0, .inr (2, [.ref h1, .int (u_87.2.2.2.1 0), .int (u_87.2.2.2.1 1)])), (h1, .inl (K 0, 476, .inl (u_87.2.1 0)))]) [3, 0, 1, 2] (by decide +kernel) rfl
    exact W.iret (v := r_91) hx hb hr (fun t ht hW => ⟨⟨r_91, ((fun _ => 0, fun i => match i with | 0 => frf | _ => (u_87.2.1 0), fun _ => fun _ => 0, fun i => match i with | 0 => 0 | 1 => (u_87.2.2.2.1 0) | _ => (u_87.2.2.2.1 1), fun _ => 0, fun _ => fun _ => none) : Su), rfl, ⟨(show (0 : Int32).toInt ≤ 0 by decide), (show 0 ≤ ((u_87.2.2.2.1 0) : Int32).toInt ∧ ((u_87.2.2.2.1 0) : Int32).toInt ≤ 16 by omega), (show 0 ≤ ((u_87.2.2.2.1 1) : Int32).toInt ∧ ((u_87.2.2.2.1 1) : Int32).toInt ≤ 16 by omega), hE.symm, trivial⟩, (⟨by rw [ht]; exact hP9, hD9⟩ : Wd D A _ t)⟩, hS.F ht⟩) hS.2.2 dX11_settle_23
  · have c_85i := i_nle (x := 0) (y := y.toInt) rfl rfl c_85
    replace hE := hE.trans (if_neg c_85)
    refine lv_aload_n hx hb dX11_settle_4 rfl (lv_at hl 0 rfl) ?_
    refine lv_iload_n hx hb dX11_settle_5 rfl (lv_at hl 2 rfl) ?_
    refine kci (S := Su) (wr := [(h0, .inr (2, [.ref h1, .int dr, .int kp])), (h1, .inl (K 0, 476, .inl fs2))]) (va_runV (As := [.int y]) (rest := []) ⟨hx, hb, hml, hown, hts⟩ (w_refuse l D K o0 y o_0 o_1 o_2 o_3 o_4 o_5 o_6 o_7 o_8 (.ref h0) o_10 o_11 rf rb o_14 o_15 o_16 frf s.heap.size) (cwV 1 hts gX11_settle_X11_refuse rfl rfl rfl (by decide +kernel) ⟨Nat.le_of_ble_eq_true rfl, Nat.le_of_ble_eq_true rfl⟩) (mkV hK hN (hP.sub [0, 1] rfl) (hD.sub [0, 1] (by decide +kernel) rfl) (ci := 11) (q0 := 0) rfl rfl) rfl rfl hl.1 rfl (lv_room (Nat.le_of_ble_eq_true rfl)) dX11_settle_6 ⟨Nat.le_of_ble_eq_true rfl, Nat.le_of_ble_eq_true rfl⟩) hP hD hS hA [0, 1] [2, 3] rfl rfl (by decide +kernel) (by decide +kernel) (fun r_94 u_95 H locs hw hP0 hD0 hS0 => ?_)
    clear hP hD hS
    have hP := hP0
    have hD := hD0
    have hS := hS0
    clear hP0 hD0 hS0
    replace hP : va_P D vwCl [(h0, .inr (2, [.ref h1, .int dr, .int kp])), (h1, .inl (K 0, 476, .inl fs2)), (o0, .inr (11, [o_0, o_1, o_2, o_3, o_4, o_5, o_6, o_7, o_8, .ref h0, o_10, o_11, .ref rf, .int y, o_14, o_15, o_16])), (rf, .inl (K 0, 5, .inl (u_95.2.1 0)))] H := hP
    replace hD : va_D A [(h0, .inr (2, [.ref h1, .int dr, .int kp])), (h1, .inl (K 0, 476, .inl fs2)), (o0, .inr (11, [o_0, o_1, o_2, o_3, o_4, o_5, o_6, o_7, o_8, .ref h0, o_10, o_11, .ref rf, .int y, o_14, o_15, o_16])), (rf, .inl (K 0, 5, .inl (u_95.2.1 0)))] := hD
    obtain ⟨k_96, -⟩ := hw
    replace hE := hE.trans (Lt2_in k_96)
    rw [← hQ]
    have hP9 := hP.sub (ws' := [(o0, .inr (11, [o_0, o_1, o_2, o_3, o_4, o_5, o_6, o_7, o_8, .ref h0, o_10, o_11, .ref rf, .int y, o_14, o_15, o_16])), (rf, .inl (K 0, 5, .inl (u_95.2.1 0))), (h0, .inr (2, [.ref h1, .int dr, .int kp])), (h1, .inl (K 0, 476, .inl fs2))]) [2, 3, 0, 1] rfl
    have hD9 := hD.sub (ws' := [(o0, .inr (11, [o_0, o_1, o_2, o_3, o_4, o_5, o_6, o_7, o_8, .ref h0, o_10, o_11, .ref rf, .int y, o_14, o_15, o_16])), (rf, .inl (K 0, 5, .inl (u_95.2.1 0))), (h0, .inr (2, [.ref h1, .int dr, .int kp])), (h1, .inl (K 0, 476, .inl fs2))]) [2, 3, 0, 1] (by decide +kernel) rfl
    exact W.iret (v := r_94) hx hb hr (fun t ht hW => ⟨⟨r_94, ((fun _ => 0, fun i => match i with | 0 => (u_95.2.1 0) | _ => fs2, fun _ => fun _ => 0, fun i => match i with | 0 => y | 1 => dr | _ => kp, fun _ => 0, fun _ => fun _ => none) : Su), rfl, ⟨(show (y : Int32).toInt ≤ 0 by omega), (show 0 ≤ (dr : Int32).toInt ∧ (dr : Int32).toInt ≤ 16 by omega), (show 0 ≤ (kp : Int32).toInt ∧ (kp : Int32).toInt ≤ 16 by omega), hE.symm, trivial⟩, (⟨by rw [ht]; exact hP9, hD9⟩ : Wd D A _ t)⟩, hS.F ht⟩) hS.2.2 dX11_settle_9
set_option maxRecDepth 100000 in
noncomputable def E_w_house_j76 (rb : Int32) (frf : Nat → Int32) (kp : Int32) (n : Int32) (f : Nat → Int32) : Int32 × Int32 × (Nat → Int32) × Int32 × Int32 × (Nat → Int32) :=
  Lt2 (E_w_refuse (-1) rb frf) (fun r_466 u_467_2_1_0 => ((r_466, (-1), u_467_2_1_0, kp, n, f) : Int32 × Int32 × (Nat → Int32) × Int32 × Int32 × (Nat → Int32)))
set_option maxRecDepth 100000 in
noncomputable def E_w_house_j52 (rb : Int32) (frf : Nat → Int32) (kp : Int32) (n : Int32) (f : Nat → Int32) (v_459 : Int32) : Int32 × Int32 × (Nat → Int32) × Int32 × Int32 × (Nat → Int32) :=
  if v_459 = 0 then (E_w_house_j76 rb frf kp n f) else (E_w_house_j76 rb frf kp n f)
set_option maxRecDepth 100000 in
noncomputable def E_w_house_j23 (x3 : Int32) (x4 : Int32) (rb : Int32) (frf : Nat → Int32) (kp : Int32) (n : Int32) (f : Nat → Int32) : Int32 × Int32 × (Nat → Int32) × Int32 × Int32 × (Nat → Int32) :=
  Lt (E_w_within x3 0 7) (fun r_473 => if r_473 = 1 then (Lt (E_w_within x4 0 7) (fun r_479 => if r_479 = 1 then (E_w_house_j76 rb frf kp n f) else (E_w_house_j52 rb frf kp n f 0))) else (E_w_house_j52 rb frf kp n f 0))
set_option maxRecDepth 100000 in
noncomputable def E_w_house (x0 : Int32) (x1 : Int32) (x2 : Int32) (x3 : Int32) (x4 : Int32) (rb : Int32) (frf : Nat → Int32) (dr : Int32) (kp : Int32) (n : Int32) (f : Nat → Int32) : Int32 × Int32 × (Nat → Int32) × Int32 × Int32 × (Nat → Int32) :=
  Lt (E_w_within x0 0 6) (fun r_488 => if r_488 = 1 then (Lt (E_w_within x1 0 3) (fun r_494 => if r_494 = 1 then (Lt (E_w_within x3 0 7) (fun r_500 => if r_500 = 1 then (Lt (E_w_within x4 0 7) (fun r_506 => if r_506 = 1 then (Lt (E_w_within x2 0 999) (fun r_514 => if r_514 = 1 then (Lt (E_w_dinerOf x3 n f) (fun r_520 => if r_520 = (-1) then (if n < 8 then (Lt2 (E_w_build x0 x1 x2 x3 x4 n f) (fun r_528 q0_r_528 => Lt2 q0_r_528 (fun u_529_2_2_2_1_0 u_529_2_1_0 => Lt (E_w_accept r_528 rb) (fun r_533 => ((r_533, 0, frf, 0, u_529_2_2_2_1_0, u_529_2_1_0) : Int32 × Int32 × (Nat → Int32) × Int32 × Int32 × (Nat → Int32)))))) else (Lt2 (E_w_refuse (-5) rb frf) (fun r_536 u_537_2_1_0 => ((r_536, (-5), u_537_2_1_0, kp, n, f) : Int32 × Int32 × (Nat → Int32) × Int32 × Int32 × (Nat → Int32))))) else (Lt2 (E_w_refuse (-3) rb frf) (fun r_539 u_540_2_1_0 => ((r_539, (-3), u_540_2_1_0, kp, n, f) : Int32 × Int32 × (Nat → Int32) × Int32 × Int32 × (Nat → Int32)))))) else (E_w_house_j76 rb frf kp n f))) else (E_w_house_j52 rb frf kp n f 1))) else (E_w_house_j52 rb frf kp n f 1))) else (E_w_house_j23 x3 x4 rb frf kp n f))) else (E_w_house_j23 x3 x4 rb frf kp n f))
set_option maxHeartbeats 4000000 in
set_option maxRecDepth 100000 in
theorem w_house (l : Launch) (D : va_G) (K : Nat → ClassId) (o0 : Nat) (x0 : Int32) (x1 : Int32) (x2 : Int32) (x3 : Int32) (x4 : Int32) (t0 : Nat) (o_1 : Value) (o_2 : Value) (o_3 : Value) (o_4 : Value) (o_5 : Value) (o_6 : Value) (o_7 : Value) (o_8 : Value) (h0 : Nat) (o_10 : Value) (o_11 : Value) (rf : Nat) (rb : Int32) (o_14 : Value) (o_15 : Value) (o_16 : Value) (frf : Nat → Int32) (h1 : Nat) (dr : Int32) (kp : Int32) (t1 : Nat) (k_1 : Value) (k_2 : Value) (k_3 : Value) (n : Int32) (k_5 : Value) (k_6 : Value) (k_7 : Value) (k_8 : Value) (k_9 : Value) (f : Nat → Int32) (sz : Nat) (zdr : 0 ≤ dr.toInt ∧ dr.toInt ≤ 16) (zkp : 0 ≤ kp.toInt ∧ kp.toInt ≤ 16) (zn : 0 ≤ n.toInt ∧ n.toInt ≤ 8) : Met l yX11_house wsX11_house ({ frames := 3, cells := 0, slots := 0, locals := 71 }) (va_Pc [.ref o0, .int x0, .int x1, .int x2, .int x3, .int x4] (Pre D K [(o0, .inr (11, [.ref t0, o_1, o_2, o_3, o_4, o_5, o_6, o_7, o_8, .ref h0, o_10, o_11, .ref rf, .int rb, o_14, o_15, o_16])), (rf, .inl (K 0, 5, .inl frf)), (h0, .inr (2, [.ref h1, .int dr, .int kp])), (t0, .inr (9, [.ref t1, k_1, k_2, k_3, .int n, k_5, k_6, k_7, k_8, k_9])), (t1, .inl (K 0, 56, .inl f))] sz)) (va_Qi (S := Su) (fun (r : Int32) (u : Su) => ((-5) ≤ (u.2.2.2.1 0).toInt ∧ (u.2.2.2.1 0).toInt ≤ 0) ∧ (0 ≤ (u.2.2.2.1 1).toInt ∧ (u.2.2.2.1 1).toInt ≤ 16) ∧ (0 ≤ (u.2.2.2.1 2).toInt ∧ (u.2.2.2.1 2).toInt ≤ 8) ∧ ((r, (u.2.2.2.1 0), (u.2.1 0), (u.2.2.2.1 1), (u.2.2.2.1 2), (u.2.1 1)) = E_w_house x0 x1 x2 x3 x4 rb frf dr kp n f) ∧ True) (fun u t => Wd D (va_A [(o0, .inr (11, [.ref t0, o_1, o_2, o_3, o_4, o_5, o_6, o_7, o_8, .ref h0, o_10, o_11, .ref rf, .int rb, o_14, o_15, o_16])), (rf, .inl (K 0, 5, .inl frf)), (h0, .inr (2, [.ref h1, .int dr, .int kp])), (t0, .inr (9, [.ref t1, k_1, k_2, k_3, .int n, k_5, k_6, k_7, k_8, k_9])), (t1, .inl (K 0, 56, .inl f))] sz) ((fun u => [(o0, .inr (11, [.ref t0, o_1, o_2, o_3, o_4, o_5, o_6, o_7, o_8, .ref h0, o_10, o_11, .ref rf, .int (u.2.2.2.1 0), o_14, o_15, o_16])), (rf, .inl (K 0, 5, .inl (u.2.1 0))), (h0, .inr (2, [.ref h1, .int dr, .int (u.2.2.2.1 1)])), (t0, .inr (9, [.ref t1, k_1, k_2, k_3, .int (u.2.2.2.1 2), k_5, k_6, k_7, k_8, k_9])), (t1, .inl (K 0, 56, .inl (u.2.1 1)))]) u) t) (va_A [(o0, .inr (11, [.ref t0, o_1, o_2, o_3, o_4, o_5, o_6, o_7, o_8, .ref h0, o_10, o_11, .ref rf, .int rb, o_14, o_15, o_16])), (rf, .inl (K 0, 5, .inl frf)), (h0, .inr (2, [.ref h1, .int dr, .int kp])), (t0, .inr (9, [.ref t1, k_1, k_2, k_3, .int n, k_5, k_6, k_7, k_8, k_9])), (t1, .inl (K 0, 56, .inl f))] sz)) 0 0 (va_A [(o0, .inr (11, [.ref t0, o_1, o_2, o_3, o_4, o_5, o_6, o_7, o_8, .ref h0, o_10, o_11, .ref rf, .int rb, o_14, o_15, o_16])), (rf, .inl (K 0, 5, .inl frf)), (h0, .inr (2, [.ref h1, .int dr, .int kp])), (t0, .inr (9, [.ref t1, k_1, k_2, k_3, .int n, k_5, k_6, k_7, k_8, k_9])), (t1, .inl (K 0, 56, .inl f))] sz) := by
  refine Met.ofW (cc := cX11_house) (maxL := 8) (ret := (some .int)) (by decide +kernel) rfl ?_
  intro p e s m args below meth c s₁ B hml hv
  obtain ⟨rfl, hsz, hP, hK, hD0, hN⟩ := hv
  have hx := B.exec
  have hb := B.bytes
  have hr := B.returns
  have hts := atoms_spec (ws := wsX11_house) B.pre
  have hown : s.vm.findClass RX11 = some m.cls := findClass_of_methodNamed B.named
  have hlocks := B.notSynchronized
  subst hsz
  have hD := hD0.self (sz := s.heap.size)
  generalize hAe : va_A [(o0, .inr (11, [.ref t0, o_1, o_2, o_3, o_4, o_5, o_6, o_7, o_8, .ref h0, o_10, o_11, .ref rf, .int rb, o_14, o_15, o_16])), (rf, .inl (K 0, 5, .inl frf)), (h0, .inr (2, [.ref h1, .int dr, .int kp])), (t0, .inr (9, [.ref t1, k_1, k_2, k_3, .int n, k_5, k_6, k_7, k_8, k_9])), (t1, .inl (K 0, 56, .inl f))] s.heap.size = A at hD ⊢
  have hA : ∀ q : Nat, s.heap.size ≤ q → A q := fun q h => by rw [← hAe]; exact Or.inr h
  clear hAe
  have hS : va_S A s.heap s.heap [] := va_S.rf
  replace hP : va_P D vwCl [(o0, .inr (11, [.ref t0, o_1, o_2, o_3, o_4, o_5, o_6, o_7, o_8, .ref h0, o_10, o_11, .ref rf, .int rb, o_14, o_15, o_16])), (rf, .inl (K 0, 5, .inl frf)), (h0, .inr (2, [.ref h1, .int dr, .int kp])), (t0, .inr (9, [.ref t1, k_1, k_2, k_3, .int n, k_5, k_6, k_7, k_8, k_9])), (t1, .inl (K 0, 56, .inl f))] s.heap := hP
  have hl := lv_entry [.ref o0, .int x0, .int x1, .int x2, .int x3, .int x4] (n := 8) (Nat.le_of_ble_eq_true rfl)
  rw [lg_entry_eq]
  generalize (lg_sl [.ref o0, .int x0, .int x1, .int x2, .int x3, .int x4] ++ List.replicate (8 - (lg_sl [.ref o0, .int x0, .int x1, .int x2, .int x3, .int x4]).length) Slot.unset).toArray = ls at hl ⊢
  have hl : lv_has ls 8 [(0, .ref o0), (1, .int x0), (2, .int x1), (3, .int x2), (4, .int x3), (5, .int x4)] := hl
  have hw2 : ∀ w ∈ wsX20, w ∈ wsX11_house := fun w h => (List.mem_cons_of_mem _ (List.mem_append_right _ h))
  have hw9 : ∀ w ∈ wsX90, w ∈ wsX11_house := fun w h => (List.mem_cons_of_mem _ (List.mem_append_left _ (List.mem_append_right _ h)))
  have hw11 : ∀ w ∈ wsX110, w ∈ wsX11_house := fun w h => (List.mem_cons_of_mem _ (List.mem_append_left _ (List.mem_append_left _ (List.mem_append_right _ h))))
  generalize hQ : MQ below _ _ s _ _ _ = Q
  have hE := E_w_house.eq_def x0 x1 x2 x3 x4 rb frf dr kp n f
  refine lv_iload_n hx hb dX11_house_0 rfl (lv_at hl 1 rfl) ?_
  refine lv_iconst (v := 0) hx hb dX11_house_1 (by decide +kernel) ?_
  refine lv_bipush (v := 6) hx hb dX11_house_2 (by decide +kernel) ?_
  have j_465 : ∀ (hE : E_w_house x0 x1 x2 x3 x4 rb frf dr kp n f = E_w_house_j76 rb frf kp n f) (H : Heap) (locs : List Loc) (hP : va_P D vwCl [(o0, .inr (11, [.ref t0, o_1, o_2, o_3, o_4, o_5, o_6, o_7, o_8, .ref h0, o_10, o_11, .ref rf, .int rb, o_14, o_15, o_16])), (rf, .inl (K 0, 5, .inl frf)), (h0, .inr (2, [.ref h1, .int dr, .int kp])), (t0, .inr (9, [.ref t1, k_1, k_2, k_3, .int n, k_5, k_6, k_7, k_8, k_9])), (t1, .inl (K 0, 56, .inl f))] H) (hD : va_D A [(o0, .inr (11, [.ref t0, o_1, o_2, o_3, o_4, o_5, o_6, o_7, o_8, .ref h0, o_10, o_11, .ref rf, .int rb, o_14, o_15, o_16])), (rf, .inl (K 0, 5, .inl frf)), (h0, .inr (2, [.ref h1, .int dr, .int kp])), (t0, .inr (9, [.ref t1, k_1, k_2, k_3, .int n, k_5, k_6, k_7, k_8, k_9])), (t1, .inl (K 0, 56, .inl f))]) (hS : va_S A s.heap H locs) (ls : Array Slot) (hl : lv_has ls 8 [(0, .ref o0)]), W p l e ({ frames := 3, cells := 0, slots := 0, locals := 71 }) s m (([.ref o0, .int x0, .int x1, .int x2, .int x3, .int x4] : List Value).toArray) below meth c H locs 0 0 Q (F0 m 76 ls []) := by
    clear hE hP hD hS hl
    intro hE H locs hP hD hS ls hl
    replace hE := hE.trans (E_w_house_j76.eq_def _ _ _ _ _)
    refine lv_aload_n hx hb dX11_house_76 rfl (lv_at hl 0 rfl) ?_
    refine lv_iconst (v := (-1)) hx hb dX11_house_77 (by decide +kernel) ?_
    refine kci (S := Su) (wr := [(h0, .inr (2, [.ref h1, .int dr, .int kp])), (t0, .inr (9, [.ref t1, k_1, k_2, k_3, .int n, k_5, k_6, k_7, k_8, k_9])), (t1, .inl (K 0, 56, .inl f))]) (va_runV (As := [.int (-1)]) (rest := []) ⟨hx, hb, hml, hown, hts⟩ (w_refuse l D K o0 (-1) (.ref t0) o_1 o_2 o_3 o_4 o_5 o_6 o_7 o_8 (.ref h0) o_10 o_11 rf rb o_14 o_15 o_16 frf H.size) (cwV 1 hts gX11_house_X11_refuse rfl rfl rfl (by decide +kernel) ⟨Nat.le_of_ble_eq_true rfl, Nat.le_of_ble_eq_true rfl⟩) (mkV hK hN (hP.sub [0, 1] rfl) (hD.sub [0, 1] (by decide +kernel) rfl) (ci := 11) (q0 := 0) rfl rfl) rfl rfl hl.1 rfl (lv_room (Nat.le_of_ble_eq_true rfl)) dX11_house_78 ⟨Nat.le_of_ble_eq_true rfl, Nat.le_of_ble_eq_true rfl⟩) hP hD hS hA [0, 1] [2, 3, 4] rfl rfl (by decide +kernel) (by decide +kernel) (fun r_466 u_467 H locs hw hP0 hD0 hS0 => ?_)
    clear hP hD hS
    have hP := hP0
    have hD := hD0
    have hS := hS0
    clear hP0 hD0 hS0
    replace hP : va_P D vwCl [(h0, .inr (2, [.ref h1, .int dr, .int kp])), (t0, .inr (9, [.ref t1, k_1, k_2, k_3, .int n, k_5, k_6, k_7, k_8, k_9])), (t1, .inl (K 0, 56, .inl f)), (o0, .inr (11, [.ref t0, o_1, o_2, o_3, o_4, o_5, o_6, o_7, o_8, .ref h0, o_10, o_11, .ref rf, .int (-1), o_14, o_15, o_16])), (rf, .inl (K 0, 5, .inl (u_467.2.1 0)))] H := hP
    replace hD : va_D A [(h0, .inr (2, [.ref h1, .int dr, .int kp])), (t0, .inr (9, [.ref t1, k_1, k_2, k_3, .int n, k_5, k_6, k_7, k_8, k_9])), (t1, .inl (K 0, 56, .inl f)), (o0, .inr (11, [.ref t0, o_1, o_2, o_3, o_4, o_5, o_6, o_7, o_8, .ref h0, o_10, o_11, .ref rf, .int (-1), o_14, o_15, o_16])), (rf, .inl (K 0, 5, .inl (u_467.2.1 0)))] := hD
    obtain ⟨k_468, -⟩ := hw
    replace hE := hE.trans (Lt2_in k_468)
    rw [← hQ]
    have hP9 := hP.sub (ws' := [(o0, .inr (11, [.ref t0, o_1, o_2, o_3, o_4, o_5, o_6, o_7, o_8, .ref h0, o_10, o_11, .ref rf, .int (-1), o_14, o_15, o_16])), (rf, .inl (K 0, 5, .inl (u_467.2.1 0))), (h0, .inr (2, [.ref h1, .int dr, .int kp])), (t0, .inr (9, [.ref t1, k_1, k_2, k_3, .int n, k_5, k_6, k_7, k_8, k_9])), (t1, .inl (K 0, 56, .inl f))]) [3, 4, 0, 1, 2] rfl
    have hD9 := hD.sub (ws' := [(o0, .inr (11, [.ref t0, o_1, o_2, o_3, o_4, o_5, o_6, o_7, o_8, .ref h0, o_10, o_11, .ref rf, .int (-1), o_14, o_15, o_16])), (rf, .inl (K 0, 5, .inl (u_467.2.1 0))), (h0, .inr (2, [.ref h1, .int dr, .int kp])), (t0, .inr (9, [.ref t1, k_1, k_2, k_3, .int n, k_5, k_6, k_7, k_8, k_9])), (t1, .inl (K 0, 56, .inl f))]) [3, 4, 0, 1, 2] (by decide +kernel) rfl
    exact W.iret (v := r_466) hx hb hr (fun t ht hW => ⟨⟨r_466, ((fun _ => 0, fun i => match i with | 0 => (u_467.2.1 0) | _ => f, fun _ => fun _ => 0, fun i => match i with | 0 => (-1) | 1 => kp | _ => n, fun _ => 0, fun _ => fun _ => none) : Su), rfl, ⟨(show (-5) ≤ ((-1) : Int32).toInt ∧ ((-1) : Int32).toInt ≤ 0 by decide), (show 0 ≤ (kp : Int32).toInt ∧ (kp : Int32).toInt ≤ 16 by omega), (show 0 ≤ (n : Int32).toInt ∧ (n : Int32).toInt ≤ 8 by omega), hE.symm, trivial⟩, (⟨by rw [ht]; exact hP9, hD9⟩ : Wd D A _ t)⟩, hS.F ht⟩) hS.2.2 dX11_house_81
  have j_469 : ∀ (v_459 : Int32) (hv_459 : 0 ≤ v_459.toInt ∧ v_459.toInt ≤ 1) (hE : E_w_house x0 x1 x2 x3 x4 rb frf dr kp n f = E_w_house_j52 rb frf kp n f v_459) (H : Heap) (locs : List Loc) (hP : va_P D vwCl [(o0, .inr (11, [.ref t0, o_1, o_2, o_3, o_4, o_5, o_6, o_7, o_8, .ref h0, o_10, o_11, .ref rf, .int rb, o_14, o_15, o_16])), (rf, .inl (K 0, 5, .inl frf)), (h0, .inr (2, [.ref h1, .int dr, .int kp])), (t0, .inr (9, [.ref t1, k_1, k_2, k_3, .int n, k_5, k_6, k_7, k_8, k_9])), (t1, .inl (K 0, 56, .inl f))] H) (hD : va_D A [(o0, .inr (11, [.ref t0, o_1, o_2, o_3, o_4, o_5, o_6, o_7, o_8, .ref h0, o_10, o_11, .ref rf, .int rb, o_14, o_15, o_16])), (rf, .inl (K 0, 5, .inl frf)), (h0, .inr (2, [.ref h1, .int dr, .int kp])), (t0, .inr (9, [.ref t1, k_1, k_2, k_3, .int n, k_5, k_6, k_7, k_8, k_9])), (t1, .inl (K 0, 56, .inl f))]) (hS : va_S A s.heap H locs) (ls : Array Slot) (hl : lv_has ls 8 [(6, .int v_459), (0, .ref o0), (1, .int x0), (2, .int x1), (3, .int x2), (4, .int x3), (5, .int x4)]), W p l e ({ frames := 3, cells := 0, slots := 0, locals := 71 }) s m (([.ref o0, .int x0, .int x1, .int x2, .int x3, .int x4] : List Value).toArray) below meth c H locs 0 0 Q (F0 m 52 ls []) := by
    clear hE hP hD hS hl
    intro v_459 hv_459 hE H locs hP hD hS ls hl
    replace hE := hE.trans (E_w_house_j52.eq_def _ _ _ _ _ _)
    refine lv_iconst (v := 0) hx hb dX11_house_52 (by decide +kernel) ?_
    refine lv_istore (lv' := [(7, .int 0), (6, .int v_459), (0, .ref o0), (1, .int x0), (2, .int x1), (3, .int x2), (4, .int x3), (5, .int x4)]) hx hb dX11_house_53 hl (by decide +kernel) rfl (fun ls hl => ?_)
    refine lv_iload hx hb dX11_house_55 (lv_at hl 1 rfl) ?_
    refine lv_if_eq (tgt := 76) hx hb dX11_house_57 (by decide +kernel) (fun c_470 => ?_) (fun c_470 => ?_)
    · have c_470i := i_eq (x := v_459.toInt) (y := 0) rfl rfl c_470
      replace hE := hE.trans (if_pos c_470)
      exact j_465   hE _ _ hP hD hS ls (lv_sub hl [2] rfl)
    · have c_470i := i_ne (x := v_459.toInt) (y := 0) rfl rfl c_470
      replace hE := hE.trans (if_neg c_470)
      refine lv_iload hx hb dX11_house_60 (lv_at hl 0 rfl) ?_
      refine lv_if_eq (tgt := 76) hx hb dX11_house_62 (by decide +kernel) (fun c_471 => ?_) (fun c_471 => absurd (by decide +kernel) c_471)
      exact j_465   hE _ _ hP hD hS ls (lv_sub hl [2] rfl)
  have j_472 : ∀ (hE : E_w_house x0 x1 x2 x3 x4 rb frf dr kp n f = E_w_house_j23 x3 x4 rb frf kp n f) (H : Heap) (locs : List Loc) (hP : va_P D vwCl [(o0, .inr (11, [.ref t0, o_1, o_2, o_3, o_4, o_5, o_6, o_7, o_8, .ref h0, o_10, o_11, .ref rf, .int rb, o_14, o_15, o_16])), (rf, .inl (K 0, 5, .inl frf)), (h0, .inr (2, [.ref h1, .int dr, .int kp])), (t0, .inr (9, [.ref t1, k_1, k_2, k_3, .int n, k_5, k_6, k_7, k_8, k_9])), (t1, .inl (K 0, 56, .inl f))] H) (hD : va_D A [(o0, .inr (11, [.ref t0, o_1, o_2, o_3, o_4, o_5, o_6, o_7, o_8, .ref h0, o_10, o_11, .ref rf, .int rb, o_14, o_15, o_16])), (rf, .inl (K 0, 5, .inl frf)), (h0, .inr (2, [.ref h1, .int dr, .int kp])), (t0, .inr (9, [.ref t1, k_1, k_2, k_3, .int n, k_5, k_6, k_7, k_8, k_9])), (t1, .inl (K 0, 56, .inl f))]) (hS : va_S A s.heap H locs) (ls : Array Slot) (hl : lv_has ls 8 [(0, .ref o0), (1, .int x0), (2, .int x1), (3, .int x2), (4, .int x3), (5, .int x4)]), W p l e ({ frames := 3, cells := 0, slots := 0, locals := 71 }) s m (([.ref o0, .int x0, .int x1, .int x2, .int x3, .int x4] : List Value).toArray) below meth c H locs 0 0 Q (F0 m 23 ls []) := by
    clear hE hP hD hS hl
    intro hE H locs hP hD hS ls hl
    replace hE := hE.trans (E_w_house_j23.eq_def _ _ _ _ _ _ _)
    refine lv_iconst (v := 0) hx hb dX11_house_23 (by decide +kernel) ?_
    refine lv_istore (lv' := [(6, .int 0), (0, .ref o0), (1, .int x0), (2, .int x1), (3, .int x2), (4, .int x3), (5, .int x4)]) hx hb dX11_house_24 hl (by decide +kernel) rfl (fun ls hl => ?_)
    refine lv_iload hx hb dX11_house_26 (lv_at hl 5 rfl) ?_
    refine lv_iconst (v := 0) hx hb dX11_house_28 (by decide +kernel) ?_
    refine lv_bipush (v := 7) hx hb dX11_house_29 (by decide +kernel) ?_
    refine pci (va_runS (As := [.int x3, .int 0, .int 7]) (rest := []) ⟨hx, hb, hml, hown, hts⟩ (w_within l D K x3.toInt 0 7 x3 0 7 H.size rfl (show (0 : Int32).toInt = 0 from rfl) (show (7 : Int32).toInt = 7 from rfl)) (va_cwS 3 hts gX11_house_X11_within rfl rfl rfl (by decide +kernel) ⟨Nat.le_of_ble_eq_true rfl, Nat.le_of_ble_eq_true rfl⟩) (mkS hK hN (va_P.nil) (va_D.nil (A := fun _ => True))) rfl rfl hl.1 rfl (lv_room (Nat.le_of_ble_eq_true rfl)) dX11_house_31 ⟨Nat.le_of_ble_eq_true rfl, Nat.le_of_ble_eq_true rfl⟩) (fun r_473 hw => ?_)
    obtain ⟨hw, k_474, -⟩ := hw
    replace hE := hE.trans (Lt_in k_474)
    rcases hw with ⟨rfl, h_475, h_476⟩ | ⟨rfl, h_477⟩
    · replace hE := (hE).trans (if_pos rfl)
      refine lv_if_eq (tgt := 52) hx hb dX11_house_34 (by decide +kernel) (fun c_478 => absurd c_478 (by decide +kernel)) (fun c_478 => ?_)
      refine lv_iload hx hb dX11_house_37 (lv_at hl 6 rfl) ?_
      refine lv_iconst (v := 0) hx hb dX11_house_39 (by decide +kernel) ?_
      refine lv_bipush (v := 7) hx hb dX11_house_40 (by decide +kernel) ?_
      refine pci (va_runS (As := [.int x4, .int 0, .int 7]) (rest := []) ⟨hx, hb, hml, hown, hts⟩ (w_within l D K x4.toInt 0 7 x4 0 7 H.size rfl (show (0 : Int32).toInt = 0 from rfl) (show (7 : Int32).toInt = 7 from rfl)) (va_cwS 3 hts gX11_house_X11_within rfl rfl rfl (by decide +kernel) ⟨Nat.le_of_ble_eq_true rfl, Nat.le_of_ble_eq_true rfl⟩) (mkS hK hN (va_P.nil) (va_D.nil (A := fun _ => True))) rfl rfl hl.1 rfl (lv_room (Nat.le_of_ble_eq_true rfl)) dX11_house_42 ⟨Nat.le_of_ble_eq_true rfl, Nat.le_of_ble_eq_true rfl⟩) (fun r_479 hw => ?_)
      obtain ⟨hw, k_480, -⟩ := hw
      replace hE := hE.trans (Lt_in k_480)
      rcases hw with ⟨rfl, h_481, h_482⟩ | ⟨rfl, h_483⟩
      · replace hE := (hE).trans (if_pos rfl)
        refine lv_if_eq (tgt := 52) hx hb dX11_house_45 (by decide +kernel) (fun c_484 => absurd c_484 (by decide +kernel)) (fun c_484 => ?_)
        refine lv_iconst (v := 1) hx hb dX11_house_48 (by decide +kernel) ?_
        refine lv_goto (tgt := 53) hx hb dX11_house_49 (by decide +kernel) ?_
        refine lv_istore (lv' := [(7, .int 1), (6, .int 0), (0, .ref o0), (1, .int x0), (2, .int x1), (3, .int x2), (4, .int x3), (5, .int x4)]) hx hb dX11_house_53 hl (by decide +kernel) rfl (fun ls hl => ?_)
        refine lv_iload hx hb dX11_house_55 (lv_at hl 1 rfl) ?_
        refine lv_if_eq (tgt := 76) hx hb dX11_house_57 (by decide +kernel) (fun c_485 => ?_) (fun c_485 => absurd (by decide +kernel) c_485)
        exact j_465   hE _ _ hP hD hS ls (lv_sub hl [2] rfl)
      · replace hE := (hE).trans (if_neg (by first | decide | (intro h9; have h8 := congrArg Int32.toInt h9; omega)))
        refine lv_if_eq (tgt := 52) hx hb dX11_house_45 (by decide +kernel) (fun c_486 => ?_) (fun c_486 => absurd (by decide +kernel) c_486)
        exact j_469 0 (by decide +kernel) hE _ _ hP hD hS ls (lv_sub hl [0, 1, 2, 3, 4, 5, 6] rfl)
    · replace hE := (hE).trans (if_neg (by first | decide | (intro h9; have h8 := congrArg Int32.toInt h9; omega)))
      refine lv_if_eq (tgt := 52) hx hb dX11_house_34 (by decide +kernel) (fun c_487 => ?_) (fun c_487 => absurd (by decide +kernel) c_487)
      exact j_469 0 (by decide +kernel) hE _ _ hP hD hS ls (lv_sub hl [0, 1, 2, 3, 4, 5, 6] rfl)
  refine pci (va_runS (As := [.int x0, .int 0, .int 6]) (rest := []) ⟨hx, hb, hml, hown, hts⟩ (w_within l D K x0.toInt 0 6 x0 0 6 s.heap.size rfl (show (0 : Int32).toInt = 0 from rfl) (show (6 : Int32).toInt = 6 from rfl)) (va_cwS 3 hts gX11_house_X11_within rfl rfl rfl (by decide +kernel) ⟨Nat.le_of_ble_eq_true rfl, Nat.le_of_ble_eq_true rfl⟩) (mkS hK hN (va_P.nil) (va_D.nil (A := fun _ => True))) rfl rfl hl.1 rfl (lv_room (Nat.le_of_ble_eq_true rfl)) dX11_house_4 ⟨Nat.le_of_ble_eq_true rfl, Nat.le_of_ble_eq_true rfl⟩) (fun r_488 hw => ?_)
  obtain ⟨hw, k_489, -⟩ := hw
  replace hE := hE.trans (Lt_in k_489)
  rcases hw with ⟨rfl, h_490, h_491⟩ | ⟨rfl, h_492⟩
  · replace hE := (hE).trans (if_pos rfl)
    refine lv_if_eq (tgt := 23) hx hb dX11_house_7 (by decide +kernel) (fun c_493 => absurd c_493 (by decide +kernel)) (fun c_493 => ?_)
    refine lv_iload_n hx hb dX11_house_10 rfl (lv_at hl 2 rfl) ?_
    refine lv_iconst (v := 0) hx hb dX11_house_11 (by decide +kernel) ?_
    refine lv_iconst (v := 3) hx hb dX11_house_12 (by decide +kernel) ?_
    refine pci (va_runS (As := [.int x1, .int 0, .int 3]) (rest := []) ⟨hx, hb, hml, hown, hts⟩ (w_within l D K x1.toInt 0 3 x1 0 3 s.heap.size rfl (show (0 : Int32).toInt = 0 from rfl) (show (3 : Int32).toInt = 3 from rfl)) (va_cwS 3 hts gX11_house_X11_within rfl rfl rfl (by decide +kernel) ⟨Nat.le_of_ble_eq_true rfl, Nat.le_of_ble_eq_true rfl⟩) (mkS hK hN (va_P.nil) (va_D.nil (A := fun _ => True))) rfl rfl hl.1 rfl (lv_room (Nat.le_of_ble_eq_true rfl)) dX11_house_13 ⟨Nat.le_of_ble_eq_true rfl, Nat.le_of_ble_eq_true rfl⟩) (fun r_494 hw => ?_)
    obtain ⟨hw, k_495, -⟩ := hw
    replace hE := hE.trans (Lt_in k_495)
    rcases hw with ⟨rfl, h_496, h_497⟩ | ⟨rfl, h_498⟩
    · replace hE := (hE).trans (if_pos rfl)
      refine lv_if_eq (tgt := 23) hx hb dX11_house_16 (by decide +kernel) (fun c_499 => absurd c_499 (by decide +kernel)) (fun c_499 => ?_)
      refine lv_iconst (v := 1) hx hb dX11_house_19 (by decide +kernel) ?_
      refine lv_goto (tgt := 24) hx hb dX11_house_20 (by decide +kernel) ?_
      refine lv_istore (lv' := [(6, .int 1), (0, .ref o0), (1, .int x0), (2, .int x1), (3, .int x2), (4, .int x3), (5, .int x4)]) hx hb dX11_house_24 hl (by decide +kernel) rfl (fun ls hl => ?_)
      refine lv_iload hx hb dX11_house_26 (lv_at hl 5 rfl) ?_
      refine lv_iconst (v := 0) hx hb dX11_house_28 (by decide +kernel) ?_
      refine lv_bipush (v := 7) hx hb dX11_house_29 (by decide +kernel) ?_
      refine pci (va_runS (As := [.int x3, .int 0, .int 7]) (rest := []) ⟨hx, hb, hml, hown, hts⟩ (w_within l D K x3.toInt 0 7 x3 0 7 s.heap.size rfl (show (0 : Int32).toInt = 0 from rfl) (show (7 : Int32).toInt = 7 from rfl)) (va_cwS 3 hts gX11_house_X11_within rfl rfl rfl (by decide +kernel) ⟨Nat.le_of_ble_eq_true rfl, Nat.le_of_ble_eq_true rfl⟩) (mkS hK hN (va_P.nil) (va_D.nil (A := fun _ => True))) rfl rfl hl.1 rfl (lv_room (Nat.le_of_ble_eq_true rfl)) dX11_house_31 ⟨Nat.le_of_ble_eq_true rfl, Nat.le_of_ble_eq_true rfl⟩) (fun r_500 hw => ?_)
      obtain ⟨hw, k_501, -⟩ := hw
      replace hE := hE.trans (Lt_in k_501)
      rcases hw with ⟨rfl, h_502, h_503⟩ | ⟨rfl, h_504⟩
      · replace hE := (hE).trans (if_pos rfl)
        refine lv_if_eq (tgt := 52) hx hb dX11_house_34 (by decide +kernel) (fun c_505 => absurd c_505 (by decide +kernel)) (fun c_505 => ?_)
        refine lv_iload hx hb dX11_house_37 (lv_at hl 6 rfl) ?_
        refine lv_iconst (v := 0) hx hb dX11_house_39 (by decide +kernel) ?_
        refine lv_bipush (v := 7) hx hb dX11_house_40 (by decide +kernel) ?_
        refine pci (va_runS (As := [.int x4, .int 0, .int 7]) (rest := []) ⟨hx, hb, hml, hown, hts⟩ (w_within l D K x4.toInt 0 7 x4 0 7 s.heap.size rfl (show (0 : Int32).toInt = 0 from rfl) (show (7 : Int32).toInt = 7 from rfl)) (va_cwS 3 hts gX11_house_X11_within rfl rfl rfl (by decide +kernel) ⟨Nat.le_of_ble_eq_true rfl, Nat.le_of_ble_eq_true rfl⟩) (mkS hK hN (va_P.nil) (va_D.nil (A := fun _ => True))) rfl rfl hl.1 rfl (lv_room (Nat.le_of_ble_eq_true rfl)) dX11_house_42 ⟨Nat.le_of_ble_eq_true rfl, Nat.le_of_ble_eq_true rfl⟩) (fun r_506 hw => ?_)
        obtain ⟨hw, k_507, -⟩ := hw
        replace hE := hE.trans (Lt_in k_507)
        rcases hw with ⟨rfl, h_508, h_509⟩ | ⟨rfl, h_510⟩
        · replace hE := (hE).trans (if_pos rfl)
          refine lv_if_eq (tgt := 52) hx hb dX11_house_45 (by decide +kernel) (fun c_511 => absurd c_511 (by decide +kernel)) (fun c_511 => ?_)
          refine lv_iconst (v := 1) hx hb dX11_house_48 (by decide +kernel) ?_
          refine lv_goto (tgt := 53) hx hb dX11_house_49 (by decide +kernel) ?_
          refine lv_istore (lv' := [(7, .int 1), (6, .int 1), (0, .ref o0), (1, .int x0), (2, .int x1), (3, .int x2), (4, .int x3), (5, .int x4)]) hx hb dX11_house_53 hl (by decide +kernel) rfl (fun ls hl => ?_)
          refine lv_iload hx hb dX11_house_55 (lv_at hl 1 rfl) ?_
          refine lv_if_eq (tgt := 76) hx hb dX11_house_57 (by decide +kernel) (fun c_512 => absurd c_512 (by decide +kernel)) (fun c_512 => ?_)
          refine lv_iload hx hb dX11_house_60 (lv_at hl 0 rfl) ?_
          refine lv_if_eq (tgt := 76) hx hb dX11_house_62 (by decide +kernel) (fun c_513 => absurd c_513 (by decide +kernel)) (fun c_513 => ?_)
          refine lv_iload_n hx hb dX11_house_65 rfl (lv_at hl 5 rfl) ?_
          refine lv_iconst (v := 0) hx hb dX11_house_66 (by decide +kernel) ?_
          refine lv_sipush (v := 999) hx hb dX11_house_67 (by decide +kernel) ?_
          refine pci (va_runS (As := [.int x2, .int 0, .int 999]) (rest := []) ⟨hx, hb, hml, hown, hts⟩ (w_within l D K x2.toInt 0 999 x2 0 999 s.heap.size rfl (show (0 : Int32).toInt = 0 from rfl) (show (999 : Int32).toInt = 999 from rfl)) (va_cwS 3 hts gX11_house_X11_within rfl rfl rfl (by decide +kernel) ⟨Nat.le_of_ble_eq_true rfl, Nat.le_of_ble_eq_true rfl⟩) (mkS hK hN (va_P.nil) (va_D.nil (A := fun _ => True))) rfl rfl hl.1 rfl (lv_room (Nat.le_of_ble_eq_true rfl)) dX11_house_70 ⟨Nat.le_of_ble_eq_true rfl, Nat.le_of_ble_eq_true rfl⟩) (fun r_514 hw => ?_)
          obtain ⟨hw, k_515, -⟩ := hw
          replace hE := hE.trans (Lt_in k_515)
          rcases hw with ⟨rfl, h_516, h_517⟩ | ⟨rfl, h_518⟩
          · replace hE := (hE).trans (if_pos rfl)
            refine lv_if_ne (tgt := 82) hx hb dX11_house_73 (by decide +kernel) (fun c_519 => ?_) (fun c_519 => absurd c_519 (by decide +kernel))
            refine lv_aload_n hx hb dX11_house_82 rfl (lv_at hl 2 rfl) ?_
            refine va_get (ci := 11) (v := .ref t0) (C := RX11) (T := TX11) (N := 17) hx hb hts hw11 hown hK hP 0 rfl rfl 0 (by decide +kernel) (hts _ mm_X11_house_334) (fun _ h9 => h9) rfl dX11_house_83 ?_
            refine lv_iload hx hb dX11_house_86 (lv_at hl 6 rfl) ?_
            refine pci (va_runVN (As := [.int x3]) (rest := []) ⟨hx, hb, hml, hown, hts⟩ (w_dinerOf l D K t0 x3 t1 k_1 k_2 k_3 n k_5 k_6 k_7 k_8 k_9 f s.heap.size (by first | omega | decide)) ⟨va_cnB 1 hts gX11_house_X9_dinerOf_n105 rfl rfl rfl (nst_at hN 15 rfl) (hts _ mm_X11_house_145) (by decide +kernel) ⟨Nat.le_of_ble_eq_true rfl, Nat.le_of_ble_eq_true rfl⟩, (hts _ mm_X11_house_378), (hts _ mm_X11_house_1)⟩ (mkV hK hN (hP.sub [3, 4] rfl) (hD.sub [3, 4] (by decide +kernel) rfl) (ci := 9) (q0 := 0) rfl rfl) rfl rfl hl.1 rfl (lv_room (Nat.le_of_ble_eq_true rfl)) dX11_house_88 ⟨Nat.le_of_ble_eq_true rfl, Nat.le_of_ble_eq_true rfl⟩) (fun r_520 hw => ?_)
            obtain ⟨h_522, k_521, -⟩ := hw
            replace hE := hE.trans (Lt_in k_521)
            refine lv_iconst (v := (-1)) hx hb dX11_house_91 (by decide +kernel) ?_
            refine lv_icmp_eq (tgt := 102) hx hb dX11_house_92 (by decide +kernel) (fun c_523 => ?_) (fun c_523 => ?_)
            · have c_523i := i_eq (x := r_520.toInt) (y := (-1)) rfl rfl c_523
              replace hE := hE.trans (if_pos c_523)
              refine lv_aload_n hx hb dX11_house_102 rfl (lv_at hl 2 rfl) ?_
              refine va_get (ci := 11) (v := .ref t0) (C := RX11) (T := TX11) (N := 17) hx hb hts hw11 hown hK hP 0 rfl rfl 0 (by decide +kernel) (hts _ mm_X11_house_334) (fun _ h9 => h9) rfl dX11_house_103 ?_
              refine va_getN (ci := 9) (v := .int n) (C := RX9) (T := TX9) (N := 10) hx hb hts hw9 hown hK hP 3 rfl rfl 4 (by decide +kernel) (nst_use hN 107 rfl) (fun _ h9 => h9) rfl dX11_house_106 ?_
              refine lv_bipush (v := 8) hx hb dX11_house_109 (by decide +kernel) ?_
              refine lv_icmp_lt (tgt := 121) hx hb dX11_house_111 (by decide +kernel) (fun c_524 => ?_) (fun c_524 => ?_)
              · have c_524i := i_lt (x := n.toInt) (y := 8) rfl rfl c_524
                replace hE := hE.trans (if_pos c_524)
                refine lv_aload_n hx hb dX11_house_121 rfl (lv_at hl 2 rfl) ?_
                refine va_get (ci := 11) (v := .ref h0) (C := RX11) (T := TX11) (N := 17) hx hb hts hw11 hown hK hP 0 rfl rfl 9 (by decide +kernel) (hts _ mm_X11_house_343) (fun _ h9 => h9) rfl dX11_house_122 ?_
                refine kcv (S := Su) (wr := [(o0, .inr (11, [.ref t0, o_1, o_2, o_3, o_4, o_5, o_6, o_7, o_8, .ref h0, o_10, o_11, .ref rf, .int rb, o_14, o_15, o_16])), (rf, .inl (K 0, 5, .inl frf)), (t0, .inr (9, [.ref t1, k_1, k_2, k_3, .int n, k_5, k_6, k_7, k_8, k_9])), (t1, .inl (K 0, 56, .inl f))]) (va_runVN (As := []) (rest := []) ⟨hx, hb, hml, hown, hts⟩ (w_clear l D K h0 h1 dr kp s.heap.size) ⟨va_cnB 0 hts gX11_house_X2_clear_n111 rfl rfl rfl (nst_at hN 16 rfl) (hts _ mm_X11_house_153) (by decide +kernel) ⟨Nat.le_of_ble_eq_true rfl, Nat.le_of_ble_eq_true rfl⟩, (hts _ mm_X11_house_383), (hts _ mm_X11_house_3)⟩ (mkV hK hN (hP.sub [2] rfl) (hD.sub [2] (by decide +kernel) rfl) (ci := 2) (q0 := 0) rfl rfl) rfl rfl hl.1 rfl (lv_room (Nat.le_of_ble_eq_true rfl)) dX11_house_125 ⟨Nat.le_of_ble_eq_true rfl, Nat.le_of_ble_eq_true rfl⟩) hP hD hS hA [2] [0, 1, 3, 4] rfl rfl (by decide +kernel) (by decide +kernel) (fun u_526 H locs hw hP0 hD0 hS0 => ?_)
                clear hP hD hS
                have hP := hP0
                have hD := hD0
                have hS := hS0
                clear hP0 hD0 hS0
                replace hP : va_P D vwCl [(o0, .inr (11, [.ref t0, o_1, o_2, o_3, o_4, o_5, o_6, o_7, o_8, .ref h0, o_10, o_11, .ref rf, .int rb, o_14, o_15, o_16])), (rf, .inl (K 0, 5, .inl frf)), (t0, .inr (9, [.ref t1, k_1, k_2, k_3, .int n, k_5, k_6, k_7, k_8, k_9])), (t1, .inl (K 0, 56, .inl f)), (h0, .inr (2, [.ref h1, .int dr, .int 0]))] H := hP
                replace hD : va_D A [(o0, .inr (11, [.ref t0, o_1, o_2, o_3, o_4, o_5, o_6, o_7, o_8, .ref h0, o_10, o_11, .ref rf, .int rb, o_14, o_15, o_16])), (rf, .inl (K 0, 5, .inl frf)), (t0, .inr (9, [.ref t1, k_1, k_2, k_3, .int n, k_5, k_6, k_7, k_8, k_9])), (t1, .inl (K 0, 56, .inl f)), (h0, .inr (2, [.ref h1, .int dr, .int 0]))] := hD
                obtain ⟨k_527, -⟩ := hw
                refine lv_aload_n hx hb dX11_house_128 rfl (lv_at hl 2 rfl) ?_
                refine lv_aload_n hx hb dX11_house_129 rfl (lv_at hl 2 rfl) ?_
                refine va_get (ci := 11) (v := .ref t0) (C := RX11) (T := TX11) (N := 17) hx hb hts hw11 hown hK hP 0 rfl rfl 0 (by decide +kernel) (hts _ mm_X11_house_334) (fun _ h9 => h9) rfl dX11_house_130 ?_
                refine lv_iload_n hx hb dX11_house_133 rfl (lv_at hl 3 rfl) ?_
                refine lv_iload_n hx hb dX11_house_134 rfl (lv_at hl 4 rfl) ?_
                refine lv_iload_n hx hb dX11_house_135 rfl (lv_at hl 5 rfl) ?_
                refine lv_iload hx hb dX11_house_136 (lv_at hl 6 rfl) ?_
                refine lv_iload hx hb dX11_house_138 (lv_at hl 7 rfl) ?_
                refine kci (S := Su) (wr := [(o0, .inr (11, [.ref t0, o_1, o_2, o_3, o_4, o_5, o_6, o_7, o_8, .ref h0, o_10, o_11, .ref rf, .int rb, o_14, o_15, o_16])), (rf, .inl (K 0, 5, .inl frf)), (h0, .inr (2, [.ref h1, .int dr, .int 0]))]) (va_runVN (As := [.int x0, .int x1, .int x2, .int x3, .int x4]) (rest := [.ref o0]) ⟨hx, hb, hml, hown, hts⟩ (w_build l D K t0 x0 x1 x2 x3 x4 t1 k_1 k_2 k_3 n k_5 k_6 k_7 k_8 k_9 f H.size (by first | omega | decide)) ⟨va_cnB 5 hts gX11_house_X9_build_n114 rfl rfl rfl (nst_at hN 17 rfl) (hts _ mm_X11_house_145) (by decide +kernel) ⟨Nat.le_of_ble_eq_true rfl, Nat.le_of_ble_eq_true rfl⟩, (hts _ mm_X11_house_385), (hts _ mm_X11_house_4)⟩ (mkV hK hN (hP.sub [2, 3] rfl) (hD.sub [2, 3] (by decide +kernel) rfl) (ci := 9) (q0 := 0) rfl rfl) rfl rfl hl.1 rfl (lv_room (Nat.le_of_ble_eq_true rfl)) dX11_house_140 ⟨Nat.le_of_ble_eq_true rfl, Nat.le_of_ble_eq_true rfl⟩) hP hD hS hA [2, 3] [0, 1, 4] rfl rfl (by decide +kernel) (by decide +kernel) (fun r_528 u_529 H locs hw hP0 hD0 hS0 => ?_)
                clear hP hD hS
                have hP := hP0
                have hD := hD0
                have hS := hS0
                clear hP0 hD0 hS0
                replace hP : va_P D vwCl [(o0, .inr (11, [.ref t0, o_1, o_2, o_3, o_4, o_5, o_6, o_7, o_8, .ref h0, o_10, o_11, .ref rf, .int rb, o_14, o_15, o_16])), (rf, .inl (K 0, 5, .inl frf)), (h0, .inr (2, [.ref h1, .int dr, .int 0])), (t0, .inr (9, [.ref t1, k_1, k_2, k_3, .int (u_529.2.2.2.1 0), k_5, k_6, k_7, k_8, k_9])), (t1, .inl (K 0, 56, .inl (u_529.2.1 0)))] H := hP
                replace hD : va_D A [(o0, .inr (11, [.ref t0, o_1, o_2, o_3, o_4, o_5, o_6, o_7, o_8, .ref h0, o_10, o_11, .ref rf, .int rb, o_14, o_15, o_16])), (rf, .inl (K 0, 5, .inl frf)), (h0, .inr (2, [.ref h1, .int dr, .int 0])), (t0, .inr (9, [.ref t1, k_1, k_2, k_3, .int (u_529.2.2.2.1 0), k_5, k_6, k_7, k_8, k_9])), (t1, .inl (K 0, 56, .inl (u_529.2.1 0)))] := hD
                obtain ⟨h_532, k_530, k_531, -⟩ := hw
                replace hE := (hE.trans (Lt2_in k_531)).trans (Lt2_in rfl)
                refine kci (S := Su) (wr := [(rf, .inl (K 0, 5, .inl frf)), (h0, .inr (2, [.ref h1, .int dr, .int 0])), (t0, .inr (9, [.ref t1, k_1, k_2, k_3, .int (u_529.2.2.2.1 0), k_5, k_6, k_7, k_8, k_9])), (t1, .inl (K 0, 56, .inl (u_529.2.1 0)))]) (va_runV (As := [.int r_528]) (rest := []) ⟨hx, hb, hml, hown, hts⟩ (w_accept l D K o0 r_528 (.ref t0) o_1 o_2 o_3 o_4 o_5 o_6 o_7 o_8 (.ref h0) o_10 o_11 (.ref rf) rb o_14 o_15 o_16 H.size) (cwV 1 hts gX11_house_X11_accept rfl rfl rfl (by decide +kernel) ⟨Nat.le_of_ble_eq_true rfl, Nat.le_of_ble_eq_true rfl⟩) (mkV hK hN (hP.sub [0] rfl) (hD.sub [0] (by decide +kernel) rfl) (ci := 11) (q0 := 0) rfl rfl) rfl rfl hl.1 rfl (lv_room (Nat.le_of_ble_eq_true rfl)) dX11_house_143 ⟨Nat.le_of_ble_eq_true rfl, Nat.le_of_ble_eq_true rfl⟩) hP hD hS hA [0] [1, 2, 3, 4] rfl rfl (by decide +kernel) (by decide +kernel) (fun r_533 u_534 H locs hw hP0 hD0 hS0 => ?_)
                clear hP hD hS
                have hP := hP0
                have hD := hD0
                have hS := hS0
                clear hP0 hD0 hS0
                replace hP : va_P D vwCl [(rf, .inl (K 0, 5, .inl frf)), (h0, .inr (2, [.ref h1, .int dr, .int 0])), (t0, .inr (9, [.ref t1, k_1, k_2, k_3, .int (u_529.2.2.2.1 0), k_5, k_6, k_7, k_8, k_9])), (t1, .inl (K 0, 56, .inl (u_529.2.1 0))), (o0, .inr (11, [.ref t0, o_1, o_2, o_3, o_4, o_5, o_6, o_7, o_8, .ref h0, o_10, o_11, .ref rf, .int 0, o_14, o_15, o_16]))] H := hP
                replace hD : va_D A [(rf, .inl (K 0, 5, .inl frf)), (h0, .inr (2, [.ref h1, .int dr, .int 0])), (t0, .inr (9, [.ref t1, k_1, k_2, k_3, .int (u_529.2.2.2.1 0), k_5, k_6, k_7, k_8, k_9])), (t1, .inl (K 0, 56, .inl (u_529.2.1 0))), (o0, .inr (11, [.ref t0, o_1, o_2, o_3, o_4, o_5, o_6, o_7, o_8, .ref h0, o_10, o_11, .ref rf, .int 0, o_14, o_15, o_16]))] := hD
                obtain ⟨hw, k_535, -⟩ := hw
                replace hE := hE.trans (Lt_in k_535)
                have er_r_533 := hw
                have hr_r_533 : r_533.toInt = r_528.toInt := (congrArg Int32.toInt er_r_533).trans rfl
                rw [← hQ]
                have hP9 := hP.sub (ws' := [(o0, .inr (11, [.ref t0, o_1, o_2, o_3, o_4, o_5, o_6, o_7, o_8, .ref h0, o_10, o_11, .ref rf, .int 0, o_14, o_15, o_16])), (rf, .inl (K 0, 5, .inl frf)), (h0, .inr (2, [.ref h1, .int dr, .int 0])), (t0, .inr (9, [.ref t1, k_1, k_2, k_3, .int (u_529.2.2.2.1 0), k_5, k_6, k_7, k_8, k_9])), (t1, .inl (K 0, 56, .inl (u_529.2.1 0)))]) [4, 0, 1, 2, 3] rfl
                have hD9 := hD.sub (ws' := [(o0, .inr (11, [.ref t0, o_1, o_2, o_3, o_4, o_5, o_6, o_7, o_8, .ref h0, o_10, o_11, .ref rf, .int 0, o_14, o_15, o_16])), (rf, .inl (K 0, 5, .inl frf)), (h0, .inr (2, [.ref h1, .int dr, .int 0])), (t0, .inr (9, [.ref t1, k_1, k_2, k_3, .int (u_529.2.2.2.1 0), k_5, k_6, k_7, k_8, k_9])), (t1, .inl (K 0, 56, .inl (u_529.2.1 0)))]) [4, 0, 1, 2, 3] (by decide +kernel) rfl
                exact W.iret (v := r_533) hx hb hr (fun t ht hW => ⟨⟨r_533, ((fun _ => 0, fun i => match i with | 0 => frf | _ => (u_529.2.1 0), fun _ => fun _ => 0, fun i => match i with | 0 => 0 | 1 => 0 | _ => (u_529.2.2.2.1 0), fun _ => 0, fun _ => fun _ => none) : Su), rfl, ⟨(show (-5) ≤ (0 : Int32).toInt ∧ (0 : Int32).toInt ≤ 0 by decide), (show 0 ≤ (0 : Int32).toInt ∧ (0 : Int32).toInt ≤ 16 by decide), (show 0 ≤ ((u_529.2.2.2.1 0) : Int32).toInt ∧ ((u_529.2.2.2.1 0) : Int32).toInt ≤ 8 by omega), hE.symm, trivial⟩, (⟨by rw [ht]; exact hP9, hD9⟩ : Wd D A _ t)⟩, hS.F ht⟩) hS.2.2 dX11_house_146
              · have c_524i := i_nlt (x := n.toInt) (y := 8) rfl rfl c_524
                replace hE := hE.trans (if_neg c_524)
                refine lv_aload_n hx hb dX11_house_114 rfl (lv_at hl 2 rfl) ?_
                refine lv_bipush (v := (-5)) hx hb dX11_house_115 (by decide +kernel) ?_
                refine kci (S := Su) (wr := [(h0, .inr (2, [.ref h1, .int dr, .int kp])), (t0, .inr (9, [.ref t1, k_1, k_2, k_3, .int n, k_5, k_6, k_7, k_8, k_9])), (t1, .inl (K 0, 56, .inl f))]) (va_runV (As := [.int (-5)]) (rest := []) ⟨hx, hb, hml, hown, hts⟩ (w_refuse l D K o0 (-5) (.ref t0) o_1 o_2 o_3 o_4 o_5 o_6 o_7 o_8 (.ref h0) o_10 o_11 rf rb o_14 o_15 o_16 frf s.heap.size) (cwV 1 hts gX11_house_X11_refuse rfl rfl rfl (by decide +kernel) ⟨Nat.le_of_ble_eq_true rfl, Nat.le_of_ble_eq_true rfl⟩) (mkV hK hN (hP.sub [0, 1] rfl) (hD.sub [0, 1] (by decide +kernel) rfl) (ci := 11) (q0 := 0) rfl rfl) rfl rfl hl.1 rfl (lv_room (Nat.le_of_ble_eq_true rfl)) dX11_house_117 ⟨Nat.le_of_ble_eq_true rfl, Nat.le_of_ble_eq_true rfl⟩) hP hD hS hA [0, 1] [2, 3, 4] rfl rfl (by decide +kernel) (by decide +kernel) (fun r_536 u_537 H locs hw hP0 hD0 hS0 => ?_)
                clear hP hD hS
                have hP := hP0
                have hD := hD0
                have hS := hS0
                clear hP0 hD0 hS0
                replace hP : va_P D vwCl [(h0, .inr (2, [.ref h1, .int dr, .int kp])), (t0, .inr (9, [.ref t1, k_1, k_2, k_3, .int n, k_5, k_6, k_7, k_8, k_9])), (t1, .inl (K 0, 56, .inl f)), (o0, .inr (11, [.ref t0, o_1, o_2, o_3, o_4, o_5, o_6, o_7, o_8, .ref h0, o_10, o_11, .ref rf, .int (-5), o_14, o_15, o_16])), (rf, .inl (K 0, 5, .inl (u_537.2.1 0)))] H := hP
                replace hD : va_D A [(h0, .inr (2, [.ref h1, .int dr, .int kp])), (t0, .inr (9, [.ref t1, k_1, k_2, k_3, .int n, k_5, k_6, k_7, k_8, k_9])), (t1, .inl (K 0, 56, .inl f)), (o0, .inr (11, [.ref t0, o_1, o_2, o_3, o_4, o_5, o_6, o_7, o_8, .ref h0, o_10, o_11, .ref rf, .int (-5), o_14, o_15, o_16])), (rf, .inl (K 0, 5, .inl (u_537.2.1 0)))] := hD
                obtain ⟨k_538, -⟩ := hw
                replace hE := hE.trans (Lt2_in k_538)
                rw [← hQ]
                have hP9 := hP.sub (ws' := [(o0, .inr (11, [.ref t0, o_1, o_2, o_3, o_4, o_5, o_6, o_7, o_8, .ref h0, o_10, o_11, .ref rf, .int (-5), o_14, o_15, o_16])), (rf, .inl (K 0, 5, .inl (u_537.2.1 0))), (h0, .inr (2, [.ref h1, .int dr, .int kp])), (t0, .inr (9, [.ref t1, k_1, k_2, k_3, .int n, k_5, k_6, k_7, k_8, k_9])), (t1, .inl (K 0, 56, .inl f))]) [3, 4, 0, 1, 2] rfl
                have hD9 := hD.sub (ws' := [(o0, .inr (11, [.ref t0, o_1, o_2, o_3, o_4, o_5, o_6, o_7, o_8, .ref h0, o_10, o_11, .ref rf, .int (-5), o_14, o_15, o_16])), (rf, .inl (K 0, 5, .inl (u_537.2.1 0))), (h0, .inr (2, [.ref h1, .int dr, .int kp])), (t0, .inr (9, [.ref t1, k_1, k_2, k_3, .int n, k_5, k_6, k_7, k_8, k_9])), (t1, .inl (K 0, 56, .inl f))]) [3, 4, 0, 1, 2] (by decide +kernel) rfl
                exact W.iret (v := r_536) hx hb hr (fun t ht hW => ⟨⟨r_536, ((fun _ => 0, fun i => match i with | 0 => (u_537.2.1 0) | _ => f, fun _ => fun _ => 0, fun i => match i with | 0 => (-5) | 1 => kp | _ => n, fun _ => 0, fun _ => fun _ => none) : Su), rfl, ⟨(show (-5) ≤ ((-5) : Int32).toInt ∧ ((-5) : Int32).toInt ≤ 0 by decide), (show 0 ≤ (kp : Int32).toInt ∧ (kp : Int32).toInt ≤ 16 by omega), (show 0 ≤ (n : Int32).toInt ∧ (n : Int32).toInt ≤ 8 by omega), hE.symm, trivial⟩, (⟨by rw [ht]; exact hP9, hD9⟩ : Wd D A _ t)⟩, hS.F ht⟩) hS.2.2 dX11_house_120
            · have c_523i := i_ne (x := r_520.toInt) (y := (-1)) rfl rfl c_523
              replace hE := hE.trans (if_neg c_523)
              refine lv_aload_n hx hb dX11_house_95 rfl (lv_at hl 2 rfl) ?_
              refine lv_bipush (v := (-3)) hx hb dX11_house_96 (by decide +kernel) ?_
              refine kci (S := Su) (wr := [(h0, .inr (2, [.ref h1, .int dr, .int kp])), (t0, .inr (9, [.ref t1, k_1, k_2, k_3, .int n, k_5, k_6, k_7, k_8, k_9])), (t1, .inl (K 0, 56, .inl f))]) (va_runV (As := [.int (-3)]) (rest := []) ⟨hx, hb, hml, hown, hts⟩ (w_refuse l D K o0 (-3) (.ref t0) o_1 o_2 o_3 o_4 o_5 o_6 o_7 o_8 (.ref h0) o_10 o_11 rf rb o_14 o_15 o_16 frf s.heap.size) (cwV 1 hts gX11_house_X11_refuse rfl rfl rfl (by decide +kernel) ⟨Nat.le_of_ble_eq_true rfl, Nat.le_of_ble_eq_true rfl⟩) (mkV hK hN (hP.sub [0, 1] rfl) (hD.sub [0, 1] (by decide +kernel) rfl) (ci := 11) (q0 := 0) rfl rfl) rfl rfl hl.1 rfl (lv_room (Nat.le_of_ble_eq_true rfl)) dX11_house_98 ⟨Nat.le_of_ble_eq_true rfl, Nat.le_of_ble_eq_true rfl⟩) hP hD hS hA [0, 1] [2, 3, 4] rfl rfl (by decide +kernel) (by decide +kernel) (fun r_539 u_540 H locs hw hP0 hD0 hS0 => ?_)
              clear hP hD hS
              have hP := hP0
              have hD := hD0
              have hS := hS0
              clear hP0 hD0 hS0
              replace hP : va_P D vwCl [(h0, .inr (2, [.ref h1, .int dr, .int kp])), (t0, .inr (9, [.ref t1, k_1, k_2, k_3, .int n, k_5, k_6, k_7, k_8, k_9])), (t1, .inl (K 0, 56, .inl f)), (o0, .inr (11, [.ref t0, o_1, o_2, o_3, o_4, o_5, o_6, o_7, o_8, .ref h0, o_10, o_11, .ref rf, .int (-3), o_14, o_15, o_16])), (rf, .inl (K 0, 5, .inl (u_540.2.1 0)))] H := hP
              replace hD : va_D A [(h0, .inr (2, [.ref h1, .int dr, .int kp])), (t0, .inr (9, [.ref t1, k_1, k_2, k_3, .int n, k_5, k_6, k_7, k_8, k_9])), (t1, .inl (K 0, 56, .inl f)), (o0, .inr (11, [.ref t0, o_1, o_2, o_3, o_4, o_5, o_6, o_7, o_8, .ref h0, o_10, o_11, .ref rf, .int (-3), o_14, o_15, o_16])), (rf, .inl (K 0, 5, .inl (u_540.2.1 0)))] := hD
              obtain ⟨k_541, -⟩ := hw
              replace hE := hE.trans (Lt2_in k_541)
              rw [← hQ]
              have hP9 := hP.sub (ws' := [(o0, .inr (11, [.ref t0, o_1, o_2, o_3, o_4, o_5, o_6, o_7, o_8, .ref h0, o_10, o_11, .ref rf, .int (-3), o_14, o_15, o_16])), (rf, .inl (K 0, 5, .inl (u_540.2.1 0))), (h0, .inr (2, [.ref h1, .int dr, .int kp])), (t0, .inr (9, [.ref t1, k_1, k_2, k_3, .int n, k_5, k_6, k_7, k_8, k_9])), (t1, .inl (K 0, 56, .inl f))]) [3, 4, 0, 1, 2] rfl
              have hD9 := hD.sub (ws' := [(o0, .inr (11, [.ref t0, o_1, o_2, o_3, o_4, o_5, o_6, o_7, o_8, .ref h0, o_10, o_11, .ref rf, .int (-3), o_14, o_15, o_16])), (rf, .inl (K 0, 5, .inl (u_540.2.1 0))), (h0, .inr (2, [.ref h1, .int dr, .int kp])), (t0, .inr (9, [.ref t1, k_1, k_2, k_3, .int n, k_5, k_6, k_7, k_8, k_9])), (t1, .inl (K 0, 56, .inl f))]) [3, 4, 0, 1, 2] (by decide +kernel) rfl
              exact W.iret (v := r_539) hx hb hr (fun t ht hW => ⟨⟨r_539, ((fun _ => 0, fun i => match i with | 0 => (u_540.2.1 0) | _ => f, fun _ => fun _ => 0, fun i => match i with | 0 => (-3) | 1 => kp | _ => n, fun _ => 0, fun _ => fun _ => none) : Su), rfl, ⟨(show (-5) ≤ ((-3) : Int32).toInt ∧ ((-3) : Int32).toInt ≤ 0 by decide), (show 0 ≤ (kp : Int32).toInt ∧ (kp : Int32).toInt ≤ 16 by omega), (show 0 ≤ (n : Int32).toInt ∧ (n : Int32).toInt ≤ 8 by omega), hE.symm, trivial⟩, (⟨by rw [ht]; exact hP9, hD9⟩ : Wd D A _ t)⟩, hS.F ht⟩) hS.2.2 dX11_house_101
          · replace hE := (hE).trans (if_neg (by first | decide | (intro h9; have h8 := congrArg Int32.toInt h9; omega)))
            refine lv_if_ne (tgt := 82) hx hb dX11_house_73 (by decide +kernel) (fun c_542 => absurd (by decide +kernel) c_542) (fun c_542 => ?_)
            exact j_465   hE _ _ hP hD hS ls (lv_sub hl [2] rfl)
        · replace hE := (hE).trans (if_neg (by first | decide | (intro h9; have h8 := congrArg Int32.toInt h9; omega)))
          refine lv_if_eq (tgt := 52) hx hb dX11_house_45 (by decide +kernel) (fun c_543 => ?_) (fun c_543 => absurd (by decide +kernel) c_543)
          exact j_469 1 (by decide +kernel) hE _ _ hP hD hS ls (lv_sub hl [0, 1, 2, 3, 4, 5, 6] rfl)
      · replace hE := (hE).trans (if_neg (by first | decide | (intro h9; have h8 := congrArg Int32.toInt h9; omega)))
        refine lv_if_eq (tgt := 52) hx hb dX11_house_34 (by decide +kernel) (fun c_544 => ?_) (fun c_544 => absurd (by decide +kernel) c_544)
        exact j_469 1 (by decide +kernel) hE _ _ hP hD hS ls (lv_sub hl [0, 1, 2, 3, 4, 5, 6] rfl)
    · replace hE := (hE).trans (if_neg (by first | decide | (intro h9; have h8 := congrArg Int32.toInt h9; omega)))
      refine lv_if_eq (tgt := 23) hx hb dX11_house_16 (by decide +kernel) (fun c_545 => ?_) (fun c_545 => absurd (by decide +kernel) c_545)
      exact j_472   hE _ _ hP hD hS ls (lv_sub hl [0, 1, 2, 3, 4, 5] rfl)
  · replace hE := (hE).trans (if_neg (by first | decide | (intro h9; have h8 := congrArg Int32.toInt h9; omega)))
    refine lv_if_eq (tgt := 23) hx hb dX11_house_7 (by decide +kernel) (fun c_546 => ?_) (fun c_546 => absurd (by decide +kernel) c_546)
    exact j_472   hE _ _ hP hD hS ls (lv_sub hl [0, 1, 2, 3, 4, 5] rfl)
set_option maxRecDepth 100000 in
noncomputable def E_w_of (G : Nat → LC) (x : Int32) (y : Int32) (br : Int32) (fs : Nat → Int32) (fw : Nat → Int32) (n : Int32) (lt : Int32) (nf : Int32) (fi : Int32) (f1 : Nat → Int32) (f2 : Nat → Int32) (f3 : Nat → Int32) (fl : Nat → Option Nat) : Int32 × Int32 × (Nat → Int32) × (Nat → Int32) :=
  Lt (E_w_has x n) (fun r_193 => if r_193 = 1 then (Lt (E_w_within y 0 6) (fun r_199 => if r_199 = 1 then (Lt (E_w_fact x y f1) (fun r_205 => ((r_205, br, fs, fw) : Int32 × Int32 × (Nat → Int32) × (Nat → Int32)))) else (if y = 7 then (Lt (E_w_sings x f1 f2) (fun r_254 => if r_254 = 0 then (((0, br, fs, fw) : Int32 × Int32 × (Nat → Int32) × (Nat → Int32))) else (((1, br, fs, fw) : Int32 × Int32 × (Nat → Int32) × (Nat → Int32))))) else (Lt (E_w_fact x 5 f1) (fun r_209 => Lt (E_w_face x r_209 0 fw f1 f2) (fun u_212_2_1_0 => if (y : Int32).toInt = 8 then (Lt (E_w_lawInForce lt nf fl) (fun r_215 => Oc r_215 (Lt (E_w_told_n 0 br fs u_212_2_1_0) (fun r_219 => ((r_219, br, fs, u_212_2_1_0) : Int32 × Int32 × (Nat → Int32) × (Nat → Int32)))) (fun q_218 => Lt2 (E_w_told (G q_218).1 (G q_218).2.1 (G q_218).2.2.1 (G q_218).2.2.2.1 (G q_218).2.2.2.2.1 0 br fs u_212_2_1_0) (fun r_223 q0_r_223 => Lt2 q0_r_223 (fun u_224_2_2_2_1_0 u_224_2_1_0 => ((r_223, u_224_2_2_2_1_0, u_224_2_1_0, u_212_2_1_0) : Int32 × Int32 × (Nat → Int32) × (Nat → Int32))))))) else (if (y : Int32).toInt = 9 then (Lt (E_w_lawInForce lt nf fl) (fun r_228 => Oc r_228 (Lt (E_w_told_n 1 br fs u_212_2_1_0) (fun r_232 => ((r_232, br, fs, u_212_2_1_0) : Int32 × Int32 × (Nat → Int32) × (Nat → Int32)))) (fun q_231 => Lt2 (E_w_told (G q_231).1 (G q_231).2.1 (G q_231).2.2.1 (G q_231).2.2.2.1 (G q_231).2.2.2.2.1 1 br fs u_212_2_1_0) (fun r_236 q0_r_236 => Lt2 q0_r_236 (fun u_237_2_2_2_1_0 u_237_2_1_0 => ((r_236, u_237_2_2_2_1_0, u_237_2_1_0, u_212_2_1_0) : Int32 × Int32 × (Nat → Int32) × (Nat → Int32))))))) else (if (y : Int32).toInt = 10 then (Lt (E_w_lawInForce lt nf fl) (fun r_241 => Oc r_241 (Lt (E_w_told_n 3 br fs u_212_2_1_0) (fun r_245 => ((r_245, br, fs, u_212_2_1_0) : Int32 × Int32 × (Nat → Int32) × (Nat → Int32)))) (fun q_244 => Lt2 (E_w_told (G q_244).1 (G q_244).2.1 (G q_244).2.2.1 (G q_244).2.2.2.1 (G q_244).2.2.2.2.1 3 br fs u_212_2_1_0) (fun r_249 q0_r_249 => Lt2 q0_r_249 (fun u_250_2_2_2_1_0 u_250_2_1_0 => ((r_249, u_250_2_2_2_1_0, u_250_2_1_0, u_212_2_1_0) : Int32 × Int32 × (Nat → Int32) × (Nat → Int32))))))) else ((((-1), br, fs, u_212_2_1_0) : Int32 × Int32 × (Nat → Int32) × (Nat → Int32))))))))))) else ((((-1), br, fs, fw) : Int32 × Int32 × (Nat → Int32) × (Nat → Int32))))
set_option maxHeartbeats 4000000 in
set_option maxRecDepth 100000 in
theorem w_of (l : Launch) (D : va_G) (K : Nat → ClassId) (g : Nat → Nat) (L : Nat → Prop) (G : Nat → LC) (o0 : Nat) (x : Int32) (y : Int32) (t0 : Nat) (o_1 : Value) (o_2 : Value) (o_3 : Value) (o_4 : Value) (o_5 : Value) (o_6 : Value) (o_7 : Value) (a0 : Nat) (o_9 : Value) (o_10 : Value) (o_11 : Value) (o_12 : Value) (o_13 : Value) (o_14 : Value) (o_15 : Value) (o_16 : Value) (m0 : Nat) (w0 : Nat) (m1 : Nat) (br : Int32) (fs : Nat → Int32) (fw : Nat → Int32) (t1 : Nat) (t3 : Nat) (t2 : Nat) (l0 : Nat) (n : Int32) (lt : Int32) (nf : Int32) (fi : Int32) (k_8 : Value) (k_9 : Value) (f1 : Nat → Int32) (gt : Nat → Int32) (f2 : Nat → Int32) (f3 : Nat → Int32) (gc : Nat → Int32) (fl : Nat → Option Nat) (sz : Nat) (zn : 0 ≤ n.toInt ∧ n.toInt ≤ 8) (zlt : 0 ≤ lt.toInt ∧ lt.toInt ≤ 6) (zbr : 0 ≤ br.toInt ∧ br.toInt ≤ 1) (zgt : FzC gt f1) (zgc : FzH gc f3) (zfl : InL L fl) : Met l yX11_of wsX11_of ({ frames := 3, cells := 0, slots := 0, locals := 81 }) (va_Pc [.ref o0, .int x, .int y] (PreY D K [(o0, .inr (11, [.ref t0, o_1, o_2, o_3, o_4, o_5, o_6, o_7, .ref a0, o_9, o_10, o_11, o_12, o_13, o_14, o_15, o_16])), (a0, .inr (0, [.ref m0, .ref w0])), (m0, .inr (3, [.ref m1, .int br])), (m1, .inl (K 0, 64, .inl fs)), (w0, .inl (K 0, 9, .inl fw)), (t0, .inr (9, [.ref t1, .ref t3, .ref t2, .ref l0, .int n, .int lt, .int nf, .int fi, k_8, k_9])), (t1, .inl (K 0, 56, .inl f1)), (t2, .inl (K 0, 6, .inl f2)), (t3, .inl (K 0, 24, .inl f3)), (l0, .inl (K 4, 6, .inr (.inr (.inr (.inr fl)))))] [] sz g L G (va_A [(o0, .inr (11, [.ref t0, o_1, o_2, o_3, o_4, o_5, o_6, o_7, .ref a0, o_9, o_10, o_11, o_12, o_13, o_14, o_15, o_16])), (a0, .inr (0, [.ref m0, .ref w0])), (m0, .inr (3, [.ref m1, .int br])), (m1, .inl (K 0, 64, .inl fs)), (w0, .inl (K 0, 9, .inl fw)), (t0, .inr (9, [.ref t1, .ref t3, .ref t2, .ref l0, .int n, .int lt, .int nf, .int fi, k_8, k_9])), (t1, .inl (K 0, 56, .inl f1)), (t2, .inl (K 0, 6, .inl f2)), (t3, .inl (K 0, 24, .inl f3)), (l0, .inl (K 4, 6, .inr (.inr (.inr (.inr fl)))))] sz))) (va_Qi (S := Su) (fun (r : Int32) (u : Su) => (0 ≤ (u.2.2.2.1 0).toInt ∧ (u.2.2.2.1 0).toInt ≤ 1) ∧ ((r, (u.2.2.2.1 0), (u.2.1 0), (u.2.1 1)) = E_w_of G x y br fs fw n lt nf fi f1 f2 f3 fl) ∧ True) (fun u t => Wd D (va_A [(o0, .inr (11, [.ref t0, o_1, o_2, o_3, o_4, o_5, o_6, o_7, .ref a0, o_9, o_10, o_11, o_12, o_13, o_14, o_15, o_16])), (a0, .inr (0, [.ref m0, .ref w0])), (m0, .inr (3, [.ref m1, .int br])), (m1, .inl (K 0, 64, .inl fs)), (w0, .inl (K 0, 9, .inl fw)), (t0, .inr (9, [.ref t1, .ref t3, .ref t2, .ref l0, .int n, .int lt, .int nf, .int fi, k_8, k_9])), (t1, .inl (K 0, 56, .inl f1)), (t2, .inl (K 0, 6, .inl f2)), (t3, .inl (K 0, 24, .inl f3)), (l0, .inl (K 4, 6, .inr (.inr (.inr (.inr fl)))))] sz) ((fun u => [(o0, .inr (11, [.ref t0, o_1, o_2, o_3, o_4, o_5, o_6, o_7, .ref a0, o_9, o_10, o_11, o_12, o_13, o_14, o_15, o_16])), (a0, .inr (0, [.ref m0, .ref w0])), (m0, .inr (3, [.ref m1, .int (u.2.2.2.1 0)])), (m1, .inl (K 0, 64, .inl (u.2.1 0))), (w0, .inl (K 0, 9, .inl (u.2.1 1))), (t0, .inr (9, [.ref t1, .ref t3, .ref t2, .ref l0, .int n, .int lt, .int nf, .int fi, k_8, k_9])), (t1, .inl (K 0, 56, .inl f1)), (t2, .inl (K 0, 6, .inl f2)), (t3, .inl (K 0, 24, .inl f3)), (l0, .inl (K 4, 6, .inr (.inr (.inr (.inr fl)))))]) u) t) (va_A [(o0, .inr (11, [.ref t0, o_1, o_2, o_3, o_4, o_5, o_6, o_7, .ref a0, o_9, o_10, o_11, o_12, o_13, o_14, o_15, o_16])), (a0, .inr (0, [.ref m0, .ref w0])), (m0, .inr (3, [.ref m1, .int br])), (m1, .inl (K 0, 64, .inl fs)), (w0, .inl (K 0, 9, .inl fw)), (t0, .inr (9, [.ref t1, .ref t3, .ref t2, .ref l0, .int n, .int lt, .int nf, .int fi, k_8, k_9])), (t1, .inl (K 0, 56, .inl f1)), (t2, .inl (K 0, 6, .inl f2)), (t3, .inl (K 0, 24, .inl f3)), (l0, .inl (K 4, 6, .inr (.inr (.inr (.inr fl)))))] sz)) 0 0 (va_A [(o0, .inr (11, [.ref t0, o_1, o_2, o_3, o_4, o_5, o_6, o_7, .ref a0, o_9, o_10, o_11, o_12, o_13, o_14, o_15, o_16])), (a0, .inr (0, [.ref m0, .ref w0])), (m0, .inr (3, [.ref m1, .int br])), (m1, .inl (K 0, 64, .inl fs)), (w0, .inl (K 0, 9, .inl fw)), (t0, .inr (9, [.ref t1, .ref t3, .ref t2, .ref l0, .int n, .int lt, .int nf, .int fi, k_8, k_9])), (t1, .inl (K 0, 56, .inl f1)), (t2, .inl (K 0, 6, .inl f2)), (t3, .inl (K 0, 24, .inl f3)), (l0, .inl (K 4, 6, .inr (.inr (.inr (.inr fl)))))] sz) := by
  refine Met.ofW (cc := cX11_of) (maxL := 3) (ret := (some .int)) (by decide +kernel) rfl ?_
  intro p e s m args below meth c s₁ B hml hv
  obtain ⟨rfl, ⟨hsz, hP, hK, hD0, hN⟩, hG, hPl, hRo⟩ := hv
  have hx := B.exec
  have hb := B.bytes
  have hr := B.returns
  have hts := atoms_spec (ws := wsX11_of) B.pre
  have hown : s.vm.findClass RX11 = some m.cls := findClass_of_methodNamed B.named
  have hlocks := B.notSynchronized
  subst hsz
  have hD := hD0.self (sz := s.heap.size)
  generalize hAe : va_A [(o0, .inr (11, [.ref t0, o_1, o_2, o_3, o_4, o_5, o_6, o_7, .ref a0, o_9, o_10, o_11, o_12, o_13, o_14, o_15, o_16])), (a0, .inr (0, [.ref m0, .ref w0])), (m0, .inr (3, [.ref m1, .int br])), (m1, .inl (K 0, 64, .inl fs)), (w0, .inl (K 0, 9, .inl fw)), (t0, .inr (9, [.ref t1, .ref t3, .ref t2, .ref l0, .int n, .int lt, .int nf, .int fi, k_8, k_9])), (t1, .inl (K 0, 56, .inl f1)), (t2, .inl (K 0, 6, .inl f2)), (t3, .inl (K 0, 24, .inl f3)), (l0, .inl (K 4, 6, .inr (.inr (.inr (.inr fl)))))] s.heap.size = A at hD hG hPl hRo ⊢
  have hA : ∀ q : Nat, s.heap.size ≤ q → A q := fun q h => by rw [← hAe]; exact Or.inr h
  clear hAe
  have hS : va_S A s.heap s.heap [] := va_S.rf
  replace hP : va_P D vwCl [(o0, .inr (11, [.ref t0, o_1, o_2, o_3, o_4, o_5, o_6, o_7, .ref a0, o_9, o_10, o_11, o_12, o_13, o_14, o_15, o_16])), (a0, .inr (0, [.ref m0, .ref w0])), (m0, .inr (3, [.ref m1, .int br])), (m1, .inl (K 0, 64, .inl fs)), (w0, .inl (K 0, 9, .inl fw)), (t0, .inr (9, [.ref t1, .ref t3, .ref t2, .ref l0, .int n, .int lt, .int nf, .int fi, k_8, k_9])), (t1, .inl (K 0, 56, .inl f1)), (t2, .inl (K 0, 6, .inl f2)), (t3, .inl (K 0, 24, .inl f3)), (l0, .inl (K 4, 6, .inr (.inr (.inr (.inr fl)))))] s.heap := hP
  have hl := lv_entry [.ref o0, .int x, .int y] (n := 3) (Nat.le_of_ble_eq_true rfl)
  rw [lg_entry_eq]
  generalize (lg_sl [.ref o0, .int x, .int y] ++ List.replicate (3 - (lg_sl [.ref o0, .int x, .int y]).length) Slot.unset).toArray = ls at hl ⊢
  have hl : lv_has ls 3 [(0, .ref o0), (1, .int x), (2, .int y)] := hl
  have hw0 : ∀ w ∈ wsX00, w ∈ wsX11_of := fun w h => (List.mem_cons_of_mem _ (List.mem_append_left _ (List.mem_append_left _ (List.mem_append_right _ h))))
  have hw3 : ∀ w ∈ wsX30, w ∈ wsX11_of := fun w h => (List.mem_cons_of_mem _ (List.mem_append_right _ h))
  have hw7 : ∀ w ∈ wsX70, w ∈ wsX11_of := fun w h => (List.mem_cons_of_mem _ (List.mem_append_left _ (List.mem_append_right _ h)))
  have hw9 : ∀ w ∈ wsX90, w ∈ wsX11_of := fun w h => (List.mem_cons_of_mem _ (List.mem_append_left _ (List.mem_append_left _ (List.mem_append_left _ (List.mem_append_right _ h)))))
  have hw11 : ∀ w ∈ wsX110, w ∈ wsX11_of := fun w h => (List.mem_cons_of_mem _ (List.mem_append_left _ (List.mem_append_left _ (List.mem_append_left _ (List.mem_append_left _ (List.mem_append_right _ h))))))
  generalize hQ : MQ below _ _ s _ _ _ = Q
  have hE := E_w_of.eq_def G x y br fs fw n lt nf fi f1 f2 f3 fl
  refine lv_aload_n hx hb dX11_of_0 rfl (lv_at hl 0 rfl) ?_
  refine va_get (ci := 11) (v := .ref t0) (C := RX11) (T := TX11) (N := 17) hx hb hts hw11 hown hK hP 0 rfl rfl 0 (by decide +kernel) (hts _ mm_X11_of_334) (fun _ h9 => h9) rfl dX11_of_1 ?_
  refine lv_iload_n hx hb dX11_of_4 rfl (lv_at hl 1 rfl) ?_
  refine pci (va_runVN (As := [.int x]) (rest := []) ⟨hx, hb, hml, hown, hts⟩ (w_has l D K x.toInt n.toInt t0 x (.ref t1) (.ref t3) (.ref t2) (.ref l0) n (.int lt) (.int nf) (.int fi) k_8 k_9 s.heap.size rfl rfl) ⟨va_cnB 1 hts gX11_of_X9_has_n121 rfl rfl rfl (nst_at hN 19 rfl) (hts _ mm_X11_of_145) (by decide +kernel) ⟨Nat.le_of_ble_eq_true rfl, Nat.le_of_ble_eq_true rfl⟩, (hts _ mm_X11_of_397), (hts _ mm_X11_of_7)⟩ (mkV hK hN (hP.sub [5] rfl) (hD.sub [5] (by decide +kernel) rfl) (ci := 9) (q0 := 0) rfl rfl) rfl rfl hl.1 rfl (lv_room (Nat.le_of_ble_eq_true rfl)) dX11_of_5 ⟨Nat.le_of_ble_eq_true rfl, Nat.le_of_ble_eq_true rfl⟩) (fun r_193 hw => ?_)
  obtain ⟨hw, k_194, -⟩ := hw
  replace hE := hE.trans (Lt_in k_194)
  rcases hw with ⟨rfl, h_195, h_196⟩ | ⟨rfl, h_197⟩
  · replace hE := (hE).trans (if_pos rfl)
    refine lv_if_ne (tgt := 13) hx hb dX11_of_8 (by decide +kernel) (fun c_198 => ?_) (fun c_198 => absurd c_198 (by decide +kernel))
    refine lv_iload_n hx hb dX11_of_13 rfl (lv_at hl 2 rfl) ?_
    refine lv_iconst (v := 0) hx hb dX11_of_14 (by decide +kernel) ?_
    refine lv_bipush (v := 6) hx hb dX11_of_15 (by decide +kernel) ?_
    refine pci (va_runS (As := [.int y, .int 0, .int 6]) (rest := []) ⟨hx, hb, hml, hown, hts⟩ (w_within l D K y.toInt 0 6 y 0 6 s.heap.size rfl (show (0 : Int32).toInt = 0 from rfl) (show (6 : Int32).toInt = 6 from rfl)) (va_cwS 3 hts gX11_of_X11_within rfl rfl rfl (by decide +kernel) ⟨Nat.le_of_ble_eq_true rfl, Nat.le_of_ble_eq_true rfl⟩) (mkS hK hN (va_P.nil) (va_D.nil (A := fun _ => True))) rfl rfl hl.1 rfl (lv_room (Nat.le_of_ble_eq_true rfl)) dX11_of_17 ⟨Nat.le_of_ble_eq_true rfl, Nat.le_of_ble_eq_true rfl⟩) (fun r_199 hw => ?_)
    obtain ⟨hw, k_200, -⟩ := hw
    replace hE := hE.trans (Lt_in k_200)
    rcases hw with ⟨rfl, h_201, h_202⟩ | ⟨rfl, h_203⟩
    · replace hE := (hE).trans (if_pos rfl)
      refine lv_if_eq (tgt := 33) hx hb dX11_of_20 (by decide +kernel) (fun c_204 => absurd c_204 (by decide +kernel)) (fun c_204 => ?_)
      refine lv_aload_n hx hb dX11_of_23 rfl (lv_at hl 0 rfl) ?_
      refine va_get (ci := 11) (v := .ref t0) (C := RX11) (T := TX11) (N := 17) hx hb hts hw11 hown hK hP 0 rfl rfl 0 (by decide +kernel) (hts _ mm_X11_of_334) (fun _ h9 => h9) rfl dX11_of_24 ?_
      refine lv_iload_n hx hb dX11_of_27 rfl (lv_at hl 1 rfl) ?_
      refine lv_iload_n hx hb dX11_of_28 rfl (lv_at hl 2 rfl) ?_
      refine pci (va_runVN (As := [.int x, .int y]) (rest := []) ⟨hx, hb, hml, hown, hts⟩ (w_fact l D K t0 x y t1 (.ref t3) (.ref t2) (.ref l0) (.int n) (.int lt) (.int nf) (.int fi) k_8 k_9 f1 s.heap.size) ⟨va_cnB 2 hts gX11_of_X9_fact_n125 rfl rfl rfl (nst_at hN 20 rfl) (hts _ mm_X11_of_145) (by decide +kernel) ⟨Nat.le_of_ble_eq_true rfl, Nat.le_of_ble_eq_true rfl⟩, (hts _ mm_X11_of_381), (hts _ mm_X11_of_2)⟩ (mkV hK hN (hP.sub [5, 6] rfl) (hD.sub [5, 6] (by decide +kernel) rfl) (ci := 9) (q0 := 0) rfl rfl) rfl rfl hl.1 rfl (lv_room (Nat.le_of_ble_eq_true rfl)) dX11_of_29 ⟨Nat.le_of_ble_eq_true rfl, Nat.le_of_ble_eq_true rfl⟩) (fun r_205 hw => ?_)
      obtain ⟨k_206, -⟩ := hw
      replace hE := hE.trans (Lt_in k_206)
      rw [← hQ]
      have hP9 := hP.sub (ws' := [(o0, .inr (11, [.ref t0, o_1, o_2, o_3, o_4, o_5, o_6, o_7, .ref a0, o_9, o_10, o_11, o_12, o_13, o_14, o_15, o_16])), (a0, .inr (0, [.ref m0, .ref w0])), (m0, .inr (3, [.ref m1, .int br])), (m1, .inl (K 0, 64, .inl fs)), (w0, .inl (K 0, 9, .inl fw)), (t0, .inr (9, [.ref t1, .ref t3, .ref t2, .ref l0, .int n, .int lt, .int nf, .int fi, k_8, k_9])), (t1, .inl (K 0, 56, .inl f1)), (t2, .inl (K 0, 6, .inl f2)), (t3, .inl (K 0, 24, .inl f3)), (l0, .inl (K 4, 6, .inr (.inr (.inr (.inr fl)))))]) [0, 1, 2, 3, 4, 5, 6, 7, 8, 9] rfl
      have hD9 := hD.sub (ws' := [(o0, .inr (11, [.ref t0, o_1, o_2, o_3, o_4, o_5, o_6, o_7, .ref a0, o_9, o_10, o_11, o_12, o_13, o_14, o_15, o_16])), (a0, .inr (0, [.ref m0, .ref w0])), (m0, .inr (3, [.ref m1, .int br])), (m1, .inl (K 0, 64, .inl fs)), (w0, .inl (K 0, 9, .inl fw)), (t0, .inr (9, [.ref t1, .ref t3, .ref t2, .ref l0, .int n, .int lt, .int nf, .int fi, k_8, k_9])), (t1, .inl (K 0, 56, .inl f1)), (t2, .inl (K 0, 6, .inl f2)), (t3, .inl (K 0, 24, .inl f3)), (l0, .inl (K 4, 6, .inr (.inr (.inr (.inr fl)))))]) [0, 1, 2, 3, 4, 5, 6, 7, 8, 9] (by decide +kernel) rfl
      exact W.iret (v := r_205) hx hb hr (fun t ht hW => ⟨⟨r_205, ((fun _ => 0, fun i => match i with | 0 => fs | _ => fw, fun _ => fun _ => 0, fun i => match i with | _ => br, fun _ => 0, fun _ => fun _ => none) : Su), rfl, ⟨(show 0 ≤ (br : Int32).toInt ∧ (br : Int32).toInt ≤ 1 by omega), hE.symm, trivial⟩, (⟨by rw [ht]; exact hP9, hD9⟩ : Wd D A _ t)⟩, hS.F ht⟩) hS.2.2 dX11_of_32
    · replace hE := (hE).trans (if_neg (by first | decide | (intro h9; have h8 := congrArg Int32.toInt h9; omega)))
      refine lv_if_eq (tgt := 33) hx hb dX11_of_20 (by decide +kernel) (fun c_207 => ?_) (fun c_207 => absurd (by decide +kernel) c_207)
      refine lv_iload_n hx hb dX11_of_33 rfl (lv_at hl 2 rfl) ?_
      refine lv_bipush (v := 7) hx hb dX11_of_34 (by decide +kernel) ?_
      refine lv_icmp_ne (tgt := 56) hx hb dX11_of_36 (by decide +kernel) (fun c_208 => ?_) (fun c_208 => ?_)
      · have c_208i := i_ne (x := y.toInt) (y := 7) rfl rfl c_208
        replace hE := hE.trans (if_neg c_208)
        refine lv_aload_n hx hb dX11_of_56 rfl (lv_at hl 0 rfl) ?_
        refine va_get (ci := 11) (v := .ref a0) (C := RX11) (T := TX11) (N := 17) hx hb hts hw11 hown hK hP 0 rfl rfl 8 (by decide +kernel) (hts _ mm_X11_of_342) (fun _ h9 => h9) rfl dX11_of_57 ?_
        refine lv_aload_n hx hb dX11_of_60 rfl (lv_at hl 0 rfl) ?_
        refine va_get (ci := 11) (v := .ref t0) (C := RX11) (T := TX11) (N := 17) hx hb hts hw11 hown hK hP 0 rfl rfl 0 (by decide +kernel) (hts _ mm_X11_of_334) (fun _ h9 => h9) rfl dX11_of_61 ?_
        refine lv_iload_n hx hb dX11_of_64 rfl (lv_at hl 1 rfl) ?_
        refine lv_aload_n hx hb dX11_of_65 rfl (lv_at hl 0 rfl) ?_
        refine va_get (ci := 11) (v := .ref t0) (C := RX11) (T := TX11) (N := 17) hx hb hts hw11 hown hK hP 0 rfl rfl 0 (by decide +kernel) (hts _ mm_X11_of_334) (fun _ h9 => h9) rfl dX11_of_66 ?_
        refine lv_iload_n hx hb dX11_of_69 rfl (lv_at hl 1 rfl) ?_
        refine lv_iconst (v := 5) hx hb dX11_of_70 (by decide +kernel) ?_
        refine pci (va_runVN (As := [.int x, .int 5]) (rest := [.int x, .ref t0, .ref a0]) ⟨hx, hb, hml, hown, hts⟩ (w_fact l D K t0 x 5 t1 (.ref t3) (.ref t2) (.ref l0) (.int n) (.int lt) (.int nf) (.int fi) k_8 k_9 f1 s.heap.size) ⟨va_cnB 2 hts gX11_of_X9_fact_n125 rfl rfl rfl (nst_at hN 20 rfl) (hts _ mm_X11_of_145) (by decide +kernel) ⟨Nat.le_of_ble_eq_true rfl, Nat.le_of_ble_eq_true rfl⟩, (hts _ mm_X11_of_381), (hts _ mm_X11_of_2)⟩ (mkV hK hN (hP.sub [5, 6] rfl) (hD.sub [5, 6] (by decide +kernel) rfl) (ci := 9) (q0 := 0) rfl rfl) rfl rfl hl.1 rfl (lv_room (Nat.le_of_ble_eq_true rfl)) dX11_of_71 ⟨Nat.le_of_ble_eq_true rfl, Nat.le_of_ble_eq_true rfl⟩) (fun r_209 hw => ?_)
        obtain ⟨k_210, -⟩ := hw
        replace hE := hE.trans (Lt_in k_210)
        refine lv_iconst (v := 0) hx hb dX11_of_74 (by decide +kernel) ?_
        refine kcv (S := Su) (wr := [(o0, .inr (11, [.ref t0, o_1, o_2, o_3, o_4, o_5, o_6, o_7, .ref a0, o_9, o_10, o_11, o_12, o_13, o_14, o_15, o_16])), (m0, .inr (3, [.ref m1, .int br])), (m1, .inl (K 0, 64, .inl fs)), (t3, .inl (K 0, 24, .inl f3)), (l0, .inl (K 4, 6, .inr (.inr (.inr (.inr fl)))))]) (va_runVN (As := [.ref t0, .int x, .int r_209, .int 0]) (rest := []) ⟨hx, hb, hml, hown, hts⟩ (w_face l D K a0 t0 x r_209 0 (.ref m0) w0 fw t1 (.ref t3) t2 (.ref l0) (.int n) (.int lt) (.int nf) (.int fi) k_8 k_9 f1 f2 s.heap.size) ⟨va_cnB 4 hts gX11_of_X0_face_n132 rfl rfl rfl (nst_at hN 22 rfl) (hts _ mm_X11_of_151) (by decide +kernel) ⟨Nat.le_of_ble_eq_true rfl, Nat.le_of_ble_eq_true rfl⟩, (hts _ mm_X11_of_404), (hts _ mm_X11_of_10)⟩ (mkV hK hN (hP.sub [1, 4, 5, 6, 7] rfl) (hD.sub [1, 4, 5, 6, 7] (by decide +kernel) rfl) (ci := 0) (q0 := 0) rfl rfl) rfl rfl hl.1 rfl (lv_room (Nat.le_of_ble_eq_true rfl)) dX11_of_75 ⟨Nat.le_of_ble_eq_true rfl, Nat.le_of_ble_eq_true rfl⟩) hP hD hS hA [1, 4, 5, 6, 7] [0, 2, 3, 8, 9] rfl rfl (by decide +kernel) (by decide +kernel) (fun u_212 H locs hw hP0 hD0 hS0 => ?_)
        clear hP hD hS
        have hP := hP0
        have hD := hD0
        have hS := hS0
        clear hP0 hD0 hS0
        replace hP : va_P D vwCl [(o0, .inr (11, [.ref t0, o_1, o_2, o_3, o_4, o_5, o_6, o_7, .ref a0, o_9, o_10, o_11, o_12, o_13, o_14, o_15, o_16])), (m0, .inr (3, [.ref m1, .int br])), (m1, .inl (K 0, 64, .inl fs)), (t3, .inl (K 0, 24, .inl f3)), (l0, .inl (K 4, 6, .inr (.inr (.inr (.inr fl))))), (a0, .inr (0, [.ref m0, .ref w0])), (w0, .inl (K 0, 9, .inl (u_212.2.1 0))), (t0, .inr (9, [.ref t1, .ref t3, .ref t2, .ref l0, .int n, .int lt, .int nf, .int fi, k_8, k_9])), (t1, .inl (K 0, 56, .inl f1)), (t2, .inl (K 0, 6, .inl f2))] H := hP
        replace hD : va_D A [(o0, .inr (11, [.ref t0, o_1, o_2, o_3, o_4, o_5, o_6, o_7, .ref a0, o_9, o_10, o_11, o_12, o_13, o_14, o_15, o_16])), (m0, .inr (3, [.ref m1, .int br])), (m1, .inl (K 0, 64, .inl fs)), (t3, .inl (K 0, 24, .inl f3)), (l0, .inl (K 4, 6, .inr (.inr (.inr (.inr fl))))), (a0, .inr (0, [.ref m0, .ref w0])), (w0, .inl (K 0, 9, .inl (u_212.2.1 0))), (t0, .inr (9, [.ref t1, .ref t3, .ref t2, .ref l0, .int n, .int lt, .int nf, .int fi, k_8, k_9])), (t1, .inl (K 0, 56, .inl f1)), (t2, .inl (K 0, 6, .inl f2))] := hD
        obtain ⟨k_213, -⟩ := hw
        replace hE := hE.trans (Lt_in k_213)
        refine lv_iload_n hx hb dX11_of_78 rfl (lv_at hl 2 rfl) ?_
        have w_214 : y.toInt = 8 ∨ y.toInt = 9 ∨ y.toInt = 10 ∨ (y.toInt < 8 ∨ 10 < y.toInt) := by omega
        rcases w_214 with w_214 | w_214 | w_214 | w_214
        · replace hE := (hE).trans (if_pos (by first | omega | (rw [rfl]; omega)))
          refine lv_tableIn (tgt := 104) hx hb dX11_of_79 (by omega) (by omega) (by rw [w_214]; rfl) (by decide +kernel) ?_
          refine lv_aload_n hx hb dX11_of_104 rfl (lv_at hl 0 rfl) ?_
          refine va_get (ci := 11) (v := .ref a0) (C := RX11) (T := TX11) (N := 17) hx hb hts hw11 hown hK hP 0 rfl rfl 8 (by decide +kernel) (hts _ mm_X11_of_342) (fun _ h9 => h9) rfl dX11_of_105 ?_
          refine lv_aload_n hx hb dX11_of_108 rfl (lv_at hl 0 rfl) ?_
          refine va_get (ci := 11) (v := .ref t0) (C := RX11) (T := TX11) (N := 17) hx hb hts hw11 hown hK hP 0 rfl rfl 0 (by decide +kernel) (hts _ mm_X11_of_334) (fun _ h9 => h9) rfl dX11_of_109 ?_
          refine pcq (va_runVN (As := []) (rest := [.ref a0]) ⟨hx, hb, hml, hown, hts⟩ (w_lawInForce l D K g L G t0 (.ref t1) (.ref t3) (.ref t2) l0 (.int n) lt nf (.int fi) k_8 k_9 fl H.size (by first | omega | decide) zfl) ⟨va_cnB 0 hts gX11_of_X9_lawInForce_n138 rfl rfl rfl (nst_at hN 24 rfl) (hts _ mm_X11_of_145) (by decide +kernel) ⟨Nat.le_of_ble_eq_true rfl, Nat.le_of_ble_eq_true rfl⟩, (hts _ mm_X11_of_406), (hts _ mm_X11_of_11)⟩ (mkVY hK hN (hP.sub [7, 4] rfl) (hD.sub [7, 4] (by decide +kernel) rfl) (ci := 9) (q0 := 0) rfl rfl (fun U hU hW => ⟨Gl.at hG hS hW hU (fun _ h9 => h9.elim), Pool.at hPl hS hU (fun _ h9 => h9.elim), Ro.heap hU (Ro.nil)⟩)) rfl rfl hl.1 rfl (lv_room (Nat.le_of_ble_eq_true rfl)) dX11_of_112 ⟨Nat.le_of_ble_eq_true rfl, Nat.le_of_ble_eq_true rfl⟩) (fun r_215 hw => ?_)
          obtain ⟨hw, k_217⟩ := hw
          have hr_215 : InLo L r_215 := hw
          replace hE := hE.trans (Lt_in k_217)
          refine lv_iconst (v := 0) hx hb dX11_of_115 (by decide +kernel) ?_
          rcases r_215 with _ | q_218
          · replace hE := hE.trans Oc_n
            have hl : lv_has ls 3 [(0, .ref o0), (1, .int x), (2, .int y)] := hl
            refine W.eq (g2 := F0 m 116 ls [.int 0, .null, .ref a0]) rfl ?_
            refine kci (S := Su) (wr := [(o0, .inr (11, [.ref t0, o_1, o_2, o_3, o_4, o_5, o_6, o_7, .ref a0, o_9, o_10, o_11, o_12, o_13, o_14, o_15, o_16])), (t3, .inl (K 0, 24, .inl f3)), (l0, .inl (K 4, 6, .inr (.inr (.inr (.inr fl))))), (t0, .inr (9, [.ref t1, .ref t3, .ref t2, .ref l0, .int n, .int lt, .int nf, .int fi, k_8, k_9])), (t1, .inl (K 0, 56, .inl f1)), (t2, .inl (K 0, 6, .inl f2))]) (va_runVN (As := [.null, .int 0]) (rest := []) ⟨hx, hb, hml, hown, hts⟩ (w_told_n l D K g L G a0 0 m0 w0 m1 br fs (u_212.2.1 0) H.size (by first | omega | decide) (by first | omega | decide)) ⟨va_cnB 2 hts gX11_of_X0_told_n142 rfl rfl rfl (nst_at hN 25 rfl) (hts _ mm_X11_of_151) (by decide +kernel) ⟨Nat.le_of_ble_eq_true rfl, Nat.le_of_ble_eq_true rfl⟩, (hts _ mm_X11_of_411), (hts _ mm_X11_of_13)⟩ (mkVY hK hN (hP.sub [5, 1, 2, 6] rfl) (hD.sub [5, 1, 2, 6] (by decide +kernel) rfl) (ci := 0) (q0 := 0) rfl rfl (fun U hU hW => ⟨Gl.at hG hS hW hU (fun q h => va_free hD hS hA [5, 1, 2, 6] rfl q h), Pool.at hPl hS hU (fun q h => va_free hD hS hA [5, 1, 2, 6] rfl q h), Ro.heap hU (Ro.nil)⟩)) rfl rfl hl.1 rfl (lv_room (Nat.le_of_ble_eq_true rfl)) dX11_of_116 ⟨Nat.le_of_ble_eq_true rfl, Nat.le_of_ble_eq_true rfl⟩) hP hD hS hA [5, 1, 2, 6] [0, 3, 4, 7, 8, 9] rfl rfl (by decide +kernel) (by decide +kernel) (fun r_219 u_220 H locs hw hP0 hD0 hS0 => ?_)
            clear hP hD hS
            have hP := hP0
            have hD := hD0
            have hS := hS0
            clear hP0 hD0 hS0
            replace hP : va_P D vwCl [(o0, .inr (11, [.ref t0, o_1, o_2, o_3, o_4, o_5, o_6, o_7, .ref a0, o_9, o_10, o_11, o_12, o_13, o_14, o_15, o_16])), (t3, .inl (K 0, 24, .inl f3)), (l0, .inl (K 4, 6, .inr (.inr (.inr (.inr fl))))), (t0, .inr (9, [.ref t1, .ref t3, .ref t2, .ref l0, .int n, .int lt, .int nf, .int fi, k_8, k_9])), (t1, .inl (K 0, 56, .inl f1)), (t2, .inl (K 0, 6, .inl f2)), (a0, .inr (0, [.ref m0, .ref w0])), (m0, .inr (3, [.ref m1, .int br])), (m1, .inl (K 0, 64, .inl fs)), (w0, .inl (K 0, 9, .inl (u_212.2.1 0)))] H := hP
            replace hD : va_D A [(o0, .inr (11, [.ref t0, o_1, o_2, o_3, o_4, o_5, o_6, o_7, .ref a0, o_9, o_10, o_11, o_12, o_13, o_14, o_15, o_16])), (t3, .inl (K 0, 24, .inl f3)), (l0, .inl (K 4, 6, .inr (.inr (.inr (.inr fl))))), (t0, .inr (9, [.ref t1, .ref t3, .ref t2, .ref l0, .int n, .int lt, .int nf, .int fi, k_8, k_9])), (t1, .inl (K 0, 56, .inl f1)), (t2, .inl (K 0, 6, .inl f2)), (a0, .inr (0, [.ref m0, .ref w0])), (m0, .inr (3, [.ref m1, .int br])), (m1, .inl (K 0, 64, .inl fs)), (w0, .inl (K 0, 9, .inl (u_212.2.1 0)))] := hD
            obtain ⟨h_222, k_221, -⟩ := hw
            replace hE := hE.trans (Lt_in k_221)
            rw [← hQ]
            have hP9 := hP.sub (ws' := [(o0, .inr (11, [.ref t0, o_1, o_2, o_3, o_4, o_5, o_6, o_7, .ref a0, o_9, o_10, o_11, o_12, o_13, o_14, o_15, o_16])), (a0, .inr (0, [.ref m0, .ref w0])), (m0, .inr (3, [.ref m1, .int br])), (m1, .inl (K 0, 64, .inl fs)), (w0, .inl (K 0, 9, .inl (u_212.2.1 0))), (t0, .inr (9, [.ref t1, .ref t3, .ref t2, .ref l0, .int n, .int lt, .int nf, .int fi, k_8, k_9])), (t1, .inl (K 0, 56, .inl f1)), (t2, .inl (K 0, 6, .inl f2)), (t3, .inl (K 0, 24, .inl f3)), (l0, .inl (K 4, 6, .inr (.inr (.inr (.inr fl)))))]) [0, 6, 7, 8, 9, 3, 4, 5, 1, 2] rfl
            have hD9 := hD.sub (ws' := [(o0, .inr (11, [.ref t0, o_1, o_2, o_3, o_4, o_5, o_6, o_7, .ref a0, o_9, o_10, o_11, o_12, o_13, o_14, o_15, o_16])), (a0, .inr (0, [.ref m0, .ref w0])), (m0, .inr (3, [.ref m1, .int br])), (m1, .inl (K 0, 64, .inl fs)), (w0, .inl (K 0, 9, .inl (u_212.2.1 0))), (t0, .inr (9, [.ref t1, .ref t3, .ref t2, .ref l0, .int n, .int lt, .int nf, .int fi, k_8, k_9])), (t1, .inl (K 0, 56, .inl f1)), (t2, .inl (K 0, 6, .inl f2)), (t3, .inl (K 0, 24, .inl f3)), (l0, .inl (K 4, 6, .inr (.inr (.inr (.inr fl)))))]) [0, 6, 7, 8, 9, 3, 4, 5, 1, 2] (by decide +kernel) rfl
            exact W.iret (v := r_219) hx hb hr (fun t ht hW => ⟨⟨r_219, ((fun _ => 0, fun i => match i with | 0 => fs | _ => (u_212.2.1 0), fun _ => fun _ => 0, fun i => match i with | _ => br, fun _ => 0, fun _ => fun _ => none) : Su), rfl, ⟨(show 0 ≤ (br : Int32).toInt ∧ (br : Int32).toInt ≤ 1 by omega), hE.symm, trivial⟩, (⟨by rw [ht]; exact hP9, hD9⟩ : Wd D A _ t)⟩, hS.F ht⟩) hS.2.2 dX11_of_119
          · replace hE := hE.trans Oc_s
            have hl : lv_has ls 3 [(0, .ref o0), (1, .int x), (2, .int y)] := hl
            refine W.eq (g2 := F0 m 116 ls [.int 0, .ref q_218, .ref a0]) rfl ?_
            refine kci (S := Su) (wr := [(o0, .inr (11, [.ref t0, o_1, o_2, o_3, o_4, o_5, o_6, o_7, .ref a0, o_9, o_10, o_11, o_12, o_13, o_14, o_15, o_16])), (t3, .inl (K 0, 24, .inl f3)), (l0, .inl (K 4, 6, .inr (.inr (.inr (.inr fl))))), (t0, .inr (9, [.ref t1, .ref t3, .ref t2, .ref l0, .int n, .int lt, .int nf, .int fi, k_8, k_9])), (t1, .inl (K 0, 56, .inl f1)), (t2, .inl (K 0, 6, .inl f2))]) (va_runVN (As := [.ref q_218, .int 0]) (rest := []) ⟨hx, hb, hml, hown, hts⟩ (w_told l D K g L G a0 q_218 0 m0 w0 m1 br fs (u_212.2.1 0) H.size hr_215 (by first | omega | decide) (by first | omega | decide)) ⟨va_cnB 2 hts gX11_of_X0_told_n142 rfl rfl rfl (nst_at hN 25 rfl) (hts _ mm_X11_of_151) (by decide +kernel) ⟨Nat.le_of_ble_eq_true rfl, Nat.le_of_ble_eq_true rfl⟩, (hts _ mm_X11_of_411), (hts _ mm_X11_of_13)⟩ (mkVY hK hN (hP.sub [5, 1, 2, 6] rfl) (hD.sub [5, 1, 2, 6] (by decide +kernel) rfl) (ci := 0) (q0 := 0) rfl rfl (fun U hU hW => ⟨Gl.at hG hS hW hU (fun q h => va_free hD hS hA [5, 1, 2, 6] rfl q h), Pool.at hPl hS hU (fun q h => va_free hD hS hA [5, 1, 2, 6] rfl q h), Ro.heap hU (Ro.nil)⟩)) rfl rfl hl.1 rfl (lv_room (Nat.le_of_ble_eq_true rfl)) dX11_of_116 ⟨Nat.le_of_ble_eq_true rfl, Nat.le_of_ble_eq_true rfl⟩) hP hD hS hA [5, 1, 2, 6] [0, 3, 4, 7, 8, 9] rfl rfl (by decide +kernel) (by decide +kernel) (fun r_223 u_224 H locs hw hP0 hD0 hS0 => ?_)
            clear hP hD hS
            have hP := hP0
            have hD := hD0
            have hS := hS0
            clear hP0 hD0 hS0
            replace hP : va_P D vwCl [(o0, .inr (11, [.ref t0, o_1, o_2, o_3, o_4, o_5, o_6, o_7, .ref a0, o_9, o_10, o_11, o_12, o_13, o_14, o_15, o_16])), (t3, .inl (K 0, 24, .inl f3)), (l0, .inl (K 4, 6, .inr (.inr (.inr (.inr fl))))), (t0, .inr (9, [.ref t1, .ref t3, .ref t2, .ref l0, .int n, .int lt, .int nf, .int fi, k_8, k_9])), (t1, .inl (K 0, 56, .inl f1)), (t2, .inl (K 0, 6, .inl f2)), (a0, .inr (0, [.ref m0, .ref w0])), (m0, .inr (3, [.ref m1, .int (u_224.2.2.2.1 0)])), (m1, .inl (K 0, 64, .inl (u_224.2.1 0))), (w0, .inl (K 0, 9, .inl (u_212.2.1 0)))] H := hP
            replace hD : va_D A [(o0, .inr (11, [.ref t0, o_1, o_2, o_3, o_4, o_5, o_6, o_7, .ref a0, o_9, o_10, o_11, o_12, o_13, o_14, o_15, o_16])), (t3, .inl (K 0, 24, .inl f3)), (l0, .inl (K 4, 6, .inr (.inr (.inr (.inr fl))))), (t0, .inr (9, [.ref t1, .ref t3, .ref t2, .ref l0, .int n, .int lt, .int nf, .int fi, k_8, k_9])), (t1, .inl (K 0, 56, .inl f1)), (t2, .inl (K 0, 6, .inl f2)), (a0, .inr (0, [.ref m0, .ref w0])), (m0, .inr (3, [.ref m1, .int (u_224.2.2.2.1 0)])), (m1, .inl (K 0, 64, .inl (u_224.2.1 0))), (w0, .inl (K 0, 9, .inl (u_212.2.1 0)))] := hD
            obtain ⟨h_227, k_225, k_226, -⟩ := hw
            replace hE := (hE.trans (Lt2_in k_226)).trans (Lt2_in rfl)
            rw [← hQ]
            have hP9 := hP.sub (ws' := [(o0, .inr (11, [.ref t0, o_1, o_2, o_3, o_4, o_5, o_6, o_7, .ref a0, o_9, o_10, o_11, o_12, o_13, o_14, o_15, o_16])), (a0, .inr (0, [.ref m0, .ref w0])), (m0, .inr (3, [.ref m1, .int (u_224.2.2.2.1 0)])), (m1, .inl (K 0, 64, .inl (u_224.2.1 0))), (w0, .inl (K 0, 9, .inl (u_212.2.1 0))), (t0, .inr (9, [.ref t1, .ref t3, .ref t2, .ref l0, .int n, .int lt, .int nf, .int fi, k_8, k_9])), (t1, .inl (K 0, 56, .inl f1)), (t2, .inl (K 0, 6, .inl f2)), (t3, .inl (K 0, 24, .inl f3)), (l0, .inl (K 4, 6, .inr (.inr (.inr (.inr fl)))))]) [0, 6, 7, 8, 9, 3, 4, 5, 1, 2] rfl
            have hD9 := hD.sub (ws' := [(o0, .inr (11, [.ref t0, o_1, o_2, o_3, o_4, o_5, o_6, o_7, .ref a0, o_9, o_10, o_11, o_12, o_13, o_14, o_15, o_16])), (a0, .inr (0, [.ref m0, .ref w0])), (m0, .inr (3, [.ref m1, .int (u_224.2.2.2.1 0)])), (m1, .inl (K 0, 64, .inl (u_224.2.1 0))), (w0, .inl (K 0, 9, .inl (u_212.2.1 0))), (t0, .inr (9, [.ref t1, .ref t3, .ref t2, .ref l0, .int n, .int lt, .int nf, .int fi, k_8, k_9])), (t1, .inl (K 0, 56, .inl f1)), (t2, .inl (K 0, 6, .inl f2)), (t3, .inl (K 0, 24, .inl f3)), (l0, .inl (K 4, 6, .inr (.inr (.inr (.inr fl)))))]) [0, 6, 7, 8, 9, 3, 4, 5, 1, 2] (by decide +kernel) rfl
            exact W.iret (v := r_223) hx hb hr (fun t ht hW => ⟨⟨r_223, ((fun _ => 0, fun i => match i with | 0 => (u_224.2.1 0) | _ => (u_212.2.1 0), fun _ => fun _ => 0, fun i => match i with | _ => (u_224.2.2.2.1 0), fun _ => 0, fun _ => fun _ => none) : Su), rfl, ⟨(show 0 ≤ ((u_224.2.2.2.1 0) : Int32).toInt ∧ ((u_224.2.2.2.1 0) : Int32).toInt ≤ 1 by omega), hE.symm, trivial⟩, (⟨by rw [ht]; exact hP9, hD9⟩ : Wd D A _ t)⟩, hS.F ht⟩) hS.2.2 dX11_of_119
        · replace hE := ((hE).trans (if_neg (by first | omega | (rw [rfl]; omega)))).trans (if_pos (by first | omega | (rw [rfl]; omega)))
          refine lv_tableIn (tgt := 120) hx hb dX11_of_79 (by omega) (by omega) (by rw [w_214]; rfl) (by decide +kernel) ?_
          refine lv_aload_n hx hb dX11_of_120 rfl (lv_at hl 0 rfl) ?_
          refine va_get (ci := 11) (v := .ref a0) (C := RX11) (T := TX11) (N := 17) hx hb hts hw11 hown hK hP 0 rfl rfl 8 (by decide +kernel) (hts _ mm_X11_of_342) (fun _ h9 => h9) rfl dX11_of_121 ?_
          refine lv_aload_n hx hb dX11_of_124 rfl (lv_at hl 0 rfl) ?_
          refine va_get (ci := 11) (v := .ref t0) (C := RX11) (T := TX11) (N := 17) hx hb hts hw11 hown hK hP 0 rfl rfl 0 (by decide +kernel) (hts _ mm_X11_of_334) (fun _ h9 => h9) rfl dX11_of_125 ?_
          refine pcq (va_runVN (As := []) (rest := [.ref a0]) ⟨hx, hb, hml, hown, hts⟩ (w_lawInForce l D K g L G t0 (.ref t1) (.ref t3) (.ref t2) l0 (.int n) lt nf (.int fi) k_8 k_9 fl H.size (by first | omega | decide) zfl) ⟨va_cnB 0 hts gX11_of_X9_lawInForce_n138 rfl rfl rfl (nst_at hN 24 rfl) (hts _ mm_X11_of_145) (by decide +kernel) ⟨Nat.le_of_ble_eq_true rfl, Nat.le_of_ble_eq_true rfl⟩, (hts _ mm_X11_of_406), (hts _ mm_X11_of_11)⟩ (mkVY hK hN (hP.sub [7, 4] rfl) (hD.sub [7, 4] (by decide +kernel) rfl) (ci := 9) (q0 := 0) rfl rfl (fun U hU hW => ⟨Gl.at hG hS hW hU (fun _ h9 => h9.elim), Pool.at hPl hS hU (fun _ h9 => h9.elim), Ro.heap hU (Ro.nil)⟩)) rfl rfl hl.1 rfl (lv_room (Nat.le_of_ble_eq_true rfl)) dX11_of_128 ⟨Nat.le_of_ble_eq_true rfl, Nat.le_of_ble_eq_true rfl⟩) (fun r_228 hw => ?_)
          obtain ⟨hw, k_230⟩ := hw
          have hr_228 : InLo L r_228 := hw
          replace hE := hE.trans (Lt_in k_230)
          refine lv_iconst (v := 1) hx hb dX11_of_131 (by decide +kernel) ?_
          rcases r_228 with _ | q_231
          · replace hE := hE.trans Oc_n
            have hl : lv_has ls 3 [(0, .ref o0), (1, .int x), (2, .int y)] := hl
            refine W.eq (g2 := F0 m 132 ls [.int 1, .null, .ref a0]) rfl ?_
            refine kci (S := Su) (wr := [(o0, .inr (11, [.ref t0, o_1, o_2, o_3, o_4, o_5, o_6, o_7, .ref a0, o_9, o_10, o_11, o_12, o_13, o_14, o_15, o_16])), (t3, .inl (K 0, 24, .inl f3)), (l0, .inl (K 4, 6, .inr (.inr (.inr (.inr fl))))), (t0, .inr (9, [.ref t1, .ref t3, .ref t2, .ref l0, .int n, .int lt, .int nf, .int fi, k_8, k_9])), (t1, .inl (K 0, 56, .inl f1)), (t2, .inl (K 0, 6, .inl f2))]) (va_runVN (As := [.null, .int 1]) (rest := []) ⟨hx, hb, hml, hown, hts⟩ (w_told_n l D K g L G a0 1 m0 w0 m1 br fs (u_212.2.1 0) H.size (by first | omega | decide) (by first | omega | decide)) ⟨va_cnB 2 hts gX11_of_X0_told_n142 rfl rfl rfl (nst_at hN 25 rfl) (hts _ mm_X11_of_151) (by decide +kernel) ⟨Nat.le_of_ble_eq_true rfl, Nat.le_of_ble_eq_true rfl⟩, (hts _ mm_X11_of_411), (hts _ mm_X11_of_13)⟩ (mkVY hK hN (hP.sub [5, 1, 2, 6] rfl) (hD.sub [5, 1, 2, 6] (by decide +kernel) rfl) (ci := 0) (q0 := 0) rfl rfl (fun U hU hW => ⟨Gl.at hG hS hW hU (fun q h => va_free hD hS hA [5, 1, 2, 6] rfl q h), Pool.at hPl hS hU (fun q h => va_free hD hS hA [5, 1, 2, 6] rfl q h), Ro.heap hU (Ro.nil)⟩)) rfl rfl hl.1 rfl (lv_room (Nat.le_of_ble_eq_true rfl)) dX11_of_132 ⟨Nat.le_of_ble_eq_true rfl, Nat.le_of_ble_eq_true rfl⟩) hP hD hS hA [5, 1, 2, 6] [0, 3, 4, 7, 8, 9] rfl rfl (by decide +kernel) (by decide +kernel) (fun r_232 u_233 H locs hw hP0 hD0 hS0 => ?_)
            clear hP hD hS
            have hP := hP0
            have hD := hD0
            have hS := hS0
            clear hP0 hD0 hS0
            replace hP : va_P D vwCl [(o0, .inr (11, [.ref t0, o_1, o_2, o_3, o_4, o_5, o_6, o_7, .ref a0, o_9, o_10, o_11, o_12, o_13, o_14, o_15, o_16])), (t3, .inl (K 0, 24, .inl f3)), (l0, .inl (K 4, 6, .inr (.inr (.inr (.inr fl))))), (t0, .inr (9, [.ref t1, .ref t3, .ref t2, .ref l0, .int n, .int lt, .int nf, .int fi, k_8, k_9])), (t1, .inl (K 0, 56, .inl f1)), (t2, .inl (K 0, 6, .inl f2)), (a0, .inr (0, [.ref m0, .ref w0])), (m0, .inr (3, [.ref m1, .int br])), (m1, .inl (K 0, 64, .inl fs)), (w0, .inl (K 0, 9, .inl (u_212.2.1 0)))] H := hP
            replace hD : va_D A [(o0, .inr (11, [.ref t0, o_1, o_2, o_3, o_4, o_5, o_6, o_7, .ref a0, o_9, o_10, o_11, o_12, o_13, o_14, o_15, o_16])), (t3, .inl (K 0, 24, .inl f3)), (l0, .inl (K 4, 6, .inr (.inr (.inr (.inr fl))))), (t0, .inr (9, [.ref t1, .ref t3, .ref t2, .ref l0, .int n, .int lt, .int nf, .int fi, k_8, k_9])), (t1, .inl (K 0, 56, .inl f1)), (t2, .inl (K 0, 6, .inl f2)), (a0, .inr (0, [.ref m0, .ref w0])), (m0, .inr (3, [.ref m1, .int br])), (m1, .inl (K 0, 64, .inl fs)), (w0, .inl (K 0, 9, .inl (u_212.2.1 0)))] := hD
            obtain ⟨h_235, k_234, -⟩ := hw
            replace hE := hE.trans (Lt_in k_234)
            rw [← hQ]
            have hP9 := hP.sub (ws' := [(o0, .inr (11, [.ref t0, o_1, o_2, o_3, o_4, o_5, o_6, o_7, .ref a0, o_9, o_10, o_11, o_12, o_13, o_14, o_15, o_16])), (a0, .inr (0, [.ref m0, .ref w0])), (m0, .inr (3, [.ref m1, .int br])), (m1, .inl (K 0, 64, .inl fs)), (w0, .inl (K 0, 9, .inl (u_212.2.1 0))), (t0, .inr (9, [.ref t1, .ref t3, .ref t2, .ref l0, .int n, .int lt, .int nf, .int fi, k_8, k_9])), (t1, .inl (K 0, 56, .inl f1)), (t2, .inl (K 0, 6, .inl f2)), (t3, .inl (K 0, 24, .inl f3)), (l0, .inl (K 4, 6, .inr (.inr (.inr (.inr fl)))))]) [0, 6, 7, 8, 9, 3, 4, 5, 1, 2] rfl
            have hD9 := hD.sub (ws' := [(o0, .inr (11, [.ref t0, o_1, o_2, o_3, o_4, o_5, o_6, o_7, .ref a0, o_9, o_10, o_11, o_12, o_13, o_14, o_15, o_16])), (a0, .inr (0, [.ref m0, .ref w0])), (m0, .inr (3, [.ref m1, .int br])), (m1, .inl (K 0, 64, .inl fs)), (w0, .inl (K 0, 9, .inl (u_212.2.1 0))), (t0, .inr (9, [.ref t1, .ref t3, .ref t2, .ref l0, .int n, .int lt, .int nf, .int fi, k_8, k_9])), (t1, .inl (K 0, 56, .inl f1)), (t2, .inl (K 0, 6, .inl f2)), (t3, .inl (K 0, 24, .inl f3)), (l0, .inl (K 4, 6, .inr (.inr (.inr (.inr fl)))))]) [0, 6, 7, 8, 9, 3, 4, 5, 1, 2] (by decide +kernel) rfl
            exact W.iret (v := r_232) hx hb hr (fun t ht hW => ⟨⟨r_232, ((fun _ => 0, fun i => match i with | 0 => fs | _ => (u_212.2.1 0), fun _ => fun _ => 0, fun i => match i with | _ => br, fun _ => 0, fun _ => fun _ => none) : Su), rfl, ⟨(show 0 ≤ (br : Int32).toInt ∧ (br : Int32).toInt ≤ 1 by omega), hE.symm, trivial⟩, (⟨by rw [ht]; exact hP9, hD9⟩ : Wd D A _ t)⟩, hS.F ht⟩) hS.2.2 dX11_of_135
          · replace hE := hE.trans Oc_s
            have hl : lv_has ls 3 [(0, .ref o0), (1, .int x), (2, .int y)] := hl
            refine W.eq (g2 := F0 m 132 ls [.int 1, .ref q_231, .ref a0]) rfl ?_
            refine kci (S := Su) (wr := [(o0, .inr (11, [.ref t0, o_1, o_2, o_3, o_4, o_5, o_6, o_7, .ref a0, o_9, o_10, o_11, o_12, o_13, o_14, o_15, o_16])), (t3, .inl (K 0, 24, .inl f3)), (l0, .inl (K 4, 6, .inr (.inr (.inr (.inr fl))))), (t0, .inr (9, [.ref t1, .ref t3, .ref t2, .ref l0, .int n, .int lt, .int nf, .int fi, k_8, k_9])), (t1, .inl (K 0, 56, .inl f1)), (t2, .inl (K 0, 6, .inl f2))]) (va_runVN (As := [.ref q_231, .int 1]) (rest := []) ⟨hx, hb, hml, hown, hts⟩ (w_told l D K g L G a0 q_231 1 m0 w0 m1 br fs (u_212.2.1 0) H.size hr_228 (by first | omega | decide) (by first | omega | decide)) ⟨va_cnB 2 hts gX11_of_X0_told_n142 rfl rfl rfl (nst_at hN 25 rfl) (hts _ mm_X11_of_151) (by decide +kernel) ⟨Nat.le_of_ble_eq_true rfl, Nat.le_of_ble_eq_true rfl⟩, (hts _ mm_X11_of_411), (hts _ mm_X11_of_13)⟩ (mkVY hK hN (hP.sub [5, 1, 2, 6] rfl) (hD.sub [5, 1, 2, 6] (by decide +kernel) rfl) (ci := 0) (q0 := 0) rfl rfl (fun U hU hW => ⟨Gl.at hG hS hW hU (fun q h => va_free hD hS hA [5, 1, 2, 6] rfl q h), Pool.at hPl hS hU (fun q h => va_free hD hS hA [5, 1, 2, 6] rfl q h), Ro.heap hU (Ro.nil)⟩)) rfl rfl hl.1 rfl (lv_room (Nat.le_of_ble_eq_true rfl)) dX11_of_132 ⟨Nat.le_of_ble_eq_true rfl, Nat.le_of_ble_eq_true rfl⟩) hP hD hS hA [5, 1, 2, 6] [0, 3, 4, 7, 8, 9] rfl rfl (by decide +kernel) (by decide +kernel) (fun r_236 u_237 H locs hw hP0 hD0 hS0 => ?_)
            clear hP hD hS
            have hP := hP0
            have hD := hD0
            have hS := hS0
            clear hP0 hD0 hS0
            replace hP : va_P D vwCl [(o0, .inr (11, [.ref t0, o_1, o_2, o_3, o_4, o_5, o_6, o_7, .ref a0, o_9, o_10, o_11, o_12, o_13, o_14, o_15, o_16])), (t3, .inl (K 0, 24, .inl f3)), (l0, .inl (K 4, 6, .inr (.inr (.inr (.inr fl))))), (t0, .inr (9, [.ref t1, .ref t3, .ref t2, .ref l0, .int n, .int lt, .int nf, .int fi, k_8, k_9])), (t1, .inl (K 0, 56, .inl f1)), (t2, .inl (K 0, 6, .inl f2)), (a0, .inr (0, [.ref m0, .ref w0])), (m0, .inr (3, [.ref m1, .int (u_237.2.2.2.1 0)])), (m1, .inl (K 0, 64, .inl (u_237.2.1 0))), (w0, .inl (K 0, 9, .inl (u_212.2.1 0)))] H := hP
            replace hD : va_D A [(o0, .inr (11, [.ref t0, o_1, o_2, o_3, o_4, o_5, o_6, o_7, .ref a0, o_9, o_10, o_11, o_12, o_13, o_14, o_15, o_16])), (t3, .inl (K 0, 24, .inl f3)), (l0, .inl (K 4, 6, .inr (.inr (.inr (.inr fl))))), (t0, .inr (9, [.ref t1, .ref t3, .ref t2, .ref l0, .int n, .int lt, .int nf, .int fi, k_8, k_9])), (t1, .inl (K 0, 56, .inl f1)), (t2, .inl (K 0, 6, .inl f2)), (a0, .inr (0, [.ref m0, .ref w0])), (m0, .inr (3, [.ref m1, .int (u_237.2.2.2.1 0)])), (m1, .inl (K 0, 64, .inl (u_237.2.1 0))), (w0, .inl (K 0, 9, .inl (u_212.2.1 0)))] := hD
            obtain ⟨h_240, k_238, k_239, -⟩ := hw
            replace hE := (hE.trans (Lt2_in k_239)).trans (Lt2_in rfl)
            rw [← hQ]
            have hP9 := hP.sub (ws' := [(o0, .inr (11, [.ref t0, o_1, o_2, o_3, o_4, o_5, o_6, o_7, .ref a0, o_9, o_10, o_11, o_12, o_13, o_14, o_15, o_16])), (a0, .inr (0, [.ref m0, .ref w0])), (m0, .inr (3, [.ref m1, .int (u_237.2.2.2.1 0)])), (m1, .inl (K 0, 64, .inl (u_237.2.1 0))), (w0, .inl (K 0, 9, .inl (u_212.2.1 0))), (t0, .inr (9, [.ref t1, .ref t3, .ref t2, .ref l0, .int n, .int lt, .int nf, .int fi, k_8, k_9])), (t1, .inl (K 0, 56, .inl f1)), (t2, .inl (K 0, 6, .inl f2)), (t3, .inl (K 0, 24, .inl f3)), (l0, .inl (K 4, 6, .inr (.inr (.inr (.inr fl)))))]) [0, 6, 7, 8, 9, 3, 4, 5, 1, 2] rfl
            have hD9 := hD.sub (ws' := [(o0, .inr (11, [.ref t0, o_1, o_2, o_3, o_4, o_5, o_6, o_7, .ref a0, o_9, o_10, o_11, o_12, o_13, o_14, o_15, o_16])), (a0, .inr (0, [.ref m0, .ref w0])), (m0, .inr (3, [.ref m1, .int (u_237.2.2.2.1 0)])), (m1, .inl (K 0, 64, .inl (u_237.2.1 0))), (w0, .inl (K 0, 9, .inl (u_212.2.1 0))), (t0, .inr (9, [.ref t1, .ref t3, .ref t2, .ref l0, .int n, .int lt, .int nf, .int fi, k_8, k_9])), (t1, .inl (K 0, 56, .inl f1)), (t2, .inl (K 0, 6, .inl f2)), (t3, .inl (K 0, 24, .inl f3)), (l0, .inl (K 4, 6, .inr (.inr (.inr (.inr fl)))))]) [0, 6, 7, 8, 9, 3, 4, 5, 1, 2] (by decide +kernel) rfl
            exact W.iret (v := r_236) hx hb hr (fun t ht hW => ⟨⟨r_236, ((fun _ => 0, fun i => match i with | 0 => (u_237.2.1 0) | _ => (u_212.2.1 0), fun _ => fun _ => 0, fun i => match i with | _ => (u_237.2.2.2.1 0), fun _ => 0, fun _ => fun _ => none) : Su), rfl, ⟨(show 0 ≤ ((u_237.2.2.2.1 0) : Int32).toInt ∧ ((u_237.2.2.2.1 0) : Int32).toInt ≤ 1 by omega), hE.symm, trivial⟩, (⟨by rw [ht]; exact hP9, hD9⟩ : Wd D A _ t)⟩, hS.F ht⟩) hS.2.2 dX11_of_135
        · replace hE := (((hE).trans (if_neg (by first | omega | (rw [rfl]; omega)))).trans (if_neg (by first | omega | (rw [rfl]; omega)))).trans (if_pos (by first | omega | (rw [rfl]; omega)))
          refine lv_tableIn (tgt := 136) hx hb dX11_of_79 (by omega) (by omega) (by rw [w_214]; rfl) (by decide +kernel) ?_
          refine lv_aload_n hx hb dX11_of_136 rfl (lv_at hl 0 rfl) ?_
          refine va_get (ci := 11) (v := .ref a0) (C := RX11) (T := TX11) (N := 17) hx hb hts hw11 hown hK hP 0 rfl rfl 8 (by decide +kernel) (hts _ mm_X11_of_342) (fun _ h9 => h9) rfl dX11_of_137 ?_
          refine lv_aload_n hx hb dX11_of_140 rfl (lv_at hl 0 rfl) ?_
          refine va_get (ci := 11) (v := .ref t0) (C := RX11) (T := TX11) (N := 17) hx hb hts hw11 hown hK hP 0 rfl rfl 0 (by decide +kernel) (hts _ mm_X11_of_334) (fun _ h9 => h9) rfl dX11_of_141 ?_
          refine pcq (va_runVN (As := []) (rest := [.ref a0]) ⟨hx, hb, hml, hown, hts⟩ (w_lawInForce l D K g L G t0 (.ref t1) (.ref t3) (.ref t2) l0 (.int n) lt nf (.int fi) k_8 k_9 fl H.size (by first | omega | decide) zfl) ⟨va_cnB 0 hts gX11_of_X9_lawInForce_n138 rfl rfl rfl (nst_at hN 24 rfl) (hts _ mm_X11_of_145) (by decide +kernel) ⟨Nat.le_of_ble_eq_true rfl, Nat.le_of_ble_eq_true rfl⟩, (hts _ mm_X11_of_406), (hts _ mm_X11_of_11)⟩ (mkVY hK hN (hP.sub [7, 4] rfl) (hD.sub [7, 4] (by decide +kernel) rfl) (ci := 9) (q0 := 0) rfl rfl (fun U hU hW => ⟨Gl.at hG hS hW hU (fun _ h9 => h9.elim), Pool.at hPl hS hU (fun _ h9 => h9.elim), Ro.heap hU (Ro.nil)⟩)) rfl rfl hl.1 rfl (lv_room (Nat.le_of_ble_eq_true rfl)) dX11_of_144 ⟨Nat.le_of_ble_eq_true rfl, Nat.le_of_ble_eq_true rfl⟩) (fun r_241 hw => ?_)
          obtain ⟨hw, k_243⟩ := hw
          have hr_241 : InLo L r_241 := hw
          replace hE := hE.trans (Lt_in k_243)
          refine lv_iconst (v := 3) hx hb dX11_of_147 (by decide +kernel) ?_
          rcases r_241 with _ | q_244
          · replace hE := hE.trans Oc_n
            have hl : lv_has ls 3 [(0, .ref o0), (1, .int x), (2, .int y)] := hl
            refine W.eq (g2 := F0 m 148 ls [.int 3, .null, .ref a0]) rfl ?_
            refine kci (S := Su) (wr := [(o0, .inr (11, [.ref t0, o_1, o_2, o_3, o_4, o_5, o_6, o_7, .ref a0, o_9, o_10, o_11, o_12, o_13, o_14, o_15, o_16])), (t3, .inl (K 0, 24, .inl f3)), (l0, .inl (K 4, 6, .inr (.inr (.inr (.inr fl))))), (t0, .inr (9, [.ref t1, .ref t3, .ref t2, .ref l0, .int n, .int lt, .int nf, .int fi, k_8, k_9])), (t1, .inl (K 0, 56, .inl f1)), (t2, .inl (K 0, 6, .inl f2))]) (va_runVN (As := [.null, .int 3]) (rest := []) ⟨hx, hb, hml, hown, hts⟩ (w_told_n l D K g L G a0 3 m0 w0 m1 br fs (u_212.2.1 0) H.size (by first | omega | decide) (by first | omega | decide)) ⟨va_cnB 2 hts gX11_of_X0_told_n142 rfl rfl rfl (nst_at hN 25 rfl) (hts _ mm_X11_of_151) (by decide +kernel) ⟨Nat.le_of_ble_eq_true rfl, Nat.le_of_ble_eq_true rfl⟩, (hts _ mm_X11_of_411), (hts _ mm_X11_of_13)⟩ (mkVY hK hN (hP.sub [5, 1, 2, 6] rfl) (hD.sub [5, 1, 2, 6] (by decide +kernel) rfl) (ci := 0) (q0 := 0) rfl rfl (fun U hU hW => ⟨Gl.at hG hS hW hU (fun q h => va_free hD hS hA [5, 1, 2, 6] rfl q h), Pool.at hPl hS hU (fun q h => va_free hD hS hA [5, 1, 2, 6] rfl q h), Ro.heap hU (Ro.nil)⟩)) rfl rfl hl.1 rfl (lv_room (Nat.le_of_ble_eq_true rfl)) dX11_of_148 ⟨Nat.le_of_ble_eq_true rfl, Nat.le_of_ble_eq_true rfl⟩) hP hD hS hA [5, 1, 2, 6] [0, 3, 4, 7, 8, 9] rfl rfl (by decide +kernel) (by decide +kernel) (fun r_245 u_246 H locs hw hP0 hD0 hS0 => ?_)
            clear hP hD hS
            have hP := hP0
            have hD := hD0
            have hS := hS0
            clear hP0 hD0 hS0
            replace hP : va_P D vwCl [(o0, .inr (11, [.ref t0, o_1, o_2, o_3, o_4, o_5, o_6, o_7, .ref a0, o_9, o_10, o_11, o_12, o_13, o_14, o_15, o_16])), (t3, .inl (K 0, 24, .inl f3)), (l0, .inl (K 4, 6, .inr (.inr (.inr (.inr fl))))), (t0, .inr (9, [.ref t1, .ref t3, .ref t2, .ref l0, .int n, .int lt, .int nf, .int fi, k_8, k_9])), (t1, .inl (K 0, 56, .inl f1)), (t2, .inl (K 0, 6, .inl f2)), (a0, .inr (0, [.ref m0, .ref w0])), (m0, .inr (3, [.ref m1, .int br])), (m1, .inl (K 0, 64, .inl fs)), (w0, .inl (K 0, 9, .inl (u_212.2.1 0)))] H := hP
            replace hD : va_D A [(o0, .inr (11, [.ref t0, o_1, o_2, o_3, o_4, o_5, o_6, o_7, .ref a0, o_9, o_10, o_11, o_12, o_13, o_14, o_15, o_16])), (t3, .inl (K 0, 24, .inl f3)), (l0, .inl (K 4, 6, .inr (.inr (.inr (.inr fl))))), (t0, .inr (9, [.ref t1, .ref t3, .ref t2, .ref l0, .int n, .int lt, .int nf, .int fi, k_8, k_9])), (t1, .inl (K 0, 56, .inl f1)), (t2, .inl (K 0, 6, .inl f2)), (a0, .inr (0, [.ref m0, .ref w0])), (m0, .inr (3, [.ref m1, .int br])), (m1, .inl (K 0, 64, .inl fs)), (w0, .inl (K 0, 9, .inl (u_212.2.1 0)))] := hD
            obtain ⟨h_248, k_247, -⟩ := hw
            replace hE := hE.trans (Lt_in k_247)
            rw [← hQ]
            have hP9 := hP.sub (ws' := [(o0, .inr (11, [.ref t0, o_1, o_2, o_3, o_4, o_5, o_6, o_7, .ref a0, o_9, o_10, o_11, o_12, o_13, o_14, o_15, o_16])), (a0, .inr (0, [.ref m0, .ref w0])), (m0, .inr (3, [.ref m1, .int br])), (m1, .inl (K 0, 64, .inl fs)), (w0, .inl (K 0, 9, .inl (u_212.2.1 0))), (t0, .inr (9, [.ref t1, .ref t3, .ref t2, .ref l0, .int n, .int lt, .int nf, .int fi, k_8, k_9])), (t1, .inl (K 0, 56, .inl f1)), (t2, .inl (K 0, 6, .inl f2)), (t3, .inl (K 0, 24, .inl f3)), (l0, .inl (K 4, 6, .inr (.inr (.inr (.inr fl)))))]) [0, 6, 7, 8, 9, 3, 4, 5, 1, 2] rfl
            have hD9 := hD.sub (ws' := [(o0, .inr (11, [.ref t0, o_1, o_2, o_3, o_4, o_5, o_6, o_7, .ref a0, o_9, o_10, o_11, o_12, o_13, o_14, o_15, o_16])), (a0, .inr (0, [.ref m0, .ref w0])), (m0, .inr (3, [.ref m1, .int br])), (m1, .inl (K 0, 64, .inl fs)), (w0, .inl (K 0, 9, .inl (u_212.2.1 0))), (t0, .inr (9, [.ref t1, .ref t3, .ref t2, .ref l0, .int n, .int lt, .int nf, .int fi, k_8, k_9])), (t1, .inl (K 0, 56, .inl f1)), (t2, .inl (K 0, 6, .inl f2)), (t3, .inl (K 0, 24, .inl f3)), (l0, .inl (K 4, 6, .inr (.inr (.inr (.inr fl)))))]) [0, 6, 7, 8, 9, 3, 4, 5, 1, 2] (by decide +kernel) rfl
            exact W.iret (v := r_245) hx hb hr (fun t ht hW => ⟨⟨r_245, ((fun _ => 0, fun i => match i with | 0 => fs | _ => (u_212.2.1 0), fun _ => fun _ => 0, fun i => match i with | _ => br, fun _ => 0, fun _ => fun _ => none) : Su), rfl, ⟨(show 0 ≤ (br : Int32).toInt ∧ (br : Int32).toInt ≤ 1 by omega), hE.symm, trivial⟩, (⟨by rw [ht]; exact hP9, hD9⟩ : Wd D A _ t)⟩, hS.F ht⟩) hS.2.2 dX11_of_151
          · replace hE := hE.trans Oc_s
            have hl : lv_has ls 3 [(0, .ref o0), (1, .int x), (2, .int y)] := hl
            refine W.eq (g2 := F0 m 148 ls [.int 3, .ref q_244, .ref a0]) rfl ?_
            refine kci (S := Su) (wr := [(o0, .inr (11, [.ref t0, o_1, o_2, o_3, o_4, o_5, o_6, o_7, .ref a0, o_9, o_10, o_11, o_12, o_13, o_14, o_15, o_16])), (t3, .inl (K 0, 24, .inl f3)), (l0, .inl (K 4, 6, .inr (.inr (.inr (.inr fl))))), (t0, .inr (9, [.ref t1, .ref t3, .ref t2, .ref l0, .int n, .int lt, .int nf, .int fi, k_8, k_9])), (t1, .inl (K 0, 56, .inl f1)), (t2, .inl (K 0, 6, .inl f2))]) (va_runVN (As := [.ref q_244, .int 3]) (rest := []) ⟨hx, hb, hml, hown, hts⟩ (w_told l D K g L G a0 q_244 3 m0 w0 m1 br fs (u_212.2.1 0) H.size hr_241 (by first | omega | decide) (by first | omega | decide)) ⟨va_cnB 2 hts gX11_of_X0_told_n142 rfl rfl rfl (nst_at hN 25 rfl) (hts _ mm_X11_of_151) (by decide +kernel) ⟨Nat.le_of_ble_eq_true rfl, Nat.le_of_ble_eq_true rfl⟩, (hts _ mm_X11_of_411), (hts _ mm_X11_of_13)⟩ (mkVY hK hN (hP.sub [5, 1, 2, 6] rfl) (hD.sub [5, 1, 2, 6] (by decide +kernel) rfl) (ci := 0) (q0 := 0) rfl rfl (fun U hU hW => ⟨Gl.at hG hS hW hU (fun q h => va_free hD hS hA [5, 1, 2, 6] rfl q h), Pool.at hPl hS hU (fun q h => va_free hD hS hA [5, 1, 2, 6] rfl q h), Ro.heap hU (Ro.nil)⟩)) rfl rfl hl.1 rfl (lv_room (Nat.le_of_ble_eq_true rfl)) dX11_of_148 ⟨Nat.le_of_ble_eq_true rfl, Nat.le_of_ble_eq_true rfl⟩) hP hD hS hA [5, 1, 2, 6] [0, 3, 4, 7, 8, 9] rfl rfl (by decide +kernel) (by decide +kernel) (fun r_249 u_250 H locs hw hP0 hD0 hS0 => ?_)
            clear hP hD hS
            have hP := hP0
            have hD := hD0
            have hS := hS0
            clear hP0 hD0 hS0
            replace hP : va_P D vwCl [(o0, .inr (11, [.ref t0, o_1, o_2, o_3, o_4, o_5, o_6, o_7, .ref a0, o_9, o_10, o_11, o_12, o_13, o_14, o_15, o_16])), (t3, .inl (K 0, 24, .inl f3)), (l0, .inl (K 4, 6, .inr (.inr (.inr (.inr fl))))), (t0, .inr (9, [.ref t1, .ref t3, .ref t2, .ref l0, .int n, .int lt, .int nf, .int fi, k_8, k_9])), (t1, .inl (K 0, 56, .inl f1)), (t2, .inl (K 0, 6, .inl f2)), (a0, .inr (0, [.ref m0, .ref w0])), (m0, .inr (3, [.ref m1, .int (u_250.2.2.2.1 0)])), (m1, .inl (K 0, 64, .inl (u_250.2.1 0))), (w0, .inl (K 0, 9, .inl (u_212.2.1 0)))] H := hP
            replace hD : va_D A [(o0, .inr (11, [.ref t0, o_1, o_2, o_3, o_4, o_5, o_6, o_7, .ref a0, o_9, o_10, o_11, o_12, o_13, o_14, o_15, o_16])), (t3, .inl (K 0, 24, .inl f3)), (l0, .inl (K 4, 6, .inr (.inr (.inr (.inr fl))))), (t0, .inr (9, [.ref t1, .ref t3, .ref t2, .ref l0, .int n, .int lt, .int nf, .int fi, k_8, k_9])), (t1, .inl (K 0, 56, .inl f1)), (t2, .inl (K 0, 6, .inl f2)), (a0, .inr (0, [.ref m0, .ref w0])), (m0, .inr (3, [.ref m1, .int (u_250.2.2.2.1 0)])), (m1, .inl (K 0, 64, .inl (u_250.2.1 0))), (w0, .inl (K 0, 9, .inl (u_212.2.1 0)))] := hD
            obtain ⟨h_253, k_251, k_252, -⟩ := hw
            replace hE := (hE.trans (Lt2_in k_252)).trans (Lt2_in rfl)
            rw [← hQ]
            have hP9 := hP.sub (ws' := [(o0, .inr (11, [.ref t0, o_1, o_2, o_3, o_4, o_5, o_6, o_7, .ref a0, o_9, o_10, o_11, o_12, o_13, o_14, o_15, o_16])), (a0, .inr (0, [.ref m0, .ref w0])), (m0, .inr (3, [.ref m1, .int (u_250.2.2.2.1 0)])), (m1, .inl (K 0, 64, .inl (u_250.2.1 0))), (w0, .inl (K 0, 9, .inl (u_212.2.1 0))), (t0, .inr (9, [.ref t1, .ref t3, .ref t2, .ref l0, .int n, .int lt, .int nf, .int fi, k_8, k_9])), (t1, .inl (K 0, 56, .inl f1)), (t2, .inl (K 0, 6, .inl f2)), (t3, .inl (K 0, 24, .inl f3)), (l0, .inl (K 4, 6, .inr (.inr (.inr (.inr fl)))))]) [0, 6, 7, 8, 9, 3, 4, 5, 1, 2] rfl
            have hD9 := hD.sub (ws' := [(o0, .inr (11, [.ref t0, o_1, o_2, o_3, o_4, o_5, o_6, o_7, .ref a0, o_9, o_10, o_11, o_12, o_13, o_14, o_15, o_16])), (a0, .inr (0, [.ref m0, .ref w0])), (m0, .inr (3, [.ref m1, .int (u_250.2.2.2.1 0)])), (m1, .inl (K 0, 64, .inl (u_250.2.1 0))), (w0, .inl (K 0, 9, .inl (u_212.2.1 0))), (t0, .inr (9, [.ref t1, .ref t3, .ref t2, .ref l0, .int n, .int lt, .int nf, .int fi, k_8, k_9])), (t1, .inl (K 0, 56, .inl f1)), (t2, .inl (K 0, 6, .inl f2)), (t3, .inl (K 0, 24, .inl f3)), (l0, .inl (K 4, 6, .inr (.inr (.inr (.inr fl)))))]) [0, 6, 7, 8, 9, 3, 4, 5, 1, 2] (by decide +kernel) rfl
            exact W.iret (v := r_249) hx hb hr (fun t ht hW => ⟨⟨r_249, ((fun _ => 0, fun i => match i with | 0 => (u_250.2.1 0) | _ => (u_212.2.1 0), fun _ => fun _ => 0, fun i => match i with | _ => (u_250.2.2.2.1 0), fun _ => 0, fun _ => fun _ => none) : Su), rfl, ⟨(show 0 ≤ ((u_250.2.2.2.1 0) : Int32).toInt ∧ ((u_250.2.2.2.1 0) : Int32).toInt ≤ 1 by omega), hE.symm, trivial⟩, (⟨by rw [ht]; exact hP9, hD9⟩ : Wd D A _ t)⟩, hS.F ht⟩) hS.2.2 dX11_of_151
        · replace hE := (((hE).trans (if_neg (by first | omega | (rw [rfl]; omega)))).trans (if_neg (by first | omega | (rw [rfl]; omega)))).trans (if_neg (by first | omega | (rw [rfl]; omega)))
          refine lv_tableOut (tgt := 152) hx hb dX11_of_79 (by omega) (by decide +kernel) ?_
          refine lv_iconst (v := (-1)) hx hb dX11_of_152 (by decide +kernel) ?_
          rw [← hQ]
          have hP9 := hP.sub (ws' := [(o0, .inr (11, [.ref t0, o_1, o_2, o_3, o_4, o_5, o_6, o_7, .ref a0, o_9, o_10, o_11, o_12, o_13, o_14, o_15, o_16])), (a0, .inr (0, [.ref m0, .ref w0])), (m0, .inr (3, [.ref m1, .int br])), (m1, .inl (K 0, 64, .inl fs)), (w0, .inl (K 0, 9, .inl (u_212.2.1 0))), (t0, .inr (9, [.ref t1, .ref t3, .ref t2, .ref l0, .int n, .int lt, .int nf, .int fi, k_8, k_9])), (t1, .inl (K 0, 56, .inl f1)), (t2, .inl (K 0, 6, .inl f2)), (t3, .inl (K 0, 24, .inl f3)), (l0, .inl (K 4, 6, .inr (.inr (.inr (.inr fl)))))]) [0, 5, 1, 2, 6, 7, 8, 9, 3, 4] rfl
          have hD9 := hD.sub (ws' := [(o0, .inr (11, [.ref t0, o_1, o_2, o_3, o_4, o_5, o_6, o_7, .ref a0, o_9, o_10, o_11, o_12, o_13, o_14, o_15, o_16])), (a0, .inr (0, [.ref m0, .ref w0])), (m0, .inr (3, [.ref m1, .int br])), (m1, .inl (K 0, 64, .inl fs)), (w0, .inl (K 0, 9, .inl (u_212.2.1 0))), (t0, .inr (9, [.ref t1, .ref t3, .ref t2, .ref l0, .int n, .int lt, .int nf, .int fi, k_8, k_9])), (t1, .inl (K 0, 56, .inl f1)), (t2, .inl (K 0, 6, .inl f2)), (t3, .inl (K 0, 24, .inl f3)), (l0, .inl (K 4, 6, .inr (.inr (.inr (.inr fl)))))]) [0, 5, 1, 2, 6, 7, 8, 9, 3, 4] (by decide +kernel) rfl
          exact W.iret (v := (-1)) hx hb hr (fun t ht hW => ⟨⟨(-1), ((fun _ => 0, fun i => match i with | 0 => fs | _ => (u_212.2.1 0), fun _ => fun _ => 0, fun i => match i with | _ => br, fun _ => 0, fun _ => fun _ => none) : Su), rfl, ⟨(show 0 ≤ (br : Int32).toInt ∧ (br : Int32).toInt ≤ 1 by omega), hE.symm, trivial⟩, (⟨by rw [ht]; exact hP9, hD9⟩ : Wd D A _ t)⟩, hS.F ht⟩) hS.2.2 dX11_of_153
      · have c_208i := i_eq (x := y.toInt) (y := 7) rfl rfl c_208
        replace hE := hE.trans (if_pos c_208)
        refine lv_aload_n hx hb dX11_of_39 rfl (lv_at hl 0 rfl) ?_
        refine va_get (ci := 11) (v := .ref t0) (C := RX11) (T := TX11) (N := 17) hx hb hts hw11 hown hK hP 0 rfl rfl 0 (by decide +kernel) (hts _ mm_X11_of_334) (fun _ h9 => h9) rfl dX11_of_40 ?_
        refine lv_iload_n hx hb dX11_of_43 rfl (lv_at hl 1 rfl) ?_
        refine pci (va_runVN (As := [.int x]) (rest := []) ⟨hx, hb, hml, hown, hts⟩ (w_sings l D K t0 x t1 (.ref t3) t2 (.ref l0) (.int n) (.int lt) (.int nf) (.int fi) k_8 k_9 f1 f2 s.heap.size) ⟨va_cnB 1 hts gX11_of_X9_sings_n129 rfl rfl rfl (nst_at hN 21 rfl) (hts _ mm_X11_of_145) (by decide +kernel) ⟨Nat.le_of_ble_eq_true rfl, Nat.le_of_ble_eq_true rfl⟩, (hts _ mm_X11_of_399), (hts _ mm_X11_of_8)⟩ (mkV hK hN (hP.sub [5, 6, 7] rfl) (hD.sub [5, 6, 7] (by decide +kernel) rfl) (ci := 9) (q0 := 0) rfl rfl) rfl rfl hl.1 rfl (lv_room (Nat.le_of_ble_eq_true rfl)) dX11_of_44 ⟨Nat.le_of_ble_eq_true rfl, Nat.le_of_ble_eq_true rfl⟩) (fun r_254 hw => ?_)
        obtain ⟨h_256, k_255, -⟩ := hw
        replace hE := hE.trans (Lt_in k_255)
        refine lv_if_eq (tgt := 54) hx hb dX11_of_47 (by decide +kernel) (fun c_257 => ?_) (fun c_257 => ?_)
        · have c_257i := i_eq (x := r_254.toInt) (y := 0) rfl rfl c_257
          replace hE := hE.trans (if_pos c_257)
          refine lv_iconst (v := 0) hx hb dX11_of_54 (by decide +kernel) ?_
          rw [← hQ]
          have hP9 := hP.sub (ws' := [(o0, .inr (11, [.ref t0, o_1, o_2, o_3, o_4, o_5, o_6, o_7, .ref a0, o_9, o_10, o_11, o_12, o_13, o_14, o_15, o_16])), (a0, .inr (0, [.ref m0, .ref w0])), (m0, .inr (3, [.ref m1, .int br])), (m1, .inl (K 0, 64, .inl fs)), (w0, .inl (K 0, 9, .inl fw)), (t0, .inr (9, [.ref t1, .ref t3, .ref t2, .ref l0, .int n, .int lt, .int nf, .int fi, k_8, k_9])), (t1, .inl (K 0, 56, .inl f1)), (t2, .inl (K 0, 6, .inl f2)), (t3, .inl (K 0, 24, .inl f3)), (l0, .inl (K 4, 6, .inr (.inr (.inr (.inr fl)))))]) [0, 1, 2, 3, 4, 5, 6, 7, 8, 9] rfl
          have hD9 := hD.sub (ws' := [(o0, .inr (11, [.ref t0, o_1, o_2, o_3, o_4, o_5, o_6, o_7, .ref a0, o_9, o_10, o_11, o_12, o_13, o_14, o_15, o_16])), (a0, .inr (0, [.ref m0, .ref w0])), (m0, .inr (3, [.ref m1, .int br])), (m1, .inl (K 0, 64, .inl fs)), (w0, .inl (K 0, 9, .inl fw)), (t0, .inr (9, [.ref t1, .ref t3, .ref t2, .ref l0, .int n, .int lt, .int nf, .int fi, k_8, k_9])), (t1, .inl (K 0, 56, .inl f1)), (t2, .inl (K 0, 6, .inl f2)), (t3, .inl (K 0, 24, .inl f3)), (l0, .inl (K 4, 6, .inr (.inr (.inr (.inr fl)))))]) [0, 1, 2, 3, 4, 5, 6, 7, 8, 9] (by decide +kernel) rfl
          exact W.iret (v := 0) hx hb hr (fun t ht hW => ⟨⟨0, ((fun _ => 0, fun i => match i with | 0 => fs | _ => fw, fun _ => fun _ => 0, fun i => match i with | _ => br, fun _ => 0, fun _ => fun _ => none) : Su), rfl, ⟨(show 0 ≤ (br : Int32).toInt ∧ (br : Int32).toInt ≤ 1 by omega), hE.symm, trivial⟩, (⟨by rw [ht]; exact hP9, hD9⟩ : Wd D A _ t)⟩, hS.F ht⟩) hS.2.2 dX11_of_55
        · have c_257i := i_ne (x := r_254.toInt) (y := 0) rfl rfl c_257
          replace hE := hE.trans (if_neg c_257)
          refine lv_iconst (v := 1) hx hb dX11_of_50 (by decide +kernel) ?_
          refine lv_goto (tgt := 55) hx hb dX11_of_51 (by decide +kernel) ?_
          rw [← hQ]
          have hP9 := hP.sub (ws' := [(o0, .inr (11, [.ref t0, o_1, o_2, o_3, o_4, o_5, o_6, o_7, .ref a0, o_9, o_10, o_11, o_12, o_13, o_14, o_15, o_16])), (a0, .inr (0, [.ref m0, .ref w0])), (m0, .inr (3, [.ref m1, .int br])), (m1, .inl (K 0, 64, .inl fs)), (w0, .inl (K 0, 9, .inl fw)), (t0, .inr (9, [.ref t1, .ref t3, .ref t2, .ref l0, .int n, .int lt, .int nf, .int fi, k_8, k_9])), (t1, .inl (K 0, 56, .inl f1)), (t2, .inl (K 0, 6, .inl f2)), (t3, .inl (K 0, 24, .inl f3)), (l0, .inl (K 4, 6, .inr (.inr (.inr (.inr fl)))))]) [0, 1, 2, 3, 4, 5, 6, 7, 8, 9] rfl
          have hD9 := hD.sub (ws' := [(o0, .inr (11, [.ref t0, o_1, o_2, o_3, o_4, o_5, o_6, o_7, .ref a0, o_9, o_10, o_11, o_12, o_13, o_14, o_15, o_16])), (a0, .inr (0, [.ref m0, .ref w0])), (m0, .inr (3, [.ref m1, .int br])), (m1, .inl (K 0, 64, .inl fs)), (w0, .inl (K 0, 9, .inl fw)), (t0, .inr (9, [.ref t1, .ref t3, .ref t2, .ref l0, .int n, .int lt, .int nf, .int fi, k_8, k_9])), (t1, .inl (K 0, 56, .inl f1)), (t2, .inl (K 0, 6, .inl f2)), (t3, .inl (K 0, 24, .inl f3)), (l0, .inl (K 4, 6, .inr (.inr (.inr (.inr fl)))))]) [0, 1, 2, 3, 4, 5, 6, 7, 8, 9] (by decide +kernel) rfl
          exact W.iret (v := 1) hx hb hr (fun t ht hW => ⟨⟨1, ((fun _ => 0, fun i => match i with | 0 => fs | _ => fw, fun _ => fun _ => 0, fun i => match i with | _ => br, fun _ => 0, fun _ => fun _ => none) : Su), rfl, ⟨(show 0 ≤ (br : Int32).toInt ∧ (br : Int32).toInt ≤ 1 by omega), hE.symm, trivial⟩, (⟨by rw [ht]; exact hP9, hD9⟩ : Wd D A _ t)⟩, hS.F ht⟩) hS.2.2 dX11_of_55
  · replace hE := (hE).trans (if_neg (by first | decide | (intro h9; have h8 := congrArg Int32.toInt h9; omega)))
    refine lv_if_ne (tgt := 13) hx hb dX11_of_8 (by decide +kernel) (fun c_258 => absurd (by decide +kernel) c_258) (fun c_258 => ?_)
    refine lv_iconst (v := (-1)) hx hb dX11_of_11 (by decide +kernel) ?_
    rw [← hQ]
    have hP9 := hP.sub (ws' := [(o0, .inr (11, [.ref t0, o_1, o_2, o_3, o_4, o_5, o_6, o_7, .ref a0, o_9, o_10, o_11, o_12, o_13, o_14, o_15, o_16])), (a0, .inr (0, [.ref m0, .ref w0])), (m0, .inr (3, [.ref m1, .int br])), (m1, .inl (K 0, 64, .inl fs)), (w0, .inl (K 0, 9, .inl fw)), (t0, .inr (9, [.ref t1, .ref t3, .ref t2, .ref l0, .int n, .int lt, .int nf, .int fi, k_8, k_9])), (t1, .inl (K 0, 56, .inl f1)), (t2, .inl (K 0, 6, .inl f2)), (t3, .inl (K 0, 24, .inl f3)), (l0, .inl (K 4, 6, .inr (.inr (.inr (.inr fl)))))]) [0, 1, 2, 3, 4, 5, 6, 7, 8, 9] rfl
    have hD9 := hD.sub (ws' := [(o0, .inr (11, [.ref t0, o_1, o_2, o_3, o_4, o_5, o_6, o_7, .ref a0, o_9, o_10, o_11, o_12, o_13, o_14, o_15, o_16])), (a0, .inr (0, [.ref m0, .ref w0])), (m0, .inr (3, [.ref m1, .int br])), (m1, .inl (K 0, 64, .inl fs)), (w0, .inl (K 0, 9, .inl fw)), (t0, .inr (9, [.ref t1, .ref t3, .ref t2, .ref l0, .int n, .int lt, .int nf, .int fi, k_8, k_9])), (t1, .inl (K 0, 56, .inl f1)), (t2, .inl (K 0, 6, .inl f2)), (t3, .inl (K 0, 24, .inl f3)), (l0, .inl (K 4, 6, .inr (.inr (.inr (.inr fl)))))]) [0, 1, 2, 3, 4, 5, 6, 7, 8, 9] (by decide +kernel) rfl
    exact W.iret (v := (-1)) hx hb hr (fun t ht hW => ⟨⟨(-1), ((fun _ => 0, fun i => match i with | 0 => fs | _ => fw, fun _ => fun _ => 0, fun i => match i with | _ => br, fun _ => 0, fun _ => fun _ => none) : Su), rfl, ⟨(show 0 ≤ (br : Int32).toInt ∧ (br : Int32).toInt ≤ 1 by omega), hE.symm, trivial⟩, (⟨by rw [ht]; exact hP9, hD9⟩ : Wd D A _ t)⟩, hS.F ht⟩) hS.2.2 dX11_of_12
set_option maxRecDepth 100000 in
noncomputable def E_w_score_j20 (rb : Int32) (frf : Nat → Int32) (f3 : Nat → Int32) : Int32 × Int32 × (Nat → Int32) × (Nat → Int32) :=
  Lt2 (E_w_refuse (-1) rb frf) (fun r_179 u_180_2_1_0 => ((r_179, (-1), u_180_2_1_0, f3) : Int32 × Int32 × (Nat → Int32) × (Nat → Int32)))
set_option maxRecDepth 100000 in
noncomputable def E_w_score (x : Int32) (y : Int32) (rb : Int32) (frf : Nat → Int32) (f3 : Nat → Int32) : Int32 × Int32 × (Nat → Int32) × (Nat → Int32) :=
  Lt (E_w_within x 0 23) (fun r_182 => if r_182 = 1 then (Lt (E_w_within y 0 127) (fun r_188 => if r_188 = 1 then (Lt (E_w_chordAt x f3) (fun r_194 => Lt (upd f3 (x : Int32).toNatClampNeg y : Nat → Int32) (fun f_196 => Lt (E_w_accept r_194 rb) (fun r_197 => ((r_197, 0, frf, f_196) : Int32 × Int32 × (Nat → Int32) × (Nat → Int32)))))) else (E_w_score_j20 rb frf f3))) else (E_w_score_j20 rb frf f3))
set_option maxHeartbeats 4000000 in
set_option maxRecDepth 100000 in
theorem w_score (l : Launch) (D : va_G) (K : Nat → ClassId) (o0 : Nat) (x : Int32) (y : Int32) (t0 : Nat) (o_1 : Value) (o_2 : Value) (o_3 : Value) (o_4 : Value) (o_5 : Value) (o_6 : Value) (o_7 : Value) (o_8 : Value) (o_9 : Value) (o_10 : Value) (o_11 : Value) (rf : Nat) (rb : Int32) (o_14 : Value) (o_15 : Value) (o_16 : Value) (frf : Nat → Int32) (k_0 : Value) (t3 : Nat) (k_2 : Value) (k_3 : Value) (k_4 : Value) (k_5 : Value) (k_6 : Value) (k_7 : Value) (k_8 : Value) (k_9 : Value) (f3 : Nat → Int32) (sz : Nat) : Met l yX11_score wsX11_score ({ frames := 2, cells := 0, slots := 0, locals := 44 }) (va_Pc [.ref o0, .int x, .int y] (Pre D K [(o0, .inr (11, [.ref t0, o_1, o_2, o_3, o_4, o_5, o_6, o_7, o_8, o_9, o_10, o_11, .ref rf, .int rb, o_14, o_15, o_16])), (rf, .inl (K 0, 5, .inl frf)), (t0, .inr (9, [k_0, .ref t3, k_2, k_3, k_4, k_5, k_6, k_7, k_8, k_9])), (t3, .inl (K 0, 24, .inl f3))] sz)) (va_Qi (S := Su) (fun (r : Int32) (u : Su) => ((-1) ≤ (u.2.2.2.1 0).toInt ∧ (u.2.2.2.1 0).toInt ≤ 0) ∧ ((r, (u.2.2.2.1 0), (u.2.1 0), (u.2.1 1)) = E_w_score x y rb frf f3) ∧ True) (fun u t => Wd D (va_A [(o0, .inr (11, [.ref t0, o_1, o_2, o_3, o_4, o_5, o_6, o_7, o_8, o_9, o_10, o_11, .ref rf, .int rb, o_14, o_15, o_16])), (rf, .inl (K 0, 5, .inl frf)), (t0, .inr (9, [k_0, .ref t3, k_2, k_3, k_4, k_5, k_6, k_7, k_8, k_9])), (t3, .inl (K 0, 24, .inl f3))] sz) ((fun u => [(o0, .inr (11, [.ref t0, o_1, o_2, o_3, o_4, o_5, o_6, o_7, o_8, o_9, o_10, o_11, .ref rf, .int (u.2.2.2.1 0), o_14, o_15, o_16])), (rf, .inl (K 0, 5, .inl (u.2.1 0))), (t0, .inr (9, [k_0, .ref t3, k_2, k_3, k_4, k_5, k_6, k_7, k_8, k_9])), (t3, .inl (K 0, 24, .inl (u.2.1 1)))]) u) t) (va_A [(o0, .inr (11, [.ref t0, o_1, o_2, o_3, o_4, o_5, o_6, o_7, o_8, o_9, o_10, o_11, .ref rf, .int rb, o_14, o_15, o_16])), (rf, .inl (K 0, 5, .inl frf)), (t0, .inr (9, [k_0, .ref t3, k_2, k_3, k_4, k_5, k_6, k_7, k_8, k_9])), (t3, .inl (K 0, 24, .inl f3))] sz)) 0 0 (va_A [(o0, .inr (11, [.ref t0, o_1, o_2, o_3, o_4, o_5, o_6, o_7, o_8, o_9, o_10, o_11, .ref rf, .int rb, o_14, o_15, o_16])), (rf, .inl (K 0, 5, .inl frf)), (t0, .inr (9, [k_0, .ref t3, k_2, k_3, k_4, k_5, k_6, k_7, k_8, k_9])), (t3, .inl (K 0, 24, .inl f3))] sz) := by
  refine Met.ofW (cc := cX11_score) (maxL := 4) (ret := (some .int)) (by decide +kernel) rfl ?_
  intro p e s m args below meth c s₁ B hml hv
  obtain ⟨rfl, hsz, hP, hK, hD0, hN⟩ := hv
  have hx := B.exec
  have hb := B.bytes
  have hr := B.returns
  have hts := atoms_spec (ws := wsX11_score) B.pre
  have hown : s.vm.findClass RX11 = some m.cls := findClass_of_methodNamed B.named
  have hlocks := B.notSynchronized
  subst hsz
  have hD := hD0.self (sz := s.heap.size)
  generalize hAe : va_A [(o0, .inr (11, [.ref t0, o_1, o_2, o_3, o_4, o_5, o_6, o_7, o_8, o_9, o_10, o_11, .ref rf, .int rb, o_14, o_15, o_16])), (rf, .inl (K 0, 5, .inl frf)), (t0, .inr (9, [k_0, .ref t3, k_2, k_3, k_4, k_5, k_6, k_7, k_8, k_9])), (t3, .inl (K 0, 24, .inl f3))] s.heap.size = A at hD ⊢
  have hA : ∀ q : Nat, s.heap.size ≤ q → A q := fun q h => by rw [← hAe]; exact Or.inr h
  clear hAe
  have hS : va_S A s.heap s.heap [] := va_S.rf
  replace hP : va_P D vwCl [(o0, .inr (11, [.ref t0, o_1, o_2, o_3, o_4, o_5, o_6, o_7, o_8, o_9, o_10, o_11, .ref rf, .int rb, o_14, o_15, o_16])), (rf, .inl (K 0, 5, .inl frf)), (t0, .inr (9, [k_0, .ref t3, k_2, k_3, k_4, k_5, k_6, k_7, k_8, k_9])), (t3, .inl (K 0, 24, .inl f3))] s.heap := hP
  have hl := lv_entry [.ref o0, .int x, .int y] (n := 4) (Nat.le_of_ble_eq_true rfl)
  rw [lg_entry_eq]
  generalize (lg_sl [.ref o0, .int x, .int y] ++ List.replicate (4 - (lg_sl [.ref o0, .int x, .int y]).length) Slot.unset).toArray = ls at hl ⊢
  have hl : lv_has ls 4 [(0, .ref o0), (1, .int x), (2, .int y)] := hl
  have hw9 : ∀ w ∈ wsX90, w ∈ wsX11_score := fun w h => (List.mem_cons_of_mem _ (List.mem_append_right _ h))
  have hw11 : ∀ w ∈ wsX110, w ∈ wsX11_score := fun w h => (List.mem_cons_of_mem _ (List.mem_append_left _ (List.mem_append_right _ h)))
  generalize hQ : MQ below _ _ s _ _ _ = Q
  have hE := E_w_score.eq_def x y rb frf f3
  refine lv_iload_n hx hb dX11_score_0 rfl (lv_at hl 1 rfl) ?_
  refine lv_iconst (v := 0) hx hb dX11_score_1 (by decide +kernel) ?_
  refine lv_bipush (v := 23) hx hb dX11_score_2 (by decide +kernel) ?_
  have j_178 : ∀ (hE : E_w_score x y rb frf f3 = E_w_score_j20 rb frf f3) (H : Heap) (locs : List Loc) (hP : va_P D vwCl [(o0, .inr (11, [.ref t0, o_1, o_2, o_3, o_4, o_5, o_6, o_7, o_8, o_9, o_10, o_11, .ref rf, .int rb, o_14, o_15, o_16])), (rf, .inl (K 0, 5, .inl frf)), (t0, .inr (9, [k_0, .ref t3, k_2, k_3, k_4, k_5, k_6, k_7, k_8, k_9])), (t3, .inl (K 0, 24, .inl f3))] H) (hD : va_D A [(o0, .inr (11, [.ref t0, o_1, o_2, o_3, o_4, o_5, o_6, o_7, o_8, o_9, o_10, o_11, .ref rf, .int rb, o_14, o_15, o_16])), (rf, .inl (K 0, 5, .inl frf)), (t0, .inr (9, [k_0, .ref t3, k_2, k_3, k_4, k_5, k_6, k_7, k_8, k_9])), (t3, .inl (K 0, 24, .inl f3))]) (hS : va_S A s.heap H locs) (ls : Array Slot) (hl : lv_has ls 4 [(0, .ref o0)]), W p l e ({ frames := 2, cells := 0, slots := 0, locals := 44 }) s m (([.ref o0, .int x, .int y] : List Value).toArray) below meth c H locs 0 0 Q (F0 m 20 ls []) := by
    clear hE hP hD hS hl
    intro hE H locs hP hD hS ls hl
    replace hE := hE.trans (E_w_score_j20.eq_def _ _ _)
    refine lv_aload_n hx hb dX11_score_20 rfl (lv_at hl 0 rfl) ?_
    refine lv_iconst (v := (-1)) hx hb dX11_score_21 (by decide +kernel) ?_
    refine kci (S := Su) (wr := [(t0, .inr (9, [k_0, .ref t3, k_2, k_3, k_4, k_5, k_6, k_7, k_8, k_9])), (t3, .inl (K 0, 24, .inl f3))]) (va_runV (As := [.int (-1)]) (rest := []) ⟨hx, hb, hml, hown, hts⟩ (w_refuse l D K o0 (-1) (.ref t0) o_1 o_2 o_3 o_4 o_5 o_6 o_7 o_8 o_9 o_10 o_11 rf rb o_14 o_15 o_16 frf H.size) (cwV 1 hts gX11_score_X11_refuse rfl rfl rfl (by decide +kernel) ⟨Nat.le_of_ble_eq_true rfl, Nat.le_of_ble_eq_true rfl⟩) (mkV hK hN (hP.sub [0, 1] rfl) (hD.sub [0, 1] (by decide +kernel) rfl) (ci := 11) (q0 := 0) rfl rfl) rfl rfl hl.1 rfl (lv_room (Nat.le_of_ble_eq_true rfl)) dX11_score_22 ⟨Nat.le_of_ble_eq_true rfl, Nat.le_of_ble_eq_true rfl⟩) hP hD hS hA [0, 1] [2, 3] rfl rfl (by decide +kernel) (by decide +kernel) (fun r_179 u_180 H locs hw hP0 hD0 hS0 => ?_)
    clear hP hD hS
    have hP := hP0
    have hD := hD0
    have hS := hS0
    clear hP0 hD0 hS0
    replace hP : va_P D vwCl [(t0, .inr (9, [k_0, .ref t3, k_2, k_3, k_4, k_5, k_6, k_7, k_8, k_9])), (t3, .inl (K 0, 24, .inl f3)), (o0, .inr (11, [.ref t0, o_1, o_2, o_3, o_4, o_5, o_6, o_7, o_8, o_9, o_10, o_11, .ref rf, .int (-1), o_14, o_15, o_16])), (rf, .inl (K 0, 5, .inl (u_180.2.1 0)))] H := hP
    replace hD : va_D A [(t0, .inr (9, [k_0, .ref t3, k_2, k_3, k_4, k_5, k_6, k_7, k_8, k_9])), (t3, .inl (K 0, 24, .inl f3)), (o0, .inr (11, [.ref t0, o_1, o_2, o_3, o_4, o_5, o_6, o_7, o_8, o_9, o_10, o_11, .ref rf, .int (-1), o_14, o_15, o_16])), (rf, .inl (K 0, 5, .inl (u_180.2.1 0)))] := hD
    obtain ⟨k_181, -⟩ := hw
    replace hE := hE.trans (Lt2_in k_181)
    rw [← hQ]
    have hP9 := hP.sub (ws' := [(o0, .inr (11, [.ref t0, o_1, o_2, o_3, o_4, o_5, o_6, o_7, o_8, o_9, o_10, o_11, .ref rf, .int (-1), o_14, o_15, o_16])), (rf, .inl (K 0, 5, .inl (u_180.2.1 0))), (t0, .inr (9, [k_0, .ref t3, k_2, k_3, k_4, k_5, k_6, k_7, k_8, k_9])), (t3, .inl (K 0, 24, .inl f3))]) [2, 3, 0, 1] rfl
    have hD9 := hD.sub (ws' := [(o0, .inr (11, [.ref t0, o_1, o_2, o_3, o_4, o_5, o_6, o_7, o_8, o_9, o_10, o_11, .ref rf, .int (-1), o_14, o_15, o_16])), (rf, .inl (K 0, 5, .inl (u_180.2.1 0))), (t0, .inr (9, [k_0, .ref t3, k_2, k_3, k_4, k_5, k_6, k_7, k_8, k_9])), (t3, .inl (K 0, 24, .inl f3))]) [2, 3, 0, 1] (by decide +kernel) rfl
    exact W.iret (v := r_179) hx hb hr (fun t ht hW => ⟨⟨r_179, ((fun _ => 0, fun i => match i with | 0 => (u_180.2.1 0) | _ => f3, fun _ => fun _ => 0, fun i => match i with | _ => (-1), fun _ => 0, fun _ => fun _ => none) : Su), rfl, ⟨(show (-1) ≤ ((-1) : Int32).toInt ∧ ((-1) : Int32).toInt ≤ 0 by decide), hE.symm, trivial⟩, (⟨by rw [ht]; exact hP9, hD9⟩ : Wd D A _ t)⟩, hS.F ht⟩) hS.2.2 dX11_score_25
  refine pci (va_runS (As := [.int x, .int 0, .int 23]) (rest := []) ⟨hx, hb, hml, hown, hts⟩ (w_within l D K x.toInt 0 23 x 0 23 s.heap.size rfl (show (0 : Int32).toInt = 0 from rfl) (show (23 : Int32).toInt = 23 from rfl)) (va_cwS 3 hts gX11_score_X11_within rfl rfl rfl (by decide +kernel) ⟨Nat.le_of_ble_eq_true rfl, Nat.le_of_ble_eq_true rfl⟩) (mkS hK hN (va_P.nil) (va_D.nil (A := fun _ => True))) rfl rfl hl.1 rfl (lv_room (Nat.le_of_ble_eq_true rfl)) dX11_score_4 ⟨Nat.le_of_ble_eq_true rfl, Nat.le_of_ble_eq_true rfl⟩) (fun r_182 hw => ?_)
  obtain ⟨hw, k_183, -⟩ := hw
  replace hE := hE.trans (Lt_in k_183)
  rcases hw with ⟨rfl, h_184, h_185⟩ | ⟨rfl, h_186⟩
  · replace hE := (hE).trans (if_pos rfl)
    refine lv_if_eq (tgt := 20) hx hb dX11_score_7 (by decide +kernel) (fun c_187 => absurd c_187 (by decide +kernel)) (fun c_187 => ?_)
    refine lv_iload_n hx hb dX11_score_10 rfl (lv_at hl 2 rfl) ?_
    refine lv_iconst (v := 0) hx hb dX11_score_11 (by decide +kernel) ?_
    refine lv_bipush (v := 127) hx hb dX11_score_12 (by decide +kernel) ?_
    refine pci (va_runS (As := [.int y, .int 0, .int 127]) (rest := []) ⟨hx, hb, hml, hown, hts⟩ (w_within l D K y.toInt 0 127 y 0 127 s.heap.size rfl (show (0 : Int32).toInt = 0 from rfl) (show (127 : Int32).toInt = 127 from rfl)) (va_cwS 3 hts gX11_score_X11_within rfl rfl rfl (by decide +kernel) ⟨Nat.le_of_ble_eq_true rfl, Nat.le_of_ble_eq_true rfl⟩) (mkS hK hN (va_P.nil) (va_D.nil (A := fun _ => True))) rfl rfl hl.1 rfl (lv_room (Nat.le_of_ble_eq_true rfl)) dX11_score_14 ⟨Nat.le_of_ble_eq_true rfl, Nat.le_of_ble_eq_true rfl⟩) (fun r_188 hw => ?_)
    obtain ⟨hw, k_189, -⟩ := hw
    replace hE := hE.trans (Lt_in k_189)
    rcases hw with ⟨rfl, h_190, h_191⟩ | ⟨rfl, h_192⟩
    · replace hE := (hE).trans (if_pos rfl)
      refine lv_if_ne (tgt := 26) hx hb dX11_score_17 (by decide +kernel) (fun c_193 => ?_) (fun c_193 => absurd c_193 (by decide +kernel))
      refine lv_aload_n hx hb dX11_score_26 rfl (lv_at hl 0 rfl) ?_
      refine va_get (ci := 11) (v := .ref t0) (C := RX11) (T := TX11) (N := 17) hx hb hts hw11 hown hK hP 0 rfl rfl 0 (by decide +kernel) (hts _ mm_X11_score_334) (fun _ h9 => h9) rfl dX11_score_27 ?_
      refine lv_iload_n hx hb dX11_score_30 rfl (lv_at hl 1 rfl) ?_
      refine pci (va_runVN (As := [.int x]) (rest := []) ⟨hx, hb, hml, hown, hts⟩ (w_chordAt l D K t0 x k_0 t3 k_2 k_3 k_4 k_5 k_6 k_7 k_8 k_9 f3 s.heap.size) ⟨va_cnB 1 hts gX11_score_X9_chordAt_n146 rfl rfl rfl (nst_at hN 28 rfl) (hts _ mm_X11_score_145) (by decide +kernel) ⟨Nat.le_of_ble_eq_true rfl, Nat.le_of_ble_eq_true rfl⟩, (hts _ mm_X11_score_433), (hts _ mm_X11_score_17)⟩ (mkV hK hN (hP.sub [2, 3] rfl) (hD.sub [2, 3] (by decide +kernel) rfl) (ci := 9) (q0 := 0) rfl rfl) rfl rfl hl.1 rfl (lv_room (Nat.le_of_ble_eq_true rfl)) dX11_score_31 ⟨Nat.le_of_ble_eq_true rfl, Nat.le_of_ble_eq_true rfl⟩) (fun r_194 hw => ?_)
      obtain ⟨k_195, -⟩ := hw
      replace hE := hE.trans (Lt_in k_195)
      refine lv_istore_n (lv' := [(3, .int r_194), (0, .ref o0), (1, .int x), (2, .int y)]) hx hb dX11_score_34 rfl hl (by decide +kernel) rfl (fun ls hl => ?_)
      refine lv_aload_n hx hb dX11_score_35 rfl (lv_at hl 1 rfl) ?_
      refine va_get (ci := 11) (v := .ref t0) (C := RX11) (T := TX11) (N := 17) hx hb hts hw11 hown hK hP 0 rfl rfl 0 (by decide +kernel) (hts _ mm_X11_score_334) (fun _ h9 => h9) rfl dX11_score_36 ?_
      refine va_getN (ci := 9) (v := .ref t3) (C := RX9) (T := TX9) (N := 10) hx hb hts hw9 hown hK hP 2 rfl rfl 1 (by decide +kernel) (nst_use hN 98 rfl) (fun _ h9 => h9) rfl dX11_score_39 ?_
      refine lv_iload_n hx hb dX11_score_42 rfl (lv_at hl 2 rfl) ?_
      refine lv_iload_n hx hb dX11_score_43 rfl (lv_at hl 3 rfl) ?_
      refine va_iast hx hb hK hP hD hS 3 0 rfl rfl (i_in rfl (by omega)) dX11_score_44 (fun H locs hP0 hD0 hS0 => ?_)
      clear hP hD hS
      have hP := hP0
      have hD := hD0
      have hS := hS0
      clear hP0 hD0 hS0
      generalize hf_196 : (upd f3 (x : Int32).toNatClampNeg y) = f_196 at hP hD
      replace hE := hE.trans (Lt_in hf_196.symm)
      replace hP : va_P D vwCl [(o0, .inr (11, [.ref t0, o_1, o_2, o_3, o_4, o_5, o_6, o_7, o_8, o_9, o_10, o_11, .ref rf, .int rb, o_14, o_15, o_16])), (rf, .inl (K 0, 5, .inl frf)), (t0, .inr (9, [k_0, .ref t3, k_2, k_3, k_4, k_5, k_6, k_7, k_8, k_9])), (t3, .inl (K 0, 24, .inl f_196))] H := hP
      replace hD : va_D A [(o0, .inr (11, [.ref t0, o_1, o_2, o_3, o_4, o_5, o_6, o_7, o_8, o_9, o_10, o_11, .ref rf, .int rb, o_14, o_15, o_16])), (rf, .inl (K 0, 5, .inl frf)), (t0, .inr (9, [k_0, .ref t3, k_2, k_3, k_4, k_5, k_6, k_7, k_8, k_9])), (t3, .inl (K 0, 24, .inl f_196))] := hD
      refine lv_aload_n hx hb dX11_score_45 rfl (lv_at hl 1 rfl) ?_
      refine lv_iload_n hx hb dX11_score_46 rfl (lv_at hl 0 rfl) ?_
      refine kci (S := Su) (wr := [(rf, .inl (K 0, 5, .inl frf)), (t0, .inr (9, [k_0, .ref t3, k_2, k_3, k_4, k_5, k_6, k_7, k_8, k_9])), (t3, .inl (K 0, 24, .inl f_196))]) (va_runV (As := [.int r_194]) (rest := []) ⟨hx, hb, hml, hown, hts⟩ (w_accept l D K o0 r_194 (.ref t0) o_1 o_2 o_3 o_4 o_5 o_6 o_7 o_8 o_9 o_10 o_11 (.ref rf) rb o_14 o_15 o_16 H.size) (cwV 1 hts gX11_score_X11_accept rfl rfl rfl (by decide +kernel) ⟨Nat.le_of_ble_eq_true rfl, Nat.le_of_ble_eq_true rfl⟩) (mkV hK hN (hP.sub [0] rfl) (hD.sub [0] (by decide +kernel) rfl) (ci := 11) (q0 := 0) rfl rfl) rfl rfl hl.1 rfl (lv_room (Nat.le_of_ble_eq_true rfl)) dX11_score_47 ⟨Nat.le_of_ble_eq_true rfl, Nat.le_of_ble_eq_true rfl⟩) hP hD hS hA [0] [1, 2, 3] rfl rfl (by decide +kernel) (by decide +kernel) (fun r_197 u_198 H locs hw hP0 hD0 hS0 => ?_)
      clear hP hD hS
      have hP := hP0
      have hD := hD0
      have hS := hS0
      clear hP0 hD0 hS0
      replace hP : va_P D vwCl [(rf, .inl (K 0, 5, .inl frf)), (t0, .inr (9, [k_0, .ref t3, k_2, k_3, k_4, k_5, k_6, k_7, k_8, k_9])), (t3, .inl (K 0, 24, .inl f_196)), (o0, .inr (11, [.ref t0, o_1, o_2, o_3, o_4, o_5, o_6, o_7, o_8, o_9, o_10, o_11, .ref rf, .int 0, o_14, o_15, o_16]))] H := hP
      replace hD : va_D A [(rf, .inl (K 0, 5, .inl frf)), (t0, .inr (9, [k_0, .ref t3, k_2, k_3, k_4, k_5, k_6, k_7, k_8, k_9])), (t3, .inl (K 0, 24, .inl f_196)), (o0, .inr (11, [.ref t0, o_1, o_2, o_3, o_4, o_5, o_6, o_7, o_8, o_9, o_10, o_11, .ref rf, .int 0, o_14, o_15, o_16]))] := hD
      obtain ⟨hw, k_199, -⟩ := hw
      replace hE := hE.trans (Lt_in k_199)
      have er_r_197 := hw
      have hr_r_197 : r_197.toInt = r_194.toInt := (congrArg Int32.toInt er_r_197).trans rfl
      rw [← hQ]
      have hP9 := hP.sub (ws' := [(o0, .inr (11, [.ref t0, o_1, o_2, o_3, o_4, o_5, o_6, o_7, o_8, o_9, o_10, o_11, .ref rf, .int 0, o_14, o_15, o_16])), (rf, .inl (K 0, 5, .inl frf)), (t0, .inr (9, [k_0, .ref t3, k_2, k_3, k_4, k_5, k_6, k_7, k_8, k_9])), (t3, .inl (K 0, 24, .inl f_196))]) [3, 0, 1, 2] rfl
      have hD9 := hD.sub (ws' := [(o0, .inr (11, [.ref t0, o_1, o_2, o_3, o_4, o_5, o_6, o_7, o_8, o_9, o_10, o_11, .ref rf, .int 0, o_14, o_15, o_16])), (rf, .inl (K 0, 5, .inl frf)), (t0, .inr (9, [k_0, .ref t3, k_2, k_3, k_4, k_5, k_6, k_7, k_8, k_9])), (t3, .inl (K 0, 24, .inl f_196))]) [3, 0, 1, 2] (by decide +kernel) rfl
      exact W.iret (v := r_197) hx hb hr (fun t ht hW => ⟨⟨r_197, ((fun _ => 0, fun i => match i with | 0 => frf | _ => f_196, fun _ => fun _ => 0, fun i => match i with | _ => 0, fun _ => 0, fun _ => fun _ => none) : Su), rfl, ⟨(show (-1) ≤ (0 : Int32).toInt ∧ (0 : Int32).toInt ≤ 0 by decide), hE.symm, trivial⟩, (⟨by rw [ht]; exact hP9, hD9⟩ : Wd D A _ t)⟩, hS.F ht⟩) hS.2.2 dX11_score_50
    · replace hE := (hE).trans (if_neg (by first | decide | (intro h9; have h8 := congrArg Int32.toInt h9; omega)))
      refine lv_if_ne (tgt := 26) hx hb dX11_score_17 (by decide +kernel) (fun c_200 => absurd (by decide +kernel) c_200) (fun c_200 => ?_)
      exact j_178   hE _ _ hP hD hS ls (lv_sub hl [0] rfl)
  · replace hE := (hE).trans (if_neg (by first | decide | (intro h9; have h8 := congrArg Int32.toInt h9; omega)))
    refine lv_if_eq (tgt := 20) hx hb dX11_score_7 (by decide +kernel) (fun c_201 => ?_) (fun c_201 => absurd (by decide +kernel) c_201)
    exact j_178   hE _ _ hP hD hS ls (lv_sub hl [0] rfl)
set_option maxRecDepth 100000 in
noncomputable def E_w_chord (x : Int32) (f3 : Nat → Int32) : Int32 :=
  Lt (E_w_chordAt x f3) (fun r_65 => (r_65 : Int32))
set_option maxHeartbeats 4000000 in
set_option maxRecDepth 100000 in
theorem w_chord (l : Launch) (D : va_G) (K : Nat → ClassId) (o0 : Nat) (x : Int32) (t0 : Nat) (o_1 : Value) (o_2 : Value) (o_3 : Value) (o_4 : Value) (o_5 : Value) (o_6 : Value) (o_7 : Value) (o_8 : Value) (o_9 : Value) (o_10 : Value) (o_11 : Value) (o_12 : Value) (o_13 : Value) (o_14 : Value) (o_15 : Value) (o_16 : Value) (k_0 : Value) (t3 : Nat) (k_2 : Value) (k_3 : Value) (k_4 : Value) (k_5 : Value) (k_6 : Value) (k_7 : Value) (k_8 : Value) (k_9 : Value) (f3 : Nat → Int32) (sz : Nat) : Met l yX11_chord wsX11_chord ({ frames := 1, cells := 0, slots := 0, locals := 21 }) (va_Pc [.ref o0, .int x] (Pre D K [(o0, .inr (11, [.ref t0, o_1, o_2, o_3, o_4, o_5, o_6, o_7, o_8, o_9, o_10, o_11, o_12, o_13, o_14, o_15, o_16])), (t0, .inr (9, [k_0, .ref t3, k_2, k_3, k_4, k_5, k_6, k_7, k_8, k_9])), (t3, .inl (K 0, 24, .inl f3))] sz)) (vp_Si (fun r : Int32 => (r = E_w_chord x f3) ∧ True)) 0 0 (fun _ => False) := by
  refine Met.ofW (cc := cX11_chord) (maxL := 2) (ret := (some .int)) (by decide +kernel) rfl ?_
  intro p e s m args below meth c s₁ B hml hv
  obtain ⟨rfl, hsz, hP, hK, hD0, hN⟩ := hv
  have hx := B.exec
  have hb := B.bytes
  have hr := B.returns
  have hts := atoms_spec (ws := wsX11_chord) B.pre
  have hown : s.vm.findClass RX11 = some m.cls := findClass_of_methodNamed B.named
  have hlocks := B.notSynchronized
  subst hsz
  have hD := hD0
  replace hP : va_P D vwCl [(o0, .inr (11, [.ref t0, o_1, o_2, o_3, o_4, o_5, o_6, o_7, o_8, o_9, o_10, o_11, o_12, o_13, o_14, o_15, o_16])), (t0, .inr (9, [k_0, .ref t3, k_2, k_3, k_4, k_5, k_6, k_7, k_8, k_9])), (t3, .inl (K 0, 24, .inl f3))] s.heap := hP
  have hl := lv_entry [.ref o0, .int x] (n := 2) (Nat.le_of_ble_eq_true rfl)
  rw [lg_entry_eq]
  generalize (lg_sl [.ref o0, .int x] ++ List.replicate (2 - (lg_sl [.ref o0, .int x]).length) Slot.unset).toArray = ls at hl ⊢
  have hl : lv_has ls 2 [(0, .ref o0), (1, .int x)] := hl
  have hw9 : ∀ w ∈ wsX90, w ∈ wsX11_chord := fun w h => (List.mem_cons_of_mem _ (List.mem_append_right _ h))
  have hw11 : ∀ w ∈ wsX110, w ∈ wsX11_chord := fun w h => (List.mem_cons_of_mem _ (List.mem_append_left _ (List.mem_append_right _ h)))
  generalize hQ : MQ below _ _ s _ _ _ = Q
  have hE := E_w_chord.eq_def x f3
  refine lv_aload_n hx hb dX11_chord_0 rfl (lv_at hl 0 rfl) ?_
  refine va_get (ci := 11) (v := .ref t0) (C := RX11) (T := TX11) (N := 17) hx hb hts hw11 hown hK hP 0 rfl rfl 0 (by decide +kernel) (hts _ mm_X11_chord_334) (fun _ h9 => h9) rfl dX11_chord_1 ?_
  refine lv_iload_n hx hb dX11_chord_4 rfl (lv_at hl 1 rfl) ?_
  refine pci (va_runVN (As := [.int x]) (rest := []) ⟨hx, hb, hml, hown, hts⟩ (w_chordAt l D K t0 x k_0 t3 k_2 k_3 k_4 k_5 k_6 k_7 k_8 k_9 f3 s.heap.size) ⟨va_cnB 1 hts gX11_chord_X9_chordAt_n146 rfl rfl rfl (nst_at hN 28 rfl) (hts _ mm_X11_chord_145) (by decide +kernel) ⟨Nat.le_of_ble_eq_true rfl, Nat.le_of_ble_eq_true rfl⟩, (hts _ mm_X11_chord_433), (hts _ mm_X11_chord_17)⟩ (mkV hK hN (hP.sub [1, 2] rfl) (hD.sub [1, 2] (by decide +kernel) rfl) (ci := 9) (q0 := 0) rfl rfl) rfl rfl hl.1 rfl (lv_room (Nat.le_of_ble_eq_true rfl)) dX11_chord_5 ⟨Nat.le_of_ble_eq_true rfl, Nat.le_of_ble_eq_true rfl⟩) (fun r_65 hw => ?_)
  obtain ⟨k_66, -⟩ := hw
  replace hE := hE.trans (Lt_in k_66)
  rw [← hQ]
  exact W.iret (v := r_65) hx hb hr (fun t ht hW => ⟨_, rfl, ⟨hE.symm, trivial⟩, ht⟩) (fun q hq => by cases hq) dX11_chord_8
set_option maxRecDepth 100000 in
noncomputable def E_w_terms_j26 (rb : Int32) (frf : Nat → Int32) (kp : Int32) (f2 : Nat → Int32) : Int32 × Int32 × (Nat → Int32) × Int32 × (Nat → Int32) :=
  Lt2 (E_w_refuse (-1) rb frf) (fun r_199 u_200_2_1_0 => ((r_199, (-1), u_200_2_1_0, kp, f2) : Int32 × Int32 × (Nat → Int32) × Int32 × (Nat → Int32)))
set_option maxRecDepth 100000 in
noncomputable def E_w_terms (x : Int32) (y : Int32) (rb : Int32) (frf : Nat → Int32) (dr : Int32) (kp : Int32) (f2 : Nat → Int32) : Int32 × Int32 × (Nat → Int32) × Int32 × (Nat → Int32) :=
  Lt (E_w_within x 0 5) (fun r_202 => if r_202 = 1 then (Lt (aF 0 (x : Int32).toNatClampNeg : Int32) (fun x_208 => Lt (aF 1 (x : Int32).toNatClampNeg : Int32) (fun x_209 => Lt (E_w_within y x_208 x_209) (fun r_210 => if r_210 = 1 then (Lt (f2 (x : Int32).toNatClampNeg : Int32) (fun x_216 => Lt (upd f2 (x : Int32).toNatClampNeg y : Nat → Int32) (fun f_217 => Lt (E_w_accept x_216 rb) (fun r_221 => ((r_221, 0, frf, 0, f_217) : Int32 × Int32 × (Nat → Int32) × Int32 × (Nat → Int32)))))) else (E_w_terms_j26 rb frf kp f2))))) else (E_w_terms_j26 rb frf kp f2))
set_option maxHeartbeats 4000000 in
set_option maxRecDepth 100000 in
theorem w_terms (l : Launch) (D : va_G) (K : Nat → ClassId) (g : Nat → Nat) (L : Nat → Prop) (G : Nat → LC) (o0 : Nat) (x : Int32) (y : Int32) (t0 : Nat) (o_1 : Value) (o_2 : Value) (o_3 : Value) (o_4 : Value) (o_5 : Value) (o_6 : Value) (o_7 : Value) (o_8 : Value) (h0 : Nat) (o_10 : Value) (o_11 : Value) (rf : Nat) (rb : Int32) (o_14 : Value) (o_15 : Value) (o_16 : Value) (frf : Nat → Int32) (h1 : Nat) (dr : Int32) (kp : Int32) (k_0 : Value) (k_1 : Value) (t2 : Nat) (k_3 : Value) (k_4 : Value) (k_5 : Value) (k_6 : Value) (k_7 : Value) (k_8 : Value) (k_9 : Value) (f2 : Nat → Int32) (sz : Nat) (zdr : 0 ≤ dr.toInt ∧ dr.toInt ≤ 16) (zkp : 0 ≤ kp.toInt ∧ kp.toInt ≤ 16) : Met l yX11_terms wsX11_terms ({ frames := 2, cells := 0, slots := 0, locals := 44 }) (va_Pc [.ref o0, .int x, .int y] (PreY D K [(o0, .inr (11, [.ref t0, o_1, o_2, o_3, o_4, o_5, o_6, o_7, o_8, .ref h0, o_10, o_11, .ref rf, .int rb, o_14, o_15, o_16])), (rf, .inl (K 0, 5, .inl frf)), (h0, .inr (2, [.ref h1, .int dr, .int kp])), (t0, .inr (9, [k_0, k_1, .ref t2, k_3, k_4, k_5, k_6, k_7, k_8, k_9])), (t2, .inl (K 0, 6, .inl f2))] [] sz g L G (va_A [(o0, .inr (11, [.ref t0, o_1, o_2, o_3, o_4, o_5, o_6, o_7, o_8, .ref h0, o_10, o_11, .ref rf, .int rb, o_14, o_15, o_16])), (rf, .inl (K 0, 5, .inl frf)), (h0, .inr (2, [.ref h1, .int dr, .int kp])), (t0, .inr (9, [k_0, k_1, .ref t2, k_3, k_4, k_5, k_6, k_7, k_8, k_9])), (t2, .inl (K 0, 6, .inl f2))] sz))) (va_Qi (S := Su) (fun (r : Int32) (u : Su) => ((-1) ≤ (u.2.2.2.1 0).toInt ∧ (u.2.2.2.1 0).toInt ≤ 0) ∧ (0 ≤ (u.2.2.2.1 1).toInt ∧ (u.2.2.2.1 1).toInt ≤ 16) ∧ ((r, (u.2.2.2.1 0), (u.2.1 0), (u.2.2.2.1 1), (u.2.1 1)) = E_w_terms x y rb frf dr kp f2) ∧ True) (fun u t => Wd D (va_A [(o0, .inr (11, [.ref t0, o_1, o_2, o_3, o_4, o_5, o_6, o_7, o_8, .ref h0, o_10, o_11, .ref rf, .int rb, o_14, o_15, o_16])), (rf, .inl (K 0, 5, .inl frf)), (h0, .inr (2, [.ref h1, .int dr, .int kp])), (t0, .inr (9, [k_0, k_1, .ref t2, k_3, k_4, k_5, k_6, k_7, k_8, k_9])), (t2, .inl (K 0, 6, .inl f2))] sz) ((fun u => [(o0, .inr (11, [.ref t0, o_1, o_2, o_3, o_4, o_5, o_6, o_7, o_8, .ref h0, o_10, o_11, .ref rf, .int (u.2.2.2.1 0), o_14, o_15, o_16])), (rf, .inl (K 0, 5, .inl (u.2.1 0))), (h0, .inr (2, [.ref h1, .int dr, .int (u.2.2.2.1 1)])), (t0, .inr (9, [k_0, k_1, .ref t2, k_3, k_4, k_5, k_6, k_7, k_8, k_9])), (t2, .inl (K 0, 6, .inl (u.2.1 1)))]) u) t) (va_A [(o0, .inr (11, [.ref t0, o_1, o_2, o_3, o_4, o_5, o_6, o_7, o_8, .ref h0, o_10, o_11, .ref rf, .int rb, o_14, o_15, o_16])), (rf, .inl (K 0, 5, .inl frf)), (h0, .inr (2, [.ref h1, .int dr, .int kp])), (t0, .inr (9, [k_0, k_1, .ref t2, k_3, k_4, k_5, k_6, k_7, k_8, k_9])), (t2, .inl (K 0, 6, .inl f2))] sz)) 0 0 (va_A [(o0, .inr (11, [.ref t0, o_1, o_2, o_3, o_4, o_5, o_6, o_7, o_8, .ref h0, o_10, o_11, .ref rf, .int rb, o_14, o_15, o_16])), (rf, .inl (K 0, 5, .inl frf)), (h0, .inr (2, [.ref h1, .int dr, .int kp])), (t0, .inr (9, [k_0, k_1, .ref t2, k_3, k_4, k_5, k_6, k_7, k_8, k_9])), (t2, .inl (K 0, 6, .inl f2))] sz) := by
  refine Met.ofW (cc := cX11_terms) (maxL := 4) (ret := (some .int)) (by decide +kernel) rfl ?_
  intro p e s m args below meth c s₁ B hml hv
  obtain ⟨rfl, ⟨hsz, hP, hK, hD0, hN⟩, hG, hPl, hRo⟩ := hv
  have hx := B.exec
  have hb := B.bytes
  have hr := B.returns
  have hts := atoms_spec (ws := wsX11_terms) B.pre
  have hown : s.vm.findClass RX11 = some m.cls := findClass_of_methodNamed B.named
  have hlocks := B.notSynchronized
  subst hsz
  have hD := hD0.self (sz := s.heap.size)
  generalize hAe : va_A [(o0, .inr (11, [.ref t0, o_1, o_2, o_3, o_4, o_5, o_6, o_7, o_8, .ref h0, o_10, o_11, .ref rf, .int rb, o_14, o_15, o_16])), (rf, .inl (K 0, 5, .inl frf)), (h0, .inr (2, [.ref h1, .int dr, .int kp])), (t0, .inr (9, [k_0, k_1, .ref t2, k_3, k_4, k_5, k_6, k_7, k_8, k_9])), (t2, .inl (K 0, 6, .inl f2))] s.heap.size = A at hD hG hPl hRo ⊢
  have hA : ∀ q : Nat, s.heap.size ≤ q → A q := fun q h => by rw [← hAe]; exact Or.inr h
  clear hAe
  have hS : va_S A s.heap s.heap [] := va_S.rf
  replace hP : va_P D vwCl [(o0, .inr (11, [.ref t0, o_1, o_2, o_3, o_4, o_5, o_6, o_7, o_8, .ref h0, o_10, o_11, .ref rf, .int rb, o_14, o_15, o_16])), (rf, .inl (K 0, 5, .inl frf)), (h0, .inr (2, [.ref h1, .int dr, .int kp])), (t0, .inr (9, [k_0, k_1, .ref t2, k_3, k_4, k_5, k_6, k_7, k_8, k_9])), (t2, .inl (K 0, 6, .inl f2))] s.heap := hP
  have hl := lv_entry [.ref o0, .int x, .int y] (n := 4) (Nat.le_of_ble_eq_true rfl)
  rw [lg_entry_eq]
  generalize (lg_sl [.ref o0, .int x, .int y] ++ List.replicate (4 - (lg_sl [.ref o0, .int x, .int y]).length) Slot.unset).toArray = ls at hl ⊢
  have hl : lv_has ls 4 [(0, .ref o0), (1, .int x), (2, .int y)] := hl
  have hw2 : ∀ w ∈ wsX20, w ∈ wsX11_terms := fun w h => (List.mem_cons_of_mem _ (List.mem_append_right _ h))
  have hw9 : ∀ w ∈ wsX90, w ∈ wsX11_terms := fun w h => (List.mem_cons_of_mem _ (List.mem_append_left _ (List.mem_append_right _ h)))
  have hw11 : ∀ w ∈ wsX110, w ∈ wsX11_terms := fun w h => (List.mem_cons_of_mem _ (List.mem_append_left _ (List.mem_append_left _ (List.mem_append_right _ h))))
  generalize hQ : MQ below _ _ s _ _ _ = Q
  have hE := E_w_terms.eq_def x y rb frf dr kp f2
  refine lv_iload_n hx hb dX11_terms_0 rfl (lv_at hl 1 rfl) ?_
  refine lv_iconst (v := 0) hx hb dX11_terms_1 (by decide +kernel) ?_
  refine lv_iconst (v := 5) hx hb dX11_terms_2 (by decide +kernel) ?_
  have j_198 : ∀ (hE : E_w_terms x y rb frf dr kp f2 = E_w_terms_j26 rb frf kp f2) (H : Heap) (locs : List Loc) (hP : va_P D vwCl [(o0, .inr (11, [.ref t0, o_1, o_2, o_3, o_4, o_5, o_6, o_7, o_8, .ref h0, o_10, o_11, .ref rf, .int rb, o_14, o_15, o_16])), (rf, .inl (K 0, 5, .inl frf)), (h0, .inr (2, [.ref h1, .int dr, .int kp])), (t0, .inr (9, [k_0, k_1, .ref t2, k_3, k_4, k_5, k_6, k_7, k_8, k_9])), (t2, .inl (K 0, 6, .inl f2))] H) (hD : va_D A [(o0, .inr (11, [.ref t0, o_1, o_2, o_3, o_4, o_5, o_6, o_7, o_8, .ref h0, o_10, o_11, .ref rf, .int rb, o_14, o_15, o_16])), (rf, .inl (K 0, 5, .inl frf)), (h0, .inr (2, [.ref h1, .int dr, .int kp])), (t0, .inr (9, [k_0, k_1, .ref t2, k_3, k_4, k_5, k_6, k_7, k_8, k_9])), (t2, .inl (K 0, 6, .inl f2))]) (hS : va_S A s.heap H locs) (ls : Array Slot) (hl : lv_has ls 4 [(0, .ref o0)]), W p l e ({ frames := 2, cells := 0, slots := 0, locals := 44 }) s m (([.ref o0, .int x, .int y] : List Value).toArray) below meth c H locs 0 0 Q (F0 m 26 ls []) := by
    clear hE hP hD hS hl
    intro hE H locs hP hD hS ls hl
    replace hE := hE.trans (E_w_terms_j26.eq_def _ _ _ _)
    refine lv_aload_n hx hb dX11_terms_26 rfl (lv_at hl 0 rfl) ?_
    refine lv_iconst (v := (-1)) hx hb dX11_terms_27 (by decide +kernel) ?_
    refine kci (S := Su) (wr := [(h0, .inr (2, [.ref h1, .int dr, .int kp])), (t0, .inr (9, [k_0, k_1, .ref t2, k_3, k_4, k_5, k_6, k_7, k_8, k_9])), (t2, .inl (K 0, 6, .inl f2))]) (va_runV (As := [.int (-1)]) (rest := []) ⟨hx, hb, hml, hown, hts⟩ (w_refuse l D K o0 (-1) (.ref t0) o_1 o_2 o_3 o_4 o_5 o_6 o_7 o_8 (.ref h0) o_10 o_11 rf rb o_14 o_15 o_16 frf H.size) (cwV 1 hts gX11_terms_X11_refuse rfl rfl rfl (by decide +kernel) ⟨Nat.le_of_ble_eq_true rfl, Nat.le_of_ble_eq_true rfl⟩) (mkV hK hN (hP.sub [0, 1] rfl) (hD.sub [0, 1] (by decide +kernel) rfl) (ci := 11) (q0 := 0) rfl rfl) rfl rfl hl.1 rfl (lv_room (Nat.le_of_ble_eq_true rfl)) dX11_terms_28 ⟨Nat.le_of_ble_eq_true rfl, Nat.le_of_ble_eq_true rfl⟩) hP hD hS hA [0, 1] [2, 3, 4] rfl rfl (by decide +kernel) (by decide +kernel) (fun r_199 u_200 H locs hw hP0 hD0 hS0 => ?_)
    clear hP hD hS
    have hP := hP0
    have hD := hD0
    have hS := hS0
    clear hP0 hD0 hS0
    replace hP : va_P D vwCl [(h0, .inr (2, [.ref h1, .int dr, .int kp])), (t0, .inr (9, [k_0, k_1, .ref t2, k_3, k_4, k_5, k_6, k_7, k_8, k_9])), (t2, .inl (K 0, 6, .inl f2)), (o0, .inr (11, [.ref t0, o_1, o_2, o_3, o_4, o_5, o_6, o_7, o_8, .ref h0, o_10, o_11, .ref rf, .int (-1), o_14, o_15, o_16])), (rf, .inl (K 0, 5, .inl (u_200.2.1 0)))] H := hP
    replace hD : va_D A [(h0, .inr (2, [.ref h1, .int dr, .int kp])), (t0, .inr (9, [k_0, k_1, .ref t2, k_3, k_4, k_5, k_6, k_7, k_8, k_9])), (t2, .inl (K 0, 6, .inl f2)), (o0, .inr (11, [.ref t0, o_1, o_2, o_3, o_4, o_5, o_6, o_7, o_8, .ref h0, o_10, o_11, .ref rf, .int (-1), o_14, o_15, o_16])), (rf, .inl (K 0, 5, .inl (u_200.2.1 0)))] := hD
    obtain ⟨k_201, -⟩ := hw
    replace hE := hE.trans (Lt2_in k_201)
    rw [← hQ]
    have hP9 := hP.sub (ws' := [(o0, .inr (11, [.ref t0, o_1, o_2, o_3, o_4, o_5, o_6, o_7, o_8, .ref h0, o_10, o_11, .ref rf, .int (-1), o_14, o_15, o_16])), (rf, .inl (K 0, 5, .inl (u_200.2.1 0))), (h0, .inr (2, [.ref h1, .int dr, .int kp])), (t0, .inr (9, [k_0, k_1, .ref t2, k_3, k_4, k_5, k_6, k_7, k_8, k_9])), (t2, .inl (K 0, 6, .inl f2))]) [3, 4, 0, 1, 2] rfl
    have hD9 := hD.sub (ws' := [(o0, .inr (11, [.ref t0, o_1, o_2, o_3, o_4, o_5, o_6, o_7, o_8, .ref h0, o_10, o_11, .ref rf, .int (-1), o_14, o_15, o_16])), (rf, .inl (K 0, 5, .inl (u_200.2.1 0))), (h0, .inr (2, [.ref h1, .int dr, .int kp])), (t0, .inr (9, [k_0, k_1, .ref t2, k_3, k_4, k_5, k_6, k_7, k_8, k_9])), (t2, .inl (K 0, 6, .inl f2))]) [3, 4, 0, 1, 2] (by decide +kernel) rfl
    exact W.iret (v := r_199) hx hb hr (fun t ht hW => ⟨⟨r_199, ((fun _ => 0, fun i => match i with | 0 => (u_200.2.1 0) | _ => f2, fun _ => fun _ => 0, fun i => match i with | 0 => (-1) | _ => kp, fun _ => 0, fun _ => fun _ => none) : Su), rfl, ⟨(show (-1) ≤ ((-1) : Int32).toInt ∧ ((-1) : Int32).toInt ≤ 0 by decide), (show 0 ≤ (kp : Int32).toInt ∧ (kp : Int32).toInt ≤ 16 by omega), hE.symm, trivial⟩, (⟨by rw [ht]; exact hP9, hD9⟩ : Wd D A _ t)⟩, hS.F ht⟩) hS.2.2 dX11_terms_31
  refine pci (va_runS (As := [.int x, .int 0, .int 5]) (rest := []) ⟨hx, hb, hml, hown, hts⟩ (w_within l D K x.toInt 0 5 x 0 5 s.heap.size rfl (show (0 : Int32).toInt = 0 from rfl) (show (5 : Int32).toInt = 5 from rfl)) (va_cwS 3 hts gX11_terms_X11_within rfl rfl rfl (by decide +kernel) ⟨Nat.le_of_ble_eq_true rfl, Nat.le_of_ble_eq_true rfl⟩) (mkS hK hN (va_P.nil) (va_D.nil (A := fun _ => True))) rfl rfl hl.1 rfl (lv_room (Nat.le_of_ble_eq_true rfl)) dX11_terms_3 ⟨Nat.le_of_ble_eq_true rfl, Nat.le_of_ble_eq_true rfl⟩) (fun r_202 hw => ?_)
  obtain ⟨hw, k_203, -⟩ := hw
  replace hE := hE.trans (Lt_in k_203)
  rcases hw with ⟨rfl, h_204, h_205⟩ | ⟨rfl, h_206⟩
  · replace hE := (hE).trans (if_pos rfl)
    refine lv_if_eq (tgt := 26) hx hb dX11_terms_6 (by decide +kernel) (fun c_207 => absurd c_207 (by decide +kernel)) (fun c_207 => ?_)
    refine lv_iload_n hx hb dX11_terms_9 rfl (lv_at hl 2 rfl) ?_
    refine va_gets (C := "SmokeTune") (n := "TERM_LEAST") (d := "[I") (v := .ref (g 0)) hx hb (hG.arr 0 (by decide +kernel)).1 hS hown (hts _ mm_X11_terms_443) (fun _ h9 => h9) dX11_terms_10 ?_
    refine lv_iload_n hx hb dX11_terms_13 rfl (lv_at hl 1 rfl) ?_
    refine va_ti hx hb (hG.arr 0 (by decide +kernel)).2 hS (show vp_in _ 6 from (i_in rfl (by omega))) rfl dX11_terms_14 ?_
    refine lv_topi (fun x_208 ex_208 => ?_)
    replace hE := hE.trans (Lt_in ex_208)
    have hx_208 : 0 ≤ x_208.toInt ∧ x_208.toInt ≤ 1 := by rw [ex_208]; exact Rg.at sr_0 rfl (show 0 ≤ x.toInt ∧ x.toInt < _ by omega)
    refine va_gets (C := "SmokeTune") (n := "TERM_MOST") (d := "[I") (v := .ref (g 1)) hx hb (hG.arr 1 (by decide +kernel)).1 hS hown (hts _ mm_X11_terms_444) (fun _ h9 => h9) dX11_terms_15 ?_
    refine lv_iload_n hx hb dX11_terms_18 rfl (lv_at hl 1 rfl) ?_
    refine va_ti hx hb (hG.arr 1 (by decide +kernel)).2 hS (show vp_in _ 6 from (i_in rfl (by omega))) rfl dX11_terms_19 ?_
    refine lv_topi (fun x_209 ex_209 => ?_)
    replace hE := hE.trans (Lt_in ex_209)
    have hx_209 : 9 ≤ x_209.toInt ∧ x_209.toInt ≤ 999 := by rw [ex_209]; exact Rg.at sr_1 rfl (show 0 ≤ x.toInt ∧ x.toInt < _ by omega)
    refine pci (va_runS (As := [.int y, .int x_208, .int x_209]) (rest := []) ⟨hx, hb, hml, hown, hts⟩ (w_within l D K y.toInt x_208.toInt x_209.toInt y x_208 x_209 s.heap.size rfl rfl rfl) (va_cwS 3 hts gX11_terms_X11_within rfl rfl rfl (by decide +kernel) ⟨Nat.le_of_ble_eq_true rfl, Nat.le_of_ble_eq_true rfl⟩) (mkS hK hN (va_P.nil) (va_D.nil (A := fun _ => True))) rfl rfl hl.1 rfl (lv_room (Nat.le_of_ble_eq_true rfl)) dX11_terms_20 ⟨Nat.le_of_ble_eq_true rfl, Nat.le_of_ble_eq_true rfl⟩) (fun r_210 hw => ?_)
    obtain ⟨hw, k_211, -⟩ := hw
    replace hE := hE.trans (Lt_in k_211)
    rcases hw with ⟨rfl, h_212, h_213⟩ | ⟨rfl, h_214⟩
    · replace hE := (hE).trans (if_pos rfl)
      refine lv_if_ne (tgt := 32) hx hb dX11_terms_23 (by decide +kernel) (fun c_215 => ?_) (fun c_215 => absurd c_215 (by decide +kernel))
      refine lv_aload_n hx hb dX11_terms_32 rfl (lv_at hl 0 rfl) ?_
      refine va_get (ci := 11) (v := .ref t0) (C := RX11) (T := TX11) (N := 17) hx hb hts hw11 hown hK hP 0 rfl rfl 0 (by decide +kernel) (hts _ mm_X11_terms_334) (fun _ h9 => h9) rfl dX11_terms_33 ?_
      refine va_getN (ci := 9) (v := .ref t2) (C := RX9) (T := TX9) (N := 10) hx hb hts hw9 hown hK hP 3 rfl rfl 2 (by decide +kernel) (nst_use hN 104 rfl) (fun _ h9 => h9) rfl dX11_terms_36 ?_
      refine lv_iload_n hx hb dX11_terms_39 rfl (lv_at hl 1 rfl) ?_
      refine va_iald hx hb hK hP 4 0 rfl rfl (i_in rfl (by omega)) dX11_terms_40 ?_
      refine lv_topi (fun x_216 ex_216 => ?_)
      replace hE := hE.trans (Lt_in ex_216)
      refine lv_istore_n (lv' := [(3, .int x_216), (0, .ref o0), (1, .int x), (2, .int y)]) hx hb dX11_terms_41 rfl hl (by decide +kernel) rfl (fun ls hl => ?_)
      refine lv_aload_n hx hb dX11_terms_42 rfl (lv_at hl 1 rfl) ?_
      refine va_get (ci := 11) (v := .ref t0) (C := RX11) (T := TX11) (N := 17) hx hb hts hw11 hown hK hP 0 rfl rfl 0 (by decide +kernel) (hts _ mm_X11_terms_334) (fun _ h9 => h9) rfl dX11_terms_43 ?_
      refine va_getN (ci := 9) (v := .ref t2) (C := RX9) (T := TX9) (N := 10) hx hb hts hw9 hown hK hP 3 rfl rfl 2 (by decide +kernel) (nst_use hN 104 rfl) (fun _ h9 => h9) rfl dX11_terms_46 ?_
      refine lv_iload_n hx hb dX11_terms_49 rfl (lv_at hl 2 rfl) ?_
      refine lv_iload_n hx hb dX11_terms_50 rfl (lv_at hl 3 rfl) ?_
      refine va_iast hx hb hK hP hD hS 4 0 rfl rfl (i_in rfl (by omega)) dX11_terms_51 (fun H locs hP0 hD0 hS0 => ?_)
      clear hP hD hS
      have hP := hP0
      have hD := hD0
      have hS := hS0
      clear hP0 hD0 hS0
      generalize hf_217 : (upd f2 (x : Int32).toNatClampNeg y) = f_217 at hP hD
      replace hE := hE.trans (Lt_in hf_217.symm)
      replace hP : va_P D vwCl [(o0, .inr (11, [.ref t0, o_1, o_2, o_3, o_4, o_5, o_6, o_7, o_8, .ref h0, o_10, o_11, .ref rf, .int rb, o_14, o_15, o_16])), (rf, .inl (K 0, 5, .inl frf)), (h0, .inr (2, [.ref h1, .int dr, .int kp])), (t0, .inr (9, [k_0, k_1, .ref t2, k_3, k_4, k_5, k_6, k_7, k_8, k_9])), (t2, .inl (K 0, 6, .inl f_217))] H := hP
      replace hD : va_D A [(o0, .inr (11, [.ref t0, o_1, o_2, o_3, o_4, o_5, o_6, o_7, o_8, .ref h0, o_10, o_11, .ref rf, .int rb, o_14, o_15, o_16])), (rf, .inl (K 0, 5, .inl frf)), (h0, .inr (2, [.ref h1, .int dr, .int kp])), (t0, .inr (9, [k_0, k_1, .ref t2, k_3, k_4, k_5, k_6, k_7, k_8, k_9])), (t2, .inl (K 0, 6, .inl f_217))] := hD
      refine lv_aload_n hx hb dX11_terms_52 rfl (lv_at hl 1 rfl) ?_
      refine va_get (ci := 11) (v := .ref h0) (C := RX11) (T := TX11) (N := 17) hx hb hts hw11 hown hK hP 0 rfl rfl 9 (by decide +kernel) (hts _ mm_X11_terms_343) (fun _ h9 => h9) rfl dX11_terms_53 ?_
      refine kcv (S := Su) (wr := [(o0, .inr (11, [.ref t0, o_1, o_2, o_3, o_4, o_5, o_6, o_7, o_8, .ref h0, o_10, o_11, .ref rf, .int rb, o_14, o_15, o_16])), (rf, .inl (K 0, 5, .inl frf)), (t0, .inr (9, [k_0, k_1, .ref t2, k_3, k_4, k_5, k_6, k_7, k_8, k_9])), (t2, .inl (K 0, 6, .inl f_217))]) (va_runVN (As := []) (rest := []) ⟨hx, hb, hml, hown, hts⟩ (w_clear l D K h0 h1 dr kp H.size) ⟨va_cnB 0 hts gX11_terms_X2_clear_n111 rfl rfl rfl (nst_at hN 16 rfl) (hts _ mm_X11_terms_153) (by decide +kernel) ⟨Nat.le_of_ble_eq_true rfl, Nat.le_of_ble_eq_true rfl⟩, (hts _ mm_X11_terms_383), (hts _ mm_X11_terms_3)⟩ (mkV hK hN (hP.sub [2] rfl) (hD.sub [2] (by decide +kernel) rfl) (ci := 2) (q0 := 0) rfl rfl) rfl rfl hl.1 rfl (lv_room (Nat.le_of_ble_eq_true rfl)) dX11_terms_56 ⟨Nat.le_of_ble_eq_true rfl, Nat.le_of_ble_eq_true rfl⟩) hP hD hS hA [2] [0, 1, 3, 4] rfl rfl (by decide +kernel) (by decide +kernel) (fun u_219 H locs hw hP0 hD0 hS0 => ?_)
      clear hP hD hS
      have hP := hP0
      have hD := hD0
      have hS := hS0
      clear hP0 hD0 hS0
      replace hP : va_P D vwCl [(o0, .inr (11, [.ref t0, o_1, o_2, o_3, o_4, o_5, o_6, o_7, o_8, .ref h0, o_10, o_11, .ref rf, .int rb, o_14, o_15, o_16])), (rf, .inl (K 0, 5, .inl frf)), (t0, .inr (9, [k_0, k_1, .ref t2, k_3, k_4, k_5, k_6, k_7, k_8, k_9])), (t2, .inl (K 0, 6, .inl f_217)), (h0, .inr (2, [.ref h1, .int dr, .int 0]))] H := hP
      replace hD : va_D A [(o0, .inr (11, [.ref t0, o_1, o_2, o_3, o_4, o_5, o_6, o_7, o_8, .ref h0, o_10, o_11, .ref rf, .int rb, o_14, o_15, o_16])), (rf, .inl (K 0, 5, .inl frf)), (t0, .inr (9, [k_0, k_1, .ref t2, k_3, k_4, k_5, k_6, k_7, k_8, k_9])), (t2, .inl (K 0, 6, .inl f_217)), (h0, .inr (2, [.ref h1, .int dr, .int 0]))] := hD
      obtain ⟨k_220, -⟩ := hw
      refine lv_aload_n hx hb dX11_terms_59 rfl (lv_at hl 1 rfl) ?_
      refine lv_iload_n hx hb dX11_terms_60 rfl (lv_at hl 0 rfl) ?_
      refine kci (S := Su) (wr := [(rf, .inl (K 0, 5, .inl frf)), (t0, .inr (9, [k_0, k_1, .ref t2, k_3, k_4, k_5, k_6, k_7, k_8, k_9])), (t2, .inl (K 0, 6, .inl f_217)), (h0, .inr (2, [.ref h1, .int dr, .int 0]))]) (va_runV (As := [.int x_216]) (rest := []) ⟨hx, hb, hml, hown, hts⟩ (w_accept l D K o0 x_216 (.ref t0) o_1 o_2 o_3 o_4 o_5 o_6 o_7 o_8 (.ref h0) o_10 o_11 (.ref rf) rb o_14 o_15 o_16 H.size) (cwV 1 hts gX11_terms_X11_accept rfl rfl rfl (by decide +kernel) ⟨Nat.le_of_ble_eq_true rfl, Nat.le_of_ble_eq_true rfl⟩) (mkV hK hN (hP.sub [0] rfl) (hD.sub [0] (by decide +kernel) rfl) (ci := 11) (q0 := 0) rfl rfl) rfl rfl hl.1 rfl (lv_room (Nat.le_of_ble_eq_true rfl)) dX11_terms_61 ⟨Nat.le_of_ble_eq_true rfl, Nat.le_of_ble_eq_true rfl⟩) hP hD hS hA [0] [1, 2, 3, 4] rfl rfl (by decide +kernel) (by decide +kernel) (fun r_221 u_222 H locs hw hP0 hD0 hS0 => ?_)
      clear hP hD hS
      have hP := hP0
      have hD := hD0
      have hS := hS0
      clear hP0 hD0 hS0
      replace hP : va_P D vwCl [(rf, .inl (K 0, 5, .inl frf)), (t0, .inr (9, [k_0, k_1, .ref t2, k_3, k_4, k_5, k_6, k_7, k_8, k_9])), (t2, .inl (K 0, 6, .inl f_217)), (h0, .inr (2, [.ref h1, .int dr, .int 0])), (o0, .inr (11, [.ref t0, o_1, o_2, o_3, o_4, o_5, o_6, o_7, o_8, .ref h0, o_10, o_11, .ref rf, .int 0, o_14, o_15, o_16]))] H := hP
      replace hD : va_D A [(rf, .inl (K 0, 5, .inl frf)), (t0, .inr (9, [k_0, k_1, .ref t2, k_3, k_4, k_5, k_6, k_7, k_8, k_9])), (t2, .inl (K 0, 6, .inl f_217)), (h0, .inr (2, [.ref h1, .int dr, .int 0])), (o0, .inr (11, [.ref t0, o_1, o_2, o_3, o_4, o_5, o_6, o_7, o_8, .ref h0, o_10, o_11, .ref rf, .int 0, o_14, o_15, o_16]))] := hD
      obtain ⟨hw, k_223, -⟩ := hw
      replace hE := hE.trans (Lt_in k_223)
      have er_r_221 := hw
      have hr_r_221 : r_221.toInt = x_216.toInt := (congrArg Int32.toInt er_r_221).trans rfl
      rw [← hQ]
      have hP9 := hP.sub (ws' := [(o0, .inr (11, [.ref t0, o_1, o_2, o_3, o_4, o_5, o_6, o_7, o_8, .ref h0, o_10, o_11, .ref rf, .int 0, o_14, o_15, o_16])), (rf, .inl (K 0, 5, .inl frf)), (h0, .inr (2, [.ref h1, .int dr, .int 0])), (t0, .inr (9, [k_0, k_1, .ref t2, k_3, k_4, k_5, k_6, k_7, k_8, k_9])), (t2, .inl (K 0, 6, .inl f_217))]) [4, 0, 3, 1, 2] rfl
      have hD9 := hD.sub (ws' := [(o0, .inr (11, [.ref t0, o_1, o_2, o_3, o_4, o_5, o_6, o_7, o_8, .ref h0, o_10, o_11, .ref rf, .int 0, o_14, o_15, o_16])), (rf, .inl (K 0, 5, .inl frf)), (h0, .inr (2, [.ref h1, .int dr, .int 0])), (t0, .inr (9, [k_0, k_1, .ref t2, k_3, k_4, k_5, k_6, k_7, k_8, k_9])), (t2, .inl (K 0, 6, .inl f_217))]) [4, 0, 3, 1, 2] (by decide +kernel) rfl
      exact W.iret (v := r_221) hx hb hr (fun t ht hW => ⟨⟨r_221, ((fun _ => 0, fun i => match i with | 0 => frf | _ => f_217, fun _ => fun _ => 0, fun i => match i with | 0 => 0 | _ => 0, fun _ => 0, fun _ => fun _ => none) : Su), rfl, ⟨(show (-1) ≤ (0 : Int32).toInt ∧ (0 : Int32).toInt ≤ 0 by decide), (show 0 ≤ (0 : Int32).toInt ∧ (0 : Int32).toInt ≤ 16 by decide), hE.symm, trivial⟩, (⟨by rw [ht]; exact hP9, hD9⟩ : Wd D A _ t)⟩, hS.F ht⟩) hS.2.2 dX11_terms_64
    · replace hE := (hE).trans (if_neg (by first | decide | (intro h9; have h8 := congrArg Int32.toInt h9; omega)))
      refine lv_if_ne (tgt := 32) hx hb dX11_terms_23 (by decide +kernel) (fun c_224 => absurd (by decide +kernel) c_224) (fun c_224 => ?_)
      exact j_198   hE _ _ hP hD hS ls (lv_sub hl [0] rfl)
  · replace hE := (hE).trans (if_neg (by first | decide | (intro h9; have h8 := congrArg Int32.toInt h9; omega)))
    refine lv_if_eq (tgt := 26) hx hb dX11_terms_6 (by decide +kernel) (fun c_225 => ?_) (fun c_225 => absurd (by decide +kernel) c_225)
    exact j_198   hE _ _ hP hD hS ls (lv_sub hl [0] rfl)
set_option maxRecDepth 100000 in
noncomputable def E_w_take4_l3 (x : Int32) (rec_249 : Int32 → Int32 → (Nat → Int32) → (Int32 × (Nat → Int32))) (v_229 : Int32) (v_230 : Int32) (f_231 : Nat → Int32) : Int32 × (Nat → Int32) :=
  if v_229 < 0 then (((v_230, f_231) : Int32 × (Nat → Int32))) else (if 400 ≤ v_230 then (((v_230, f_231) : Int32 × (Nat → Int32))) else (Lt (x >>> (v_229 &&& 31) : Int32) (fun x_253 => Lt (x_253 &&& 255 : Int32) (fun x_254 => Lt (upd f_231 (v_230 : Int32).toNatClampNeg x_254 : Nat → Int32) (fun f_255 => Lt (v_230 + 1 : Int32) (fun x_256 => Lt (v_229 + Int32.ofInt (-8) : Int32) (fun x_257 => rec_249 x_257 x_256 f_255)))))))
set_option maxRecDepth 100000 in
noncomputable def E_w_take4 (x : Int32) (ln : Int32) (f : Nat → Int32) : Int32 × (Nat → Int32) :=
  Lp (α := Int32 → Int32 → (Nat → Int32) → (Int32 × (Nat → Int32))) (E_w_take4_l3 x) (fun _ _ _ => ((0, fun _ => 0) : Int32 × (Nat → Int32))) (((24 : Int32).toInt - (-9) : Int).toNat + 1) 24 ln f
set_option maxHeartbeats 4000000 in
set_option maxRecDepth 100000 in
theorem w_take4 (l : Launch) (D : va_G) (K : Nat → ClassId) (a0 : Nat) (x : Int32) (a1 : Nat) (ln : Int32) (p_2 : Value) (p_3 : Value) (p_4 : Value) (p_5 : Value) (f : Nat → Int32) (sz : Nat) (zln : 0 ≤ ln.toInt ∧ ln.toInt ≤ 396) : Met l yX8_take wsX8_take ({ frames := 0, cells := 0, slots := 0, locals := 0 }) (va_Pc [.ref a0, .int x] (Pre D K [(a0, .inr (8, [.ref a1, .int ln, p_2, p_3, p_4, p_5])), (a1, .inl (K 0, 400, .inl f))] sz)) (va_Qv (S := Su) (fun (u : Su) => (0 ≤ (u.2.2.2.1 0).toInt ∧ (u.2.2.2.1 0).toInt ≤ 400) ∧ ((u.2.2.2.1 0).toInt = ln.toInt + 4) ∧ (((u.2.2.2.1 0), (u.2.1 0)) = E_w_take4 x ln f) ∧ True) (fun u t => Wd D (va_A [(a0, .inr (8, [.ref a1, .int ln, p_2, p_3, p_4, p_5])), (a1, .inl (K 0, 400, .inl f))] sz) ((fun u => [(a0, .inr (8, [.ref a1, .int (u.2.2.2.1 0), p_2, p_3, p_4, p_5])), (a1, .inl (K 0, 400, .inl (u.2.1 0)))]) u) t) (va_A [(a0, .inr (8, [.ref a1, .int ln, p_2, p_3, p_4, p_5])), (a1, .inl (K 0, 400, .inl f))] sz)) 0 0 (va_A [(a0, .inr (8, [.ref a1, .int ln, p_2, p_3, p_4, p_5])), (a1, .inl (K 0, 400, .inl f))] sz) := by
  refine Met.ofW (cc := cX8_take) (maxL := 3) (ret := none) (by decide +kernel) rfl ?_
  intro p e s m args below meth c s₁ B hml hv
  obtain ⟨rfl, hsz, hP, hK, hD0, hN⟩ := hv
  have hx := B.exec
  have hb := B.bytes
  have hr := B.returns
  have hts := atoms_spec (ws := wsX8_take) B.pre
  have hown : s.vm.findClass RX8 = some m.cls := findClass_of_methodNamed B.named
  have hlocks := B.notSynchronized
  subst hsz
  have hD := hD0.self (sz := s.heap.size)
  generalize hAe : va_A [(a0, .inr (8, [.ref a1, .int ln, p_2, p_3, p_4, p_5])), (a1, .inl (K 0, 400, .inl f))] s.heap.size = A at hD ⊢
  have hA : ∀ q : Nat, s.heap.size ≤ q → A q := fun q h => by rw [← hAe]; exact Or.inr h
  clear hAe
  have hS : va_S A s.heap s.heap [] := va_S.rf
  replace hP : va_P D vwCl [(a0, .inr (8, [.ref a1, .int ln, p_2, p_3, p_4, p_5])), (a1, .inl (K 0, 400, .inl f))] s.heap := hP
  have hl := lv_entry [.ref a0, .int x] (n := 3) (Nat.le_of_ble_eq_true rfl)
  rw [lg_entry_eq]
  generalize (lg_sl [.ref a0, .int x] ++ List.replicate (3 - (lg_sl [.ref a0, .int x]).length) Slot.unset).toArray = ls at hl ⊢
  have hl : lv_has ls 3 [(0, .ref a0), (1, .int x)] := hl
  have hw8 : ∀ w ∈ wsX80, w ∈ wsX8_take := fun w h => (List.mem_cons_of_mem _ (List.mem_append_right _ h))
  generalize hQ : MQ below _ _ s _ _ _ = Q
  have hE := E_w_take4.eq_def x ln f
  refine lv_bipush (v := 24) hx hb dX8_take_0 (by decide +kernel) ?_
  refine lv_istore_n (lv' := [(2, .int 24), (0, .ref a0), (1, .int x)]) hx hb dX8_take_2 rfl hl (by decide +kernel) rfl (fun ls hl => ?_)
  have lp_249 : ∀ (nn_ : Nat) (v_229 : Int32) (v_230 : Int32) (f_231 : Nat → Int32) (hv_229 : (-8) ≤ v_229.toInt ∧ v_229.toInt ≤ 24) (hv_230 : 0 ≤ v_230.toInt ∧ v_230.toInt ≤ 400) (hr0_lp_249 : 8 * (v_230.toInt - ln.toInt) = 24 - v_229.toInt ∧ -8 ≤ v_229.toInt) (hn : (v_229.toInt - (-9) : Int).toNat < nn_) (hE : E_w_take4 x ln f = Lp (α := Int32 → Int32 → (Nat → Int32) → (Int32 × (Nat → Int32))) (E_w_take4_l3 x) (fun _ _ _ => ((0, fun _ => 0) : Int32 × (Nat → Int32))) nn_ v_229 v_230 f_231) (H : Heap) (locs : List Loc) (hP : va_P D vwCl [(a0, .inr (8, [.ref a1, .int v_230, p_2, p_3, p_4, p_5])), (a1, .inl (K 0, 400, .inl f_231))] H) (hD : va_D A [(a0, .inr (8, [.ref a1, .int v_230, p_2, p_3, p_4, p_5])), (a1, .inl (K 0, 400, .inl f_231))]) (hS : va_S A s.heap H locs) (ls : Array Slot) (hl : lv_has ls 3 [(2, .int v_229), (0, .ref a0), (1, .int x)]), W p l e ({ frames := 0, cells := 0, slots := 0, locals := 0 }) s m (([.ref a0, .int x] : List Value).toArray) below meth c H locs 0 0 Q (F0 m 3 ls []) := by
    clear hE hP hD hS hl
    intro nn_
    induction nn_ with
    | zero =>
      intro v_229 v_230 f_231 hv_229 hv_230 hr0_lp_249 hn hE H locs hP hD hS ls hl
      exact absurd hn (Nat.not_lt_zero _)
    | succ nn_ ih_250 =>
      intro v_229 v_230 f_231 hv_229 hv_230 hr0_lp_249 hn hE H locs hP hD hS ls hl
      replace hE : E_w_take4 x ln f = E_w_take4_l3 x (Lp (α := Int32 → Int32 → (Nat → Int32) → (Int32 × (Nat → Int32))) (E_w_take4_l3 x) (fun _ _ _ => ((0, fun _ => 0) : Int32 × (Nat → Int32))) nn_) v_229 v_230 f_231 := hE
      obtain ⟨rec_249, hrec_249⟩ : ∃ z9, z9 = Lp (α := Int32 → Int32 → (Nat → Int32) → (Int32 × (Nat → Int32))) (E_w_take4_l3 x) (fun _ _ _ => ((0, fun _ => 0) : Int32 × (Nat → Int32))) nn_ := ⟨_, rfl⟩
      rw [← hrec_249] at hE
      replace hE := hE.trans (E_w_take4_l3.eq_def _ _ _ _ _)
      refine lv_iload_n hx hb dX8_take_3 rfl (lv_at hl 0 rfl) ?_
      refine lv_if_lt (tgt := 49) hx hb dX8_take_4 (by decide +kernel) (fun c_251 => ?_) (fun c_251 => ?_)
      · have c_251i := i_lt (x := v_229.toInt) (y := 0) rfl rfl c_251
        replace hE := hE.trans (if_pos c_251)
        rw [← hQ]
        have hP9 := hP.sub (ws' := [(a0, .inr (8, [.ref a1, .int v_230, p_2, p_3, p_4, p_5])), (a1, .inl (K 0, 400, .inl f_231))]) [0, 1] rfl
        have hD9 := hD.sub (ws' := [(a0, .inr (8, [.ref a1, .int v_230, p_2, p_3, p_4, p_5])), (a1, .inl (K 0, 400, .inl f_231))]) [0, 1] (by decide +kernel) rfl
        exact W.vret hx hb hr (fun t ht hW => ⟨⟨((fun _ => 0, fun i => match i with | _ => f_231, fun _ => fun _ => 0, fun i => match i with | _ => v_230, fun _ => 0, fun _ => fun _ => none) : Su), rfl, ⟨(show 0 ≤ (v_230 : Int32).toInt ∧ (v_230 : Int32).toInt ≤ 400 by omega), (show (v_230 : Int32).toInt = ln.toInt + 4 by omega), hE.symm, trivial⟩, (⟨by rw [ht]; exact hP9, hD9⟩ : Wd D A _ t)⟩, hS.F ht⟩) hS.2.2 dX8_take_49
      · have c_251i := i_nlt (x := v_229.toInt) (y := 0) rfl rfl c_251
        replace hE := hE.trans (if_neg c_251)
        refine lv_aload_n hx hb dX8_take_7 rfl (lv_at hl 1 rfl) ?_
        refine va_get (ci := 8) (v := .int v_230) (C := RX8) (T := TX8) (N := 6) hx hb hts hw8 hown hK hP 0 rfl rfl 1 (by decide +kernel) (hts _ mm_X8_take_206) (fun _ h9 => h9) rfl dX8_take_8 ?_
        refine lv_sipush (v := 400) hx hb dX8_take_11 (by decide +kernel) ?_
        refine lv_icmp_ge (tgt := 49) hx hb dX8_take_14 (by decide +kernel) (fun c_252 => ?_) (fun c_252 => ?_)
        · have c_252i := i_le (x := 400) (y := v_230.toInt) rfl rfl c_252
          replace hE := hE.trans (if_pos c_252)
          rw [← hQ]
          have hP9 := hP.sub (ws' := [(a0, .inr (8, [.ref a1, .int v_230, p_2, p_3, p_4, p_5])), (a1, .inl (K 0, 400, .inl f_231))]) [0, 1] rfl
          have hD9 := hD.sub (ws' := [(a0, .inr (8, [.ref a1, .int v_230, p_2, p_3, p_4, p_5])), (a1, .inl (K 0, 400, .inl f_231))]) [0, 1] (by decide +kernel) rfl
          exact W.vret hx hb hr (fun t ht hW => ⟨⟨((fun _ => 0, fun i => match i with | _ => f_231, fun _ => fun _ => 0, fun i => match i with | _ => v_230, fun _ => 0, fun _ => fun _ => none) : Su), rfl, ⟨(show 0 ≤ (v_230 : Int32).toInt ∧ (v_230 : Int32).toInt ≤ 400 by omega), (show (v_230 : Int32).toInt = ln.toInt + 4 by omega), hE.symm, trivial⟩, (⟨by rw [ht]; exact hP9, hD9⟩ : Wd D A _ t)⟩, hS.F ht⟩) hS.2.2 dX8_take_49
        · have c_252i := i_nle (x := 400) (y := v_230.toInt) rfl rfl c_252
          replace hE := hE.trans (if_neg c_252)
          refine lv_aload_n hx hb dX8_take_17 rfl (lv_at hl 1 rfl) ?_
          refine va_get (ci := 8) (v := .ref a1) (C := RX8) (T := TX8) (N := 6) hx hb hts hw8 hown hK hP 0 rfl rfl 0 (by decide +kernel) (hts _ mm_X8_take_205) (fun _ h9 => h9) rfl dX8_take_18 ?_
          refine lv_aload_n hx hb dX8_take_21 rfl (lv_at hl 1 rfl) ?_
          refine va_get (ci := 8) (v := .int v_230) (C := RX8) (T := TX8) (N := 6) hx hb hts hw8 hown hK hP 0 rfl rfl 1 (by decide +kernel) (hts _ mm_X8_take_206) (fun _ h9 => h9) rfl dX8_take_22 ?_
          refine lv_iload_n hx hb dX8_take_25 rfl (lv_at hl 2 rfl) ?_
          refine lv_iload_n hx hb dX8_take_26 rfl (lv_at hl 0 rfl) ?_
          refine lv_ishr hx hb dX8_take_27 ?_
          refine lv_topi (fun x_253 ex_253 => ?_)
          replace hE := hE.trans (Lt_in ex_253)
          refine lv_sipush (v := 255) hx hb dX8_take_28 (by decide +kernel) ?_
          refine lv_iand hx hb dX8_take_31 ?_
          refine lv_topi (fun x_254 ex_254 => ?_)
          replace hE := hE.trans (Lt_in ex_254)
          have hx_254 : 0 ≤ x_254.toInt ∧ x_254.toInt ≤ 255 := by rw [ex_254]; exact i_mask x_253 8 rfl (by decide +kernel)
          refine va_iast hx hb hK hP hD hS 1 0 rfl rfl (i_in rfl (by omega)) dX8_take_32 (fun H locs hP0 hD0 hS0 => ?_)
          clear hP hD hS
          have hP := hP0
          have hD := hD0
          have hS := hS0
          clear hP0 hD0 hS0
          generalize hf_255 : (upd f_231 (v_230 : Int32).toNatClampNeg x_254) = f_255 at hP hD
          replace hE := hE.trans (Lt_in hf_255.symm)
          replace hP : va_P D vwCl [(a0, .inr (8, [.ref a1, .int v_230, p_2, p_3, p_4, p_5])), (a1, .inl (K 0, 400, .inl f_255))] H := hP
          replace hD : va_D A [(a0, .inr (8, [.ref a1, .int v_230, p_2, p_3, p_4, p_5])), (a1, .inl (K 0, 400, .inl f_255))] := hD
          refine lv_aload_n hx hb dX8_take_33 rfl (lv_at hl 1 rfl) ?_
          refine lv_dup hx hb dX8_take_34 rfl ?_
          refine va_get (ci := 8) (v := .int v_230) (C := RX8) (T := TX8) (N := 6) hx hb hts hw8 hown hK hP 0 rfl rfl 1 (by decide +kernel) (hts _ mm_X8_take_206) (fun _ h9 => h9) rfl dX8_take_35 ?_
          refine lv_iconst (v := 1) hx hb dX8_take_38 (by decide +kernel) ?_
          refine lv_iadd hx hb dX8_take_39 ?_
          refine lv_topi (fun x_256 ex_256 => ?_)
          replace hE := hE.trans (Lt_in ex_256)
          have hx_256 : x_256.toInt = (v_230.toInt + 1) := by rw [ex_256]; exact i_add rfl (show (1 : Int32).toInt = 1 from rfl) (by omega)
          refine va_put (ci := 8) (v := .int x_256) (ty := .int) (C := RX8) (T := TX8) (N := 6) hx hb hts hw8 tyX8 tyX8_ok nmX8 hown hK hP hD hS 0 rfl rfl 1 (by decide +kernel) (hts _ mm_X8_take_206) (fun _ h9 => h9) rfl (by decide +kernel) (by first | rfl | decide) (by first | rfl | decide) (Nat.le_of_ble_eq_true rfl) dX8_take_40 (fun H locs hP0 hD0 hS0 => ?_)
          clear hP hD hS
          have hP := hP0
          have hD := hD0
          have hS := hS0
          clear hP0 hD0 hS0
          replace hP : va_P D vwCl [(a0, .inr (8, [.ref a1, .int x_256, p_2, p_3, p_4, p_5])), (a1, .inl (K 0, 400, .inl f_255))] H := hP
          replace hD : va_D A [(a0, .inr (8, [.ref a1, .int x_256, p_2, p_3, p_4, p_5])), (a1, .inl (K 0, 400, .inl f_255))] := hD
          obtain ⟨x_257, ex_257⟩ : ∃ y : Int32, y = v_229 + Int32.ofInt (-8) := ⟨_, rfl⟩
          replace hE := hE.trans (Lt_in ex_257)
          have hx_257 : x_257.toInt = (v_229.toInt + (-8)) := by rw [ex_257]; exact i_add rfl (show (Int32.ofInt (-8)).toInt = (-8) from rfl) (by omega)
          refine lv_iinc (v := x_257) (lv' := [(2, .int x_257), (0, .ref a0), (1, .int x)]) hx hb dX8_take_43 hl (k := 0) rfl (by rw [ex_257]) (by decide +kernel) rfl (fun ls hl => ?_)
          refine lv_goto (tgt := 3) hx hb dX8_take_46 (by decide +kernel) ?_
          exact ih_250 x_257 x_256 f_255 (by rw [hx_257]; omega) (by rw [hx_256]; omega) (show 8 * ((x_256 : Int32).toInt - ln.toInt) = 24 - (x_257 : Int32).toInt ∧ -8 ≤ (x_257 : Int32).toInt by omega) (by omega) (hE.trans (by rw [hrec_249])) _ _ hP hD hS ls (lv_sub hl [0, 1, 2] rfl)
  have hz_258 : (24 : Int32).toInt = 24 := rfl
  exact lp_249 (((24 : Int32).toInt - (-9) : Int).toNat + 1) 24 ln f (by decide +kernel) (by omega) (show 8 * ((ln : Int32).toInt - ln.toInt) = 24 - (24 : Int32).toInt ∧ -8 ≤ (24 : Int32).toInt by omega) (Nat.lt_succ_self _) hE _ _ hP hD hS ls (lv_sub hl [0, 1, 2] rfl)
set_option maxRecDepth 100000 in
noncomputable def E_w_feed (x0 : Int32) (x1 : Int32) (x2 : Int32) (x3 : Int32) (x4 : Int32) (ln : Int32) (fb : Nat → Int32) : Int32 × Int32 × (Nat → Int32) :=
  Lt (ln + 20 : Int32) (fun x_115 => if x_115 ≤ 400 then (Lt2 (E_w_take4 x0 ln fb) (fun u_118_2_2_2_1_0 u_118_2_1_0 => Lt2 (E_w_take4 x1 u_118_2_2_2_1_0 u_118_2_1_0) (fun u_123_2_2_2_1_0 u_123_2_1_0 => Lt2 (E_w_take4 x2 u_123_2_2_2_1_0 u_123_2_1_0) (fun u_128_2_2_2_1_0 u_128_2_1_0 => Lt2 (E_w_take4 x3 u_128_2_2_2_1_0 u_128_2_1_0) (fun u_133_2_2_2_1_0 u_133_2_1_0 => Lt2 (E_w_take4 x4 u_133_2_2_2_1_0 u_133_2_1_0) (fun u_138_2_2_2_1_0 u_138_2_1_0 => ((u_138_2_2_2_1_0, u_138_2_2_2_1_0, u_138_2_1_0) : Int32 × Int32 × (Nat → Int32)))))))) else ((((-1), ln, fb) : Int32 × Int32 × (Nat → Int32))))
set_option maxHeartbeats 4000000 in
set_option maxRecDepth 100000 in
theorem w_feed (l : Launch) (D : va_G) (K : Nat → ClassId) (o0 : Nat) (x0 : Int32) (x1 : Int32) (x2 : Int32) (x3 : Int32) (x4 : Int32) (o_0 : Value) (o_1 : Value) (o_2 : Value) (o_3 : Value) (o_4 : Value) (p0 : Nat) (o_6 : Value) (o_7 : Value) (o_8 : Value) (o_9 : Value) (o_10 : Value) (o_11 : Value) (o_12 : Value) (o_13 : Value) (o_14 : Value) (o_15 : Value) (o_16 : Value) (p1 : Nat) (ln : Int32) (p_2 : Value) (p_3 : Value) (p_4 : Value) (p_5 : Value) (fb : Nat → Int32) (sz : Nat) (zln : 0 ≤ ln.toInt ∧ ln.toInt ≤ 400) : Met l yX11_feed wsX11_feed ({ frames := 1, cells := 0, slots := 0, locals := 22 }) (va_Pc [.ref o0, .int x0, .int x1, .int x2, .int x3, .int x4] (Pre D K [(o0, .inr (11, [o_0, o_1, o_2, o_3, o_4, .ref p0, o_6, o_7, o_8, o_9, o_10, o_11, o_12, o_13, o_14, o_15, o_16])), (p0, .inr (8, [.ref p1, .int ln, p_2, p_3, p_4, p_5])), (p1, .inl (K 0, 400, .inl fb))] sz)) (va_Qi (S := Su) (fun (r : Int32) (u : Su) => ((-1) ≤ r.toInt ∧ r.toInt ≤ 400) ∧ (0 ≤ (u.2.2.2.1 0).toInt ∧ (u.2.2.2.1 0).toInt ≤ 400) ∧ (((400 < ln.toInt + 20 ∧ (u.2.2.2.1 0).toInt = ln.toInt) ∨ (ln.toInt + 20 ≤ 400 ∧ (u.2.2.2.1 0).toInt = ln.toInt + 20))) ∧ ((r, (u.2.2.2.1 0), (u.2.1 0)) = E_w_feed x0 x1 x2 x3 x4 ln fb) ∧ True) (fun u t => Wd D (va_A [(o0, .inr (11, [o_0, o_1, o_2, o_3, o_4, .ref p0, o_6, o_7, o_8, o_9, o_10, o_11, o_12, o_13, o_14, o_15, o_16])), (p0, .inr (8, [.ref p1, .int ln, p_2, p_3, p_4, p_5])), (p1, .inl (K 0, 400, .inl fb))] sz) ((fun u => [(o0, .inr (11, [o_0, o_1, o_2, o_3, o_4, .ref p0, o_6, o_7, o_8, o_9, o_10, o_11, o_12, o_13, o_14, o_15, o_16])), (p0, .inr (8, [.ref p1, .int (u.2.2.2.1 0), p_2, p_3, p_4, p_5])), (p1, .inl (K 0, 400, .inl (u.2.1 0)))]) u) t) (va_A [(o0, .inr (11, [o_0, o_1, o_2, o_3, o_4, .ref p0, o_6, o_7, o_8, o_9, o_10, o_11, o_12, o_13, o_14, o_15, o_16])), (p0, .inr (8, [.ref p1, .int ln, p_2, p_3, p_4, p_5])), (p1, .inl (K 0, 400, .inl fb))] sz)) 0 0 (va_A [(o0, .inr (11, [o_0, o_1, o_2, o_3, o_4, .ref p0, o_6, o_7, o_8, o_9, o_10, o_11, o_12, o_13, o_14, o_15, o_16])), (p0, .inr (8, [.ref p1, .int ln, p_2, p_3, p_4, p_5])), (p1, .inl (K 0, 400, .inl fb))] sz) := by
  refine Met.ofW (cc := cX11_feed) (maxL := 6) (ret := (some .int)) (by decide +kernel) rfl ?_
  intro p e s m args below meth c s₁ B hml hv
  obtain ⟨rfl, hsz, hP, hK, hD0, hN⟩ := hv
  have hx := B.exec
  have hb := B.bytes
  have hr := B.returns
  have hts := atoms_spec (ws := wsX11_feed) B.pre
  have hown : s.vm.findClass RX11 = some m.cls := findClass_of_methodNamed B.named
  have hlocks := B.notSynchronized
  subst hsz
  have hD := hD0.self (sz := s.heap.size)
  generalize hAe : va_A [(o0, .inr (11, [o_0, o_1, o_2, o_3, o_4, .ref p0, o_6, o_7, o_8, o_9, o_10, o_11, o_12, o_13, o_14, o_15, o_16])), (p0, .inr (8, [.ref p1, .int ln, p_2, p_3, p_4, p_5])), (p1, .inl (K 0, 400, .inl fb))] s.heap.size = A at hD ⊢
  have hA : ∀ q : Nat, s.heap.size ≤ q → A q := fun q h => by rw [← hAe]; exact Or.inr h
  clear hAe
  have hS : va_S A s.heap s.heap [] := va_S.rf
  replace hP : va_P D vwCl [(o0, .inr (11, [o_0, o_1, o_2, o_3, o_4, .ref p0, o_6, o_7, o_8, o_9, o_10, o_11, o_12, o_13, o_14, o_15, o_16])), (p0, .inr (8, [.ref p1, .int ln, p_2, p_3, p_4, p_5])), (p1, .inl (K 0, 400, .inl fb))] s.heap := hP
  have hl := lv_entry [.ref o0, .int x0, .int x1, .int x2, .int x3, .int x4] (n := 6) (Nat.le_of_ble_eq_true rfl)
  rw [lg_entry_eq]
  generalize (lg_sl [.ref o0, .int x0, .int x1, .int x2, .int x3, .int x4] ++ List.replicate (6 - (lg_sl [.ref o0, .int x0, .int x1, .int x2, .int x3, .int x4]).length) Slot.unset).toArray = ls at hl ⊢
  have hl : lv_has ls 6 [(0, .ref o0), (1, .int x0), (2, .int x1), (3, .int x2), (4, .int x3), (5, .int x4)] := hl
  have hw8 : ∀ w ∈ wsX80, w ∈ wsX11_feed := fun w h => (List.mem_cons_of_mem _ (List.mem_append_right _ h))
  have hw11 : ∀ w ∈ wsX110, w ∈ wsX11_feed := fun w h => (List.mem_cons_of_mem _ (List.mem_append_left _ (List.mem_append_right _ h)))
  generalize hQ : MQ below _ _ s _ _ _ = Q
  have hE := E_w_feed.eq_def x0 x1 x2 x3 x4 ln fb
  refine lv_aload_n hx hb dX11_feed_0 rfl (lv_at hl 0 rfl) ?_
  refine va_get (ci := 11) (v := .ref p0) (C := RX11) (T := TX11) (N := 17) hx hb hts hw11 hown hK hP 0 rfl rfl 5 (by decide +kernel) (hts _ mm_X11_feed_339) (fun _ h9 => h9) rfl dX11_feed_1 ?_
  refine va_getN (ci := 8) (v := .int ln) (C := RX8) (T := TX8) (N := 6) hx hb hts hw8 hown hK hP 1 rfl rfl 1 (by decide +kernel) (nst_use hN 120 rfl) (fun _ h9 => h9) rfl dX11_feed_4 ?_
  refine lv_bipush (v := 20) hx hb dX11_feed_7 (by decide +kernel) ?_
  refine lv_iadd hx hb dX11_feed_9 ?_
  refine lv_topi (fun x_115 ex_115 => ?_)
  replace hE := hE.trans (Lt_in ex_115)
  have hx_115 : x_115.toInt = (ln.toInt + 20) := by rw [ex_115]; exact i_add rfl (show (20 : Int32).toInt = 20 from rfl) (by omega)
  refine lv_sipush (v := 400) hx hb dX11_feed_10 (by decide +kernel) ?_
  refine lv_icmp_le (tgt := 18) hx hb dX11_feed_13 (by decide +kernel) (fun c_116 => ?_) (fun c_116 => ?_)
  · have c_116i := i_le (x := (ln.toInt + 20)) (y := 400) hx_115 rfl c_116
    replace hE := hE.trans (if_pos c_116)
    refine lv_aload_n hx hb dX11_feed_18 rfl (lv_at hl 0 rfl) ?_
    refine va_get (ci := 11) (v := .ref p0) (C := RX11) (T := TX11) (N := 17) hx hb hts hw11 hown hK hP 0 rfl rfl 5 (by decide +kernel) (hts _ mm_X11_feed_339) (fun _ h9 => h9) rfl dX11_feed_19 ?_
    refine lv_iload_n hx hb dX11_feed_22 rfl (lv_at hl 1 rfl) ?_
    refine kcv (S := Su) (wr := [(o0, .inr (11, [o_0, o_1, o_2, o_3, o_4, .ref p0, o_6, o_7, o_8, o_9, o_10, o_11, o_12, o_13, o_14, o_15, o_16]))]) (va_runVN (As := [.int x0]) (rest := []) ⟨hx, hb, hml, hown, hts⟩ (w_take4 l D K p0 x0 p1 ln p_2 p_3 p_4 p_5 fb s.heap.size (by first | omega | decide)) ⟨va_cnB 1 hts gX11_feed_X8_take_n166 rfl rfl rfl (nst_at hN 29 rfl) (hts _ mm_X11_feed_147) (by decide +kernel) ⟨Nat.le_of_ble_eq_true rfl, Nat.le_of_ble_eq_true rfl⟩, (hts _ mm_X11_feed_449), (hts _ mm_X11_feed_18)⟩ (mkV hK hN (hP.sub [1, 2] rfl) (hD.sub [1, 2] (by decide +kernel) rfl) (ci := 8) (q0 := 0) rfl rfl) rfl rfl hl.1 rfl (lv_room (Nat.le_of_ble_eq_true rfl)) dX11_feed_23 ⟨Nat.le_of_ble_eq_true rfl, Nat.le_of_ble_eq_true rfl⟩) hP hD hS hA [1, 2] [0] rfl rfl (by decide +kernel) (by decide +kernel) (fun u_118 H locs hw hP0 hD0 hS0 => ?_)
    clear hP hD hS
    have hP := hP0
    have hD := hD0
    have hS := hS0
    clear hP0 hD0 hS0
    replace hP : va_P D vwCl [(o0, .inr (11, [o_0, o_1, o_2, o_3, o_4, .ref p0, o_6, o_7, o_8, o_9, o_10, o_11, o_12, o_13, o_14, o_15, o_16])), (p0, .inr (8, [.ref p1, .int (u_118.2.2.2.1 0), p_2, p_3, p_4, p_5])), (p1, .inl (K 0, 400, .inl (u_118.2.1 0)))] H := hP
    replace hD : va_D A [(o0, .inr (11, [o_0, o_1, o_2, o_3, o_4, .ref p0, o_6, o_7, o_8, o_9, o_10, o_11, o_12, o_13, o_14, o_15, o_16])), (p0, .inr (8, [.ref p1, .int (u_118.2.2.2.1 0), p_2, p_3, p_4, p_5])), (p1, .inl (K 0, 400, .inl (u_118.2.1 0)))] := hD
    obtain ⟨k_119, k_120, k_121, -⟩ := hw
    replace hE := hE.trans (Lt2_in k_121)
    refine lv_aload_n hx hb dX11_feed_26 rfl (lv_at hl 0 rfl) ?_
    refine va_get (ci := 11) (v := .ref p0) (C := RX11) (T := TX11) (N := 17) hx hb hts hw11 hown hK hP 0 rfl rfl 5 (by decide +kernel) (hts _ mm_X11_feed_339) (fun _ h9 => h9) rfl dX11_feed_27 ?_
    refine lv_iload_n hx hb dX11_feed_30 rfl (lv_at hl 2 rfl) ?_
    refine kcv (S := Su) (wr := [(o0, .inr (11, [o_0, o_1, o_2, o_3, o_4, .ref p0, o_6, o_7, o_8, o_9, o_10, o_11, o_12, o_13, o_14, o_15, o_16]))]) (va_runVN (As := [.int x1]) (rest := []) ⟨hx, hb, hml, hown, hts⟩ (w_take4 l D K p0 x1 p1 (u_118.2.2.2.1 0) p_2 p_3 p_4 p_5 (u_118.2.1 0) H.size (by first | omega | decide)) ⟨va_cnB 1 hts gX11_feed_X8_take_n166 rfl rfl rfl (nst_at hN 29 rfl) (hts _ mm_X11_feed_147) (by decide +kernel) ⟨Nat.le_of_ble_eq_true rfl, Nat.le_of_ble_eq_true rfl⟩, (hts _ mm_X11_feed_449), (hts _ mm_X11_feed_18)⟩ (mkV hK hN (hP.sub [1, 2] rfl) (hD.sub [1, 2] (by decide +kernel) rfl) (ci := 8) (q0 := 0) rfl rfl) rfl rfl hl.1 rfl (lv_room (Nat.le_of_ble_eq_true rfl)) dX11_feed_31 ⟨Nat.le_of_ble_eq_true rfl, Nat.le_of_ble_eq_true rfl⟩) hP hD hS hA [1, 2] [0] rfl rfl (by decide +kernel) (by decide +kernel) (fun u_123 H locs hw hP0 hD0 hS0 => ?_)
    clear hP hD hS
    have hP := hP0
    have hD := hD0
    have hS := hS0
    clear hP0 hD0 hS0
    replace hP : va_P D vwCl [(o0, .inr (11, [o_0, o_1, o_2, o_3, o_4, .ref p0, o_6, o_7, o_8, o_9, o_10, o_11, o_12, o_13, o_14, o_15, o_16])), (p0, .inr (8, [.ref p1, .int (u_123.2.2.2.1 0), p_2, p_3, p_4, p_5])), (p1, .inl (K 0, 400, .inl (u_123.2.1 0)))] H := hP
    replace hD : va_D A [(o0, .inr (11, [o_0, o_1, o_2, o_3, o_4, .ref p0, o_6, o_7, o_8, o_9, o_10, o_11, o_12, o_13, o_14, o_15, o_16])), (p0, .inr (8, [.ref p1, .int (u_123.2.2.2.1 0), p_2, p_3, p_4, p_5])), (p1, .inl (K 0, 400, .inl (u_123.2.1 0)))] := hD
    obtain ⟨k_124, k_125, k_126, -⟩ := hw
    replace hE := hE.trans (Lt2_in k_126)
    refine lv_aload_n hx hb dX11_feed_34 rfl (lv_at hl 0 rfl) ?_
    refine va_get (ci := 11) (v := .ref p0) (C := RX11) (T := TX11) (N := 17) hx hb hts hw11 hown hK hP 0 rfl rfl 5 (by decide +kernel) (hts _ mm_X11_feed_339) (fun _ h9 => h9) rfl dX11_feed_35 ?_
    refine lv_iload_n hx hb dX11_feed_38 rfl (lv_at hl 3 rfl) ?_
    refine kcv (S := Su) (wr := [(o0, .inr (11, [o_0, o_1, o_2, o_3, o_4, .ref p0, o_6, o_7, o_8, o_9, o_10, o_11, o_12, o_13, o_14, o_15, o_16]))]) (va_runVN (As := [.int x2]) (rest := []) ⟨hx, hb, hml, hown, hts⟩ (w_take4 l D K p0 x2 p1 (u_123.2.2.2.1 0) p_2 p_3 p_4 p_5 (u_123.2.1 0) H.size (by first | omega | decide)) ⟨va_cnB 1 hts gX11_feed_X8_take_n166 rfl rfl rfl (nst_at hN 29 rfl) (hts _ mm_X11_feed_147) (by decide +kernel) ⟨Nat.le_of_ble_eq_true rfl, Nat.le_of_ble_eq_true rfl⟩, (hts _ mm_X11_feed_449), (hts _ mm_X11_feed_18)⟩ (mkV hK hN (hP.sub [1, 2] rfl) (hD.sub [1, 2] (by decide +kernel) rfl) (ci := 8) (q0 := 0) rfl rfl) rfl rfl hl.1 rfl (lv_room (Nat.le_of_ble_eq_true rfl)) dX11_feed_39 ⟨Nat.le_of_ble_eq_true rfl, Nat.le_of_ble_eq_true rfl⟩) hP hD hS hA [1, 2] [0] rfl rfl (by decide +kernel) (by decide +kernel) (fun u_128 H locs hw hP0 hD0 hS0 => ?_)
    clear hP hD hS
    have hP := hP0
    have hD := hD0
    have hS := hS0
    clear hP0 hD0 hS0
    replace hP : va_P D vwCl [(o0, .inr (11, [o_0, o_1, o_2, o_3, o_4, .ref p0, o_6, o_7, o_8, o_9, o_10, o_11, o_12, o_13, o_14, o_15, o_16])), (p0, .inr (8, [.ref p1, .int (u_128.2.2.2.1 0), p_2, p_3, p_4, p_5])), (p1, .inl (K 0, 400, .inl (u_128.2.1 0)))] H := hP
    replace hD : va_D A [(o0, .inr (11, [o_0, o_1, o_2, o_3, o_4, .ref p0, o_6, o_7, o_8, o_9, o_10, o_11, o_12, o_13, o_14, o_15, o_16])), (p0, .inr (8, [.ref p1, .int (u_128.2.2.2.1 0), p_2, p_3, p_4, p_5])), (p1, .inl (K 0, 400, .inl (u_128.2.1 0)))] := hD
    obtain ⟨k_129, k_130, k_131, -⟩ := hw
    replace hE := hE.trans (Lt2_in k_131)
    refine lv_aload_n hx hb dX11_feed_42 rfl (lv_at hl 0 rfl) ?_
    refine va_get (ci := 11) (v := .ref p0) (C := RX11) (T := TX11) (N := 17) hx hb hts hw11 hown hK hP 0 rfl rfl 5 (by decide +kernel) (hts _ mm_X11_feed_339) (fun _ h9 => h9) rfl dX11_feed_43 ?_
    refine lv_iload hx hb dX11_feed_46 (lv_at hl 4 rfl) ?_
    refine kcv (S := Su) (wr := [(o0, .inr (11, [o_0, o_1, o_2, o_3, o_4, .ref p0, o_6, o_7, o_8, o_9, o_10, o_11, o_12, o_13, o_14, o_15, o_16]))]) (va_runVN (As := [.int x3]) (rest := []) ⟨hx, hb, hml, hown, hts⟩ (w_take4 l D K p0 x3 p1 (u_128.2.2.2.1 0) p_2 p_3 p_4 p_5 (u_128.2.1 0) H.size (by first | omega | decide)) ⟨va_cnB 1 hts gX11_feed_X8_take_n166 rfl rfl rfl (nst_at hN 29 rfl) (hts _ mm_X11_feed_147) (by decide +kernel) ⟨Nat.le_of_ble_eq_true rfl, Nat.le_of_ble_eq_true rfl⟩, (hts _ mm_X11_feed_449), (hts _ mm_X11_feed_18)⟩ (mkV hK hN (hP.sub [1, 2] rfl) (hD.sub [1, 2] (by decide +kernel) rfl) (ci := 8) (q0 := 0) rfl rfl) rfl rfl hl.1 rfl (lv_room (Nat.le_of_ble_eq_true rfl)) dX11_feed_48 ⟨Nat.le_of_ble_eq_true rfl, Nat.le_of_ble_eq_true rfl⟩) hP hD hS hA [1, 2] [0] rfl rfl (by decide +kernel) (by decide +kernel) (fun u_133 H locs hw hP0 hD0 hS0 => ?_)
    clear hP hD hS
    have hP := hP0
    have hD := hD0
    have hS := hS0
    clear hP0 hD0 hS0
    replace hP : va_P D vwCl [(o0, .inr (11, [o_0, o_1, o_2, o_3, o_4, .ref p0, o_6, o_7, o_8, o_9, o_10, o_11, o_12, o_13, o_14, o_15, o_16])), (p0, .inr (8, [.ref p1, .int (u_133.2.2.2.1 0), p_2, p_3, p_4, p_5])), (p1, .inl (K 0, 400, .inl (u_133.2.1 0)))] H := hP
    replace hD : va_D A [(o0, .inr (11, [o_0, o_1, o_2, o_3, o_4, .ref p0, o_6, o_7, o_8, o_9, o_10, o_11, o_12, o_13, o_14, o_15, o_16])), (p0, .inr (8, [.ref p1, .int (u_133.2.2.2.1 0), p_2, p_3, p_4, p_5])), (p1, .inl (K 0, 400, .inl (u_133.2.1 0)))] := hD
    obtain ⟨k_134, k_135, k_136, -⟩ := hw
    replace hE := hE.trans (Lt2_in k_136)
    refine lv_aload_n hx hb dX11_feed_51 rfl (lv_at hl 0 rfl) ?_
    refine va_get (ci := 11) (v := .ref p0) (C := RX11) (T := TX11) (N := 17) hx hb hts hw11 hown hK hP 0 rfl rfl 5 (by decide +kernel) (hts _ mm_X11_feed_339) (fun _ h9 => h9) rfl dX11_feed_52 ?_
    refine lv_iload hx hb dX11_feed_55 (lv_at hl 5 rfl) ?_
    refine kcv (S := Su) (wr := [(o0, .inr (11, [o_0, o_1, o_2, o_3, o_4, .ref p0, o_6, o_7, o_8, o_9, o_10, o_11, o_12, o_13, o_14, o_15, o_16]))]) (va_runVN (As := [.int x4]) (rest := []) ⟨hx, hb, hml, hown, hts⟩ (w_take4 l D K p0 x4 p1 (u_133.2.2.2.1 0) p_2 p_3 p_4 p_5 (u_133.2.1 0) H.size (by first | omega | decide)) ⟨va_cnB 1 hts gX11_feed_X8_take_n166 rfl rfl rfl (nst_at hN 29 rfl) (hts _ mm_X11_feed_147) (by decide +kernel) ⟨Nat.le_of_ble_eq_true rfl, Nat.le_of_ble_eq_true rfl⟩, (hts _ mm_X11_feed_449), (hts _ mm_X11_feed_18)⟩ (mkV hK hN (hP.sub [1, 2] rfl) (hD.sub [1, 2] (by decide +kernel) rfl) (ci := 8) (q0 := 0) rfl rfl) rfl rfl hl.1 rfl (lv_room (Nat.le_of_ble_eq_true rfl)) dX11_feed_57 ⟨Nat.le_of_ble_eq_true rfl, Nat.le_of_ble_eq_true rfl⟩) hP hD hS hA [1, 2] [0] rfl rfl (by decide +kernel) (by decide +kernel) (fun u_138 H locs hw hP0 hD0 hS0 => ?_)
    clear hP hD hS
    have hP := hP0
    have hD := hD0
    have hS := hS0
    clear hP0 hD0 hS0
    replace hP : va_P D vwCl [(o0, .inr (11, [o_0, o_1, o_2, o_3, o_4, .ref p0, o_6, o_7, o_8, o_9, o_10, o_11, o_12, o_13, o_14, o_15, o_16])), (p0, .inr (8, [.ref p1, .int (u_138.2.2.2.1 0), p_2, p_3, p_4, p_5])), (p1, .inl (K 0, 400, .inl (u_138.2.1 0)))] H := hP
    replace hD : va_D A [(o0, .inr (11, [o_0, o_1, o_2, o_3, o_4, .ref p0, o_6, o_7, o_8, o_9, o_10, o_11, o_12, o_13, o_14, o_15, o_16])), (p0, .inr (8, [.ref p1, .int (u_138.2.2.2.1 0), p_2, p_3, p_4, p_5])), (p1, .inl (K 0, 400, .inl (u_138.2.1 0)))] := hD
    obtain ⟨k_139, k_140, k_141, -⟩ := hw
    replace hE := hE.trans (Lt2_in k_141)
    refine lv_aload_n hx hb dX11_feed_60 rfl (lv_at hl 0 rfl) ?_
    refine va_get (ci := 11) (v := .ref p0) (C := RX11) (T := TX11) (N := 17) hx hb hts hw11 hown hK hP 0 rfl rfl 5 (by decide +kernel) (hts _ mm_X11_feed_339) (fun _ h9 => h9) rfl dX11_feed_61 ?_
    refine va_getN (ci := 8) (v := .int (u_138.2.2.2.1 0)) (C := RX8) (T := TX8) (N := 6) hx hb hts hw8 hown hK hP 1 rfl rfl 1 (by decide +kernel) (nst_use hN 120 rfl) (fun _ h9 => h9) rfl dX11_feed_64 ?_
    rw [← hQ]
    have hP9 := hP.sub (ws' := [(o0, .inr (11, [o_0, o_1, o_2, o_3, o_4, .ref p0, o_6, o_7, o_8, o_9, o_10, o_11, o_12, o_13, o_14, o_15, o_16])), (p0, .inr (8, [.ref p1, .int (u_138.2.2.2.1 0), p_2, p_3, p_4, p_5])), (p1, .inl (K 0, 400, .inl (u_138.2.1 0)))]) [0, 1, 2] rfl
    have hD9 := hD.sub (ws' := [(o0, .inr (11, [o_0, o_1, o_2, o_3, o_4, .ref p0, o_6, o_7, o_8, o_9, o_10, o_11, o_12, o_13, o_14, o_15, o_16])), (p0, .inr (8, [.ref p1, .int (u_138.2.2.2.1 0), p_2, p_3, p_4, p_5])), (p1, .inl (K 0, 400, .inl (u_138.2.1 0)))]) [0, 1, 2] (by decide +kernel) rfl
    exact W.iret (v := (u_138.2.2.2.1 0)) hx hb hr (fun t ht hW => ⟨⟨(u_138.2.2.2.1 0), ((fun _ => 0, fun i => match i with | _ => (u_138.2.1 0), fun _ => fun _ => 0, fun i => match i with | _ => (u_138.2.2.2.1 0), fun _ => 0, fun _ => fun _ => none) : Su), rfl, ⟨(show (-1) ≤ (u_138.2.2.2.1 0).toInt ∧ (u_138.2.2.2.1 0).toInt ≤ 400 by omega), (show 0 ≤ ((u_138.2.2.2.1 0) : Int32).toInt ∧ ((u_138.2.2.2.1 0) : Int32).toInt ≤ 400 by omega), (show ((400 < ln.toInt + 20 ∧ ((u_138.2.2.2.1 0) : Int32).toInt = ln.toInt) ∨ (ln.toInt + 20 ≤ 400 ∧ ((u_138.2.2.2.1 0) : Int32).toInt = ln.toInt + 20)) by omega), hE.symm, trivial⟩, (⟨by rw [ht]; exact hP9, hD9⟩ : Wd D A _ t)⟩, hS.F ht⟩) hS.2.2 dX11_feed_67
  · have c_116i := i_nle (x := (ln.toInt + 20)) (y := 400) hx_115 rfl c_116
    replace hE := hE.trans (if_neg c_116)
    refine lv_iconst (v := (-1)) hx hb dX11_feed_16 (by decide +kernel) ?_
    rw [← hQ]
    have hP9 := hP.sub (ws' := [(o0, .inr (11, [o_0, o_1, o_2, o_3, o_4, .ref p0, o_6, o_7, o_8, o_9, o_10, o_11, o_12, o_13, o_14, o_15, o_16])), (p0, .inr (8, [.ref p1, .int ln, p_2, p_3, p_4, p_5])), (p1, .inl (K 0, 400, .inl fb))]) [0, 1, 2] rfl
    have hD9 := hD.sub (ws' := [(o0, .inr (11, [o_0, o_1, o_2, o_3, o_4, .ref p0, o_6, o_7, o_8, o_9, o_10, o_11, o_12, o_13, o_14, o_15, o_16])), (p0, .inr (8, [.ref p1, .int ln, p_2, p_3, p_4, p_5])), (p1, .inl (K 0, 400, .inl fb))]) [0, 1, 2] (by decide +kernel) rfl
    exact W.iret (v := (-1)) hx hb hr (fun t ht hW => ⟨⟨(-1), ((fun _ => 0, fun i => match i with | _ => fb, fun _ => fun _ => 0, fun i => match i with | _ => ln, fun _ => 0, fun _ => fun _ => none) : Su), rfl, ⟨(show (-1) ≤ ((-1) : Int32).toInt ∧ ((-1) : Int32).toInt ≤ 400 by decide), (show 0 ≤ (ln : Int32).toInt ∧ (ln : Int32).toInt ≤ 400 by omega), (show ((400 < ln.toInt + 20 ∧ (ln : Int32).toInt = ln.toInt) ∨ (ln.toInt + 20 ≤ 400 ∧ (ln : Int32).toInt = ln.toInt + 20)) by omega), hE.symm, trivial⟩, (⟨by rw [ht]; exact hP9, hD9⟩ : Wd D A _ t)⟩, hS.F ht⟩) hS.2.2 dX11_feed_17
set_option maxRecDepth 100000 in
noncomputable def E_w_end (x : Int32) (ln : Int32) : Int32 × Int32 :=
  Lt (E_w_within x 0 ln) (fun r_75 => if r_75 = 1 then (((x, x) : Int32 × Int32)) else ((((-1), ln) : Int32 × Int32)))
set_option maxHeartbeats 4000000 in
set_option maxRecDepth 100000 in
theorem w_end (l : Launch) (D : va_G) (K : Nat → ClassId) (o0 : Nat) (x : Int32) (o_0 : Value) (o_1 : Value) (o_2 : Value) (o_3 : Value) (o_4 : Value) (p0 : Nat) (o_6 : Value) (o_7 : Value) (o_8 : Value) (o_9 : Value) (o_10 : Value) (o_11 : Value) (o_12 : Value) (o_13 : Value) (o_14 : Value) (o_15 : Value) (o_16 : Value) (p1 : Nat) (ln : Int32) (p_2 : Value) (p_3 : Value) (p_4 : Value) (p_5 : Value) (sz : Nat) (zln : 0 ≤ ln.toInt ∧ ln.toInt ≤ 400) : Met l yX11_end wsX11_end ({ frames := 1, cells := 0, slots := 0, locals := 22 }) (va_Pc [.ref o0, .int x] (Pre D K [(o0, .inr (11, [o_0, o_1, o_2, o_3, o_4, .ref p0, o_6, o_7, o_8, o_9, o_10, o_11, o_12, o_13, o_14, o_15, o_16])), (p0, .inr (8, [.ref p1, .int ln, p_2, p_3, p_4, p_5]))] sz)) (va_Qi (S := Su) (fun (r : Int32) (u : Su) => ((-1) ≤ r.toInt ∧ r.toInt ≤ 400) ∧ (0 ≤ (u.2.2.2.1 0).toInt ∧ (u.2.2.2.1 0).toInt ≤ 400) ∧ (((r = (-1) ∧ (x.toInt < 0 ∨ ln.toInt < x.toInt) ∧ (u.2.2.2.1 0) = ln) ∨ (r = x ∧ 0 ≤ x.toInt ∧ x.toInt ≤ ln.toInt ∧ (u.2.2.2.1 0) = x))) ∧ ((r, (u.2.2.2.1 0)) = E_w_end x ln) ∧ True) (fun u t => Wd D (va_A [(o0, .inr (11, [o_0, o_1, o_2, o_3, o_4, .ref p0, o_6, o_7, o_8, o_9, o_10, o_11, o_12, o_13, o_14, o_15, o_16])), (p0, .inr (8, [.ref p1, .int ln, p_2, p_3, p_4, p_5]))] sz) ((fun u => [(o0, .inr (11, [o_0, o_1, o_2, o_3, o_4, .ref p0, o_6, o_7, o_8, o_9, o_10, o_11, o_12, o_13, o_14, o_15, o_16])), (p0, .inr (8, [.ref p1, .int (u.2.2.2.1 0), p_2, p_3, p_4, p_5]))]) u) t) (va_A [(o0, .inr (11, [o_0, o_1, o_2, o_3, o_4, .ref p0, o_6, o_7, o_8, o_9, o_10, o_11, o_12, o_13, o_14, o_15, o_16])), (p0, .inr (8, [.ref p1, .int ln, p_2, p_3, p_4, p_5]))] sz)) 0 0 (va_A [(o0, .inr (11, [o_0, o_1, o_2, o_3, o_4, .ref p0, o_6, o_7, o_8, o_9, o_10, o_11, o_12, o_13, o_14, o_15, o_16])), (p0, .inr (8, [.ref p1, .int ln, p_2, p_3, p_4, p_5]))] sz) := by
  refine Met.ofW (cc := cX11_end) (maxL := 2) (ret := (some .int)) (by decide +kernel) rfl ?_
  intro p e s m args below meth c s₁ B hml hv
  obtain ⟨rfl, hsz, hP, hK, hD0, hN⟩ := hv
  have hx := B.exec
  have hb := B.bytes
  have hr := B.returns
  have hts := atoms_spec (ws := wsX11_end) B.pre
  have hown : s.vm.findClass RX11 = some m.cls := findClass_of_methodNamed B.named
  have hlocks := B.notSynchronized
  subst hsz
  have hD := hD0.self (sz := s.heap.size)
  generalize hAe : va_A [(o0, .inr (11, [o_0, o_1, o_2, o_3, o_4, .ref p0, o_6, o_7, o_8, o_9, o_10, o_11, o_12, o_13, o_14, o_15, o_16])), (p0, .inr (8, [.ref p1, .int ln, p_2, p_3, p_4, p_5]))] s.heap.size = A at hD ⊢
  have hA : ∀ q : Nat, s.heap.size ≤ q → A q := fun q h => by rw [← hAe]; exact Or.inr h
  clear hAe
  have hS : va_S A s.heap s.heap [] := va_S.rf
  replace hP : va_P D vwCl [(o0, .inr (11, [o_0, o_1, o_2, o_3, o_4, .ref p0, o_6, o_7, o_8, o_9, o_10, o_11, o_12, o_13, o_14, o_15, o_16])), (p0, .inr (8, [.ref p1, .int ln, p_2, p_3, p_4, p_5]))] s.heap := hP
  have hl := lv_entry [.ref o0, .int x] (n := 2) (Nat.le_of_ble_eq_true rfl)
  rw [lg_entry_eq]
  generalize (lg_sl [.ref o0, .int x] ++ List.replicate (2 - (lg_sl [.ref o0, .int x]).length) Slot.unset).toArray = ls at hl ⊢
  have hl : lv_has ls 2 [(0, .ref o0), (1, .int x)] := hl
  have hw8 : ∀ w ∈ wsX80, w ∈ wsX11_end := fun w h => (List.mem_cons_of_mem _ (List.mem_append_right _ h))
  have hw11 : ∀ w ∈ wsX110, w ∈ wsX11_end := fun w h => (List.mem_cons_of_mem _ (List.mem_append_left _ (List.mem_append_right _ h)))
  generalize hQ : MQ below _ _ s _ _ _ = Q
  have hE := E_w_end.eq_def x ln
  refine lv_iload_n hx hb dX11_end_0 rfl (lv_at hl 1 rfl) ?_
  refine lv_iconst (v := 0) hx hb dX11_end_1 (by decide +kernel) ?_
  refine lv_aload_n hx hb dX11_end_2 rfl (lv_at hl 0 rfl) ?_
  refine va_get (ci := 11) (v := .ref p0) (C := RX11) (T := TX11) (N := 17) hx hb hts hw11 hown hK hP 0 rfl rfl 5 (by decide +kernel) (hts _ mm_X11_end_339) (fun _ h9 => h9) rfl dX11_end_3 ?_
  refine va_getN (ci := 8) (v := .int ln) (C := RX8) (T := TX8) (N := 6) hx hb hts hw8 hown hK hP 1 rfl rfl 1 (by decide +kernel) (nst_use hN 120 rfl) (fun _ h9 => h9) rfl dX11_end_6 ?_
  refine pci (va_runS (As := [.int x, .int 0, .int ln]) (rest := []) ⟨hx, hb, hml, hown, hts⟩ (w_within l D K x.toInt 0 ln.toInt x 0 ln s.heap.size rfl (show (0 : Int32).toInt = 0 from rfl) rfl) (va_cwS 3 hts gX11_end_X11_within rfl rfl rfl (by decide +kernel) ⟨Nat.le_of_ble_eq_true rfl, Nat.le_of_ble_eq_true rfl⟩) (mkS hK hN (va_P.nil) (va_D.nil (A := fun _ => True))) rfl rfl hl.1 rfl (lv_room (Nat.le_of_ble_eq_true rfl)) dX11_end_9 ⟨Nat.le_of_ble_eq_true rfl, Nat.le_of_ble_eq_true rfl⟩) (fun r_75 hw => ?_)
  obtain ⟨hw, k_76, -⟩ := hw
  replace hE := hE.trans (Lt_in k_76)
  rcases hw with ⟨rfl, h_77, h_78⟩ | ⟨rfl, h_79⟩
  · replace hE := (hE).trans (if_pos rfl)
    refine lv_if_ne (tgt := 17) hx hb dX11_end_12 (by decide +kernel) (fun c_80 => ?_) (fun c_80 => absurd c_80 (by decide +kernel))
    refine lv_aload_n hx hb dX11_end_17 rfl (lv_at hl 0 rfl) ?_
    refine va_get (ci := 11) (v := .ref p0) (C := RX11) (T := TX11) (N := 17) hx hb hts hw11 hown hK hP 0 rfl rfl 5 (by decide +kernel) (hts _ mm_X11_end_339) (fun _ h9 => h9) rfl dX11_end_18 ?_
    refine lv_iload_n hx hb dX11_end_21 rfl (lv_at hl 1 rfl) ?_
    refine va_putN (ci := 8) (v := .int x) (ty := .int) (C := RX8) (T := TX8) (N := 6) hx hb hts hw8 tyX8 tyX8_ok nmX8 hown hK hP hD hS 1 rfl rfl 1 (by decide +kernel) (nst_use hN 120 rfl) (fun _ h9 => h9) rfl (by decide +kernel) (by first | rfl | decide) (by first | rfl | decide) (Nat.le_of_ble_eq_true rfl) dX11_end_22 (fun H locs hP0 hD0 hS0 => ?_)
    clear hP hD hS
    have hP := hP0
    have hD := hD0
    have hS := hS0
    clear hP0 hD0 hS0
    replace hP : va_P D vwCl [(o0, .inr (11, [o_0, o_1, o_2, o_3, o_4, .ref p0, o_6, o_7, o_8, o_9, o_10, o_11, o_12, o_13, o_14, o_15, o_16])), (p0, .inr (8, [.ref p1, .int x, p_2, p_3, p_4, p_5]))] H := hP
    replace hD : va_D A [(o0, .inr (11, [o_0, o_1, o_2, o_3, o_4, .ref p0, o_6, o_7, o_8, o_9, o_10, o_11, o_12, o_13, o_14, o_15, o_16])), (p0, .inr (8, [.ref p1, .int x, p_2, p_3, p_4, p_5]))] := hD
    refine lv_iload_n hx hb dX11_end_25 rfl (lv_at hl 1 rfl) ?_
    rw [← hQ]
    have hP9 := hP.sub (ws' := [(o0, .inr (11, [o_0, o_1, o_2, o_3, o_4, .ref p0, o_6, o_7, o_8, o_9, o_10, o_11, o_12, o_13, o_14, o_15, o_16])), (p0, .inr (8, [.ref p1, .int x, p_2, p_3, p_4, p_5]))]) [0, 1] rfl
    have hD9 := hD.sub (ws' := [(o0, .inr (11, [o_0, o_1, o_2, o_3, o_4, .ref p0, o_6, o_7, o_8, o_9, o_10, o_11, o_12, o_13, o_14, o_15, o_16])), (p0, .inr (8, [.ref p1, .int x, p_2, p_3, p_4, p_5]))]) [0, 1] (by decide +kernel) rfl
    exact W.iret (v := x) hx hb hr (fun t ht hW => ⟨⟨x, ((fun _ => 0, fun _ => fun _ => 0, fun _ => fun _ => 0, fun i => match i with | _ => x, fun _ => 0, fun _ => fun _ => none) : Su), rfl, ⟨(show (-1) ≤ x.toInt ∧ x.toInt ≤ 400 by omega), (show 0 ≤ (x : Int32).toInt ∧ (x : Int32).toInt ≤ 400 by omega), Or.inr ⟨rfl, by omega, by omega, rfl⟩, hE.symm, trivial⟩, (⟨by rw [ht]; exact hP9, hD9⟩ : Wd D A _ t)⟩, hS.F ht⟩) hS.2.2 dX11_end_26
  · replace hE := (hE).trans (if_neg (by first | decide | (intro h9; have h8 := congrArg Int32.toInt h9; omega)))
    refine lv_if_ne (tgt := 17) hx hb dX11_end_12 (by decide +kernel) (fun c_81 => absurd (by decide +kernel) c_81) (fun c_81 => ?_)
    refine lv_iconst (v := (-1)) hx hb dX11_end_15 (by decide +kernel) ?_
    rw [← hQ]
    have hP9 := hP.sub (ws' := [(o0, .inr (11, [o_0, o_1, o_2, o_3, o_4, .ref p0, o_6, o_7, o_8, o_9, o_10, o_11, o_12, o_13, o_14, o_15, o_16])), (p0, .inr (8, [.ref p1, .int ln, p_2, p_3, p_4, p_5]))]) [0, 1] rfl
    have hD9 := hD.sub (ws' := [(o0, .inr (11, [o_0, o_1, o_2, o_3, o_4, .ref p0, o_6, o_7, o_8, o_9, o_10, o_11, o_12, o_13, o_14, o_15, o_16])), (p0, .inr (8, [.ref p1, .int ln, p_2, p_3, p_4, p_5]))]) [0, 1] (by decide +kernel) rfl
    exact W.iret (v := (-1)) hx hb hr (fun t ht hW => ⟨⟨(-1), ((fun _ => 0, fun _ => fun _ => 0, fun _ => fun _ => 0, fun i => match i with | _ => ln, fun _ => 0, fun _ => fun _ => none) : Su), rfl, ⟨(show (-1) ≤ ((-1) : Int32).toInt ∧ ((-1) : Int32).toInt ≤ 400 by decide), (show 0 ≤ (ln : Int32).toInt ∧ (ln : Int32).toInt ≤ 400 by omega), Or.inl ⟨rfl, by omega, rfl⟩, hE.symm, trivial⟩, (⟨by rw [ht]; exact hP9, hD9⟩ : Wd D A _ t)⟩, hS.F ht⟩) hS.2.2 dX11_end_16
set_option maxRecDepth 100000 in
noncomputable def E_w_row_j70 (v_706 : Int32) (rec_768 : Int32 → Int32 → (Nat → Int32) → (Int32 × Int32 × Int32 × (Nat → Int32) × Int32 × (Nat → Int32))) (v_787 : Int32) (f_788 : Nat → Int32) : Int32 × Int32 × Int32 × (Nat → Int32) × Int32 × (Nat → Int32) :=
  Lt (v_706 + Int32.ofInt 1 : Int32) (fun x_791 => rec_768 x_791 v_787 f_788)
set_option maxRecDepth 100000 in
noncomputable def E_w_row_l21 (rb : Int32) (frf : Nat → Int32) (ln : Int32) (fb : Nat → Int32) (rec_768 : Int32 → Int32 → (Nat → Int32) → (Int32 × Int32 × Int32 × (Nat → Int32) × Int32 × (Nat → Int32))) (v_706 : Int32) (v_707 : Int32) (f_708 : Nat → Int32) : Int32 × Int32 × Int32 × (Nat → Int32) × Int32 × (Nat → Int32) :=
  if ln ≤ v_706 then (Lt (ln - v_707 : Int32) (fun x_771 => Lt (E_w_accept v_707 rb) (fun r_772 => ((r_772, 0, x_771, frf, 0, f_708) : Int32 × Int32 × Int32 × (Nat → Int32) × Int32 × (Nat → Int32))))) else (Lt (E_w_byteAt v_706 ln fb) (fun r_775 => if 24 ≤ v_706 then (E_w_row_j70 v_706 rec_768 v_707 f_708) else (Lt (E_w_within r_775 0 127) (fun r_793 => if r_793 = 1 then (Lt (upd f_708 (v_706 : Int32).toNatClampNeg r_775 : Nat → Int32) (fun f_799 => Lt (v_707 + Int32.ofInt 1 : Int32) (fun x_800 => E_w_row_j70 v_706 rec_768 x_800 f_799))) else (E_w_row_j70 v_706 rec_768 v_707 f_708)))))
set_option maxRecDepth 100000 in
noncomputable def E_w_row (rb : Int32) (ato : Int32) (frf : Nat → Int32) (ln : Int32) (fb : Nat → Int32) (f3 : Nat → Int32) : Int32 × Int32 × Int32 × (Nat → Int32) × Int32 × (Nat → Int32) :=
  if ln = 0 then (Lt2 (E_w_refuse (-6) rb frf) (fun r_802 u_803_2_1_0 => ((r_802, (-6), ato, u_803_2_1_0, ln, f3) : Int32 × Int32 × Int32 × (Nat → Int32) × Int32 × (Nat → Int32)))) else (Lp (α := Int32 → Int32 → (Nat → Int32) → (Int32 × Int32 × Int32 × (Nat → Int32) × Int32 × (Nat → Int32))) (E_w_row_l21 rb frf ln fb) (fun _ _ _ => ((0, 0, 0, fun _ => 0, 0, fun _ => 0) : Int32 × Int32 × Int32 × (Nat → Int32) × Int32 × (Nat → Int32))) ((401 - (0 : Int32).toInt : Int).toNat + 1) 0 0 f3)
set_option maxHeartbeats 4000000 in
set_option maxRecDepth 100000 in
theorem w_row (l : Launch) (D : va_G) (K : Nat → ClassId) (o0 : Nat) (t0 : Nat) (o_1 : Value) (o_2 : Value) (o_3 : Value) (o_4 : Value) (p0 : Nat) (o_6 : Value) (o_7 : Value) (o_8 : Value) (o_9 : Value) (o_10 : Value) (o_11 : Value) (rf : Nat) (rb : Int32) (ato : Int32) (o_15 : Value) (o_16 : Value) (frf : Nat → Int32) (p1 : Nat) (ln : Int32) (p_2 : Value) (p_3 : Value) (p_4 : Value) (p_5 : Value) (fb : Nat → Int32) (k_0 : Value) (t3 : Nat) (k_2 : Value) (k_3 : Value) (k_4 : Value) (k_5 : Value) (k_6 : Value) (k_7 : Value) (k_8 : Value) (k_9 : Value) (f3 : Nat → Int32) (sz : Nat) (zln : 0 ≤ ln.toInt ∧ ln.toInt ≤ 400) : Met l yX11_row wsX11_row ({ frames := 2, cells := 0, slots := 0, locals := 44 }) (va_Pc [.ref o0] (Pre D K [(o0, .inr (11, [.ref t0, o_1, o_2, o_3, o_4, .ref p0, o_6, o_7, o_8, o_9, o_10, o_11, .ref rf, .int rb, .int ato, o_15, o_16])), (rf, .inl (K 0, 5, .inl frf)), (p0, .inr (8, [.ref p1, .int ln, p_2, p_3, p_4, p_5])), (p1, .inl (K 0, 400, .inl fb)), (t0, .inr (9, [k_0, .ref t3, k_2, k_3, k_4, k_5, k_6, k_7, k_8, k_9])), (t3, .inl (K 0, 24, .inl f3))] sz)) (va_Qi (S := Su) (fun (r : Int32) (u : Su) => ((-6) ≤ (u.2.2.2.1 0).toInt ∧ (u.2.2.2.1 0).toInt ≤ 0) ∧ (0 ≤ (u.2.2.2.1 2).toInt ∧ (u.2.2.2.1 2).toInt ≤ 0) ∧ ((r, (u.2.2.2.1 0), (u.2.2.2.1 1), (u.2.1 0), (u.2.2.2.1 2), (u.2.1 1)) = E_w_row rb ato frf ln fb f3) ∧ True) (fun u t => Wd D (va_A [(o0, .inr (11, [.ref t0, o_1, o_2, o_3, o_4, .ref p0, o_6, o_7, o_8, o_9, o_10, o_11, .ref rf, .int rb, .int ato, o_15, o_16])), (rf, .inl (K 0, 5, .inl frf)), (p0, .inr (8, [.ref p1, .int ln, p_2, p_3, p_4, p_5])), (p1, .inl (K 0, 400, .inl fb)), (t0, .inr (9, [k_0, .ref t3, k_2, k_3, k_4, k_5, k_6, k_7, k_8, k_9])), (t3, .inl (K 0, 24, .inl f3))] sz) ((fun u => [(o0, .inr (11, [.ref t0, o_1, o_2, o_3, o_4, .ref p0, o_6, o_7, o_8, o_9, o_10, o_11, .ref rf, .int (u.2.2.2.1 0), .int (u.2.2.2.1 1), o_15, o_16])), (rf, .inl (K 0, 5, .inl (u.2.1 0))), (p0, .inr (8, [.ref p1, .int (u.2.2.2.1 2), p_2, p_3, p_4, p_5])), (p1, .inl (K 0, 400, .inl fb)), (t0, .inr (9, [k_0, .ref t3, k_2, k_3, k_4, k_5, k_6, k_7, k_8, k_9])), (t3, .inl (K 0, 24, .inl (u.2.1 1)))]) u) t) (va_A [(o0, .inr (11, [.ref t0, o_1, o_2, o_3, o_4, .ref p0, o_6, o_7, o_8, o_9, o_10, o_11, .ref rf, .int rb, .int ato, o_15, o_16])), (rf, .inl (K 0, 5, .inl frf)), (p0, .inr (8, [.ref p1, .int ln, p_2, p_3, p_4, p_5])), (p1, .inl (K 0, 400, .inl fb)), (t0, .inr (9, [k_0, .ref t3, k_2, k_3, k_4, k_5, k_6, k_7, k_8, k_9])), (t3, .inl (K 0, 24, .inl f3))] sz)) 0 0 (va_A [(o0, .inr (11, [.ref t0, o_1, o_2, o_3, o_4, .ref p0, o_6, o_7, o_8, o_9, o_10, o_11, .ref rf, .int rb, .int ato, o_15, o_16])), (rf, .inl (K 0, 5, .inl frf)), (p0, .inr (8, [.ref p1, .int ln, p_2, p_3, p_4, p_5])), (p1, .inl (K 0, 400, .inl fb)), (t0, .inr (9, [k_0, .ref t3, k_2, k_3, k_4, k_5, k_6, k_7, k_8, k_9])), (t3, .inl (K 0, 24, .inl f3))] sz) := by
  refine Met.ofW (cc := cX11_row) (maxL := 4) (ret := (some .int)) (by decide +kernel) rfl ?_
  intro p e s m args below meth c s₁ B hml hv
  obtain ⟨rfl, hsz, hP, hK, hD0, hN⟩ := hv
  have hx := B.exec
  have hb := B.bytes
  have hr := B.returns
  have hts := atoms_spec (ws := wsX11_row) B.pre
  have hown : s.vm.findClass RX11 = some m.cls := findClass_of_methodNamed B.named
  have hlocks := B.notSynchronized
  subst hsz
  have hD := hD0.self (sz := s.heap.size)
  generalize hAe : va_A [(o0, .inr (11, [.ref t0, o_1, o_2, o_3, o_4, .ref p0, o_6, o_7, o_8, o_9, o_10, o_11, .ref rf, .int rb, .int ato, o_15, o_16])), (rf, .inl (K 0, 5, .inl frf)), (p0, .inr (8, [.ref p1, .int ln, p_2, p_3, p_4, p_5])), (p1, .inl (K 0, 400, .inl fb)), (t0, .inr (9, [k_0, .ref t3, k_2, k_3, k_4, k_5, k_6, k_7, k_8, k_9])), (t3, .inl (K 0, 24, .inl f3))] s.heap.size = A at hD ⊢
  have hA : ∀ q : Nat, s.heap.size ≤ q → A q := fun q h => by rw [← hAe]; exact Or.inr h
  clear hAe
  have hS : va_S A s.heap s.heap [] := va_S.rf
  replace hP : va_P D vwCl [(o0, .inr (11, [.ref t0, o_1, o_2, o_3, o_4, .ref p0, o_6, o_7, o_8, o_9, o_10, o_11, .ref rf, .int rb, .int ato, o_15, o_16])), (rf, .inl (K 0, 5, .inl frf)), (p0, .inr (8, [.ref p1, .int ln, p_2, p_3, p_4, p_5])), (p1, .inl (K 0, 400, .inl fb)), (t0, .inr (9, [k_0, .ref t3, k_2, k_3, k_4, k_5, k_6, k_7, k_8, k_9])), (t3, .inl (K 0, 24, .inl f3))] s.heap := hP
  have hl := lv_entry [.ref o0] (n := 4) (Nat.le_of_ble_eq_true rfl)
  rw [lg_entry_eq]
  generalize (lg_sl [.ref o0] ++ List.replicate (4 - (lg_sl [.ref o0]).length) Slot.unset).toArray = ls at hl ⊢
  have hl : lv_has ls 4 [(0, .ref o0)] := hl
  have hw8 : ∀ w ∈ wsX80, w ∈ wsX11_row := fun w h => (List.mem_cons_of_mem _ (List.mem_append_left _ (List.mem_append_right _ h)))
  have hw9 : ∀ w ∈ wsX90, w ∈ wsX11_row := fun w h => (List.mem_cons_of_mem _ (List.mem_append_right _ h))
  have hw11 : ∀ w ∈ wsX110, w ∈ wsX11_row := fun w h => (List.mem_cons_of_mem _ (List.mem_append_left _ (List.mem_append_left _ (List.mem_append_right _ h))))
  generalize hQ : MQ below _ _ s _ _ _ = Q
  have hE := E_w_row.eq_def rb ato frf ln fb f3
  refine lv_aload_n hx hb dX11_row_0 rfl (lv_at hl 0 rfl) ?_
  refine va_get (ci := 11) (v := .ref p0) (C := RX11) (T := TX11) (N := 17) hx hb hts hw11 hown hK hP 0 rfl rfl 5 (by decide +kernel) (hts _ mm_X11_row_339) (fun _ h9 => h9) rfl dX11_row_1 ?_
  refine va_getN (ci := 8) (v := .int ln) (C := RX8) (T := TX8) (N := 6) hx hb hts hw8 hown hK hP 2 rfl rfl 1 (by decide +kernel) (nst_use hN 120 rfl) (fun _ h9 => h9) rfl dX11_row_4 ?_
  refine lv_if_ne (tgt := 17) hx hb dX11_row_7 (by decide +kernel) (fun c_557 => ?_) (fun c_557 => ?_)
  · have c_557i := i_ne (x := ln.toInt) (y := 0) rfl rfl c_557
    replace hE := hE.trans (if_neg c_557)
    refine lv_iconst (v := 0) hx hb dX11_row_17 (by decide +kernel) ?_
    refine lv_istore_n (lv' := [(1, .int 0), (0, .ref o0)]) hx hb dX11_row_18 rfl hl (by decide +kernel) rfl (fun ls hl => ?_)
    refine lv_iconst (v := 0) hx hb dX11_row_19 (by decide +kernel) ?_
    refine lv_istore_n (lv' := [(2, .int 0), (1, .int 0), (0, .ref o0)]) hx hb dX11_row_20 rfl hl (by decide +kernel) rfl (fun ls hl => ?_)
    have lp_768 : ∀ (nn_ : Nat) (v_706 : Int32) (v_707 : Int32) (f_708 : Nat → Int32) (hv_706 : 0 ≤ v_706.toInt ∧ v_706.toInt ≤ 400) (hn : (401 - v_706.toInt : Int).toNat < nn_) (hE : E_w_row rb ato frf ln fb f3 = Lp (α := Int32 → Int32 → (Nat → Int32) → (Int32 × Int32 × Int32 × (Nat → Int32) × Int32 × (Nat → Int32))) (E_w_row_l21 rb frf ln fb) (fun _ _ _ => ((0, 0, 0, fun _ => 0, 0, fun _ => 0) : Int32 × Int32 × Int32 × (Nat → Int32) × Int32 × (Nat → Int32))) nn_ v_706 v_707 f_708) (H : Heap) (locs : List Loc) (hP : va_P D vwCl [(o0, .inr (11, [.ref t0, o_1, o_2, o_3, o_4, .ref p0, o_6, o_7, o_8, o_9, o_10, o_11, .ref rf, .int rb, .int ato, o_15, o_16])), (rf, .inl (K 0, 5, .inl frf)), (p0, .inr (8, [.ref p1, .int ln, p_2, p_3, p_4, p_5])), (p1, .inl (K 0, 400, .inl fb)), (t0, .inr (9, [k_0, .ref t3, k_2, k_3, k_4, k_5, k_6, k_7, k_8, k_9])), (t3, .inl (K 0, 24, .inl f_708))] H) (hD : va_D A [(o0, .inr (11, [.ref t0, o_1, o_2, o_3, o_4, .ref p0, o_6, o_7, o_8, o_9, o_10, o_11, .ref rf, .int rb, .int ato, o_15, o_16])), (rf, .inl (K 0, 5, .inl frf)), (p0, .inr (8, [.ref p1, .int ln, p_2, p_3, p_4, p_5])), (p1, .inl (K 0, 400, .inl fb)), (t0, .inr (9, [k_0, .ref t3, k_2, k_3, k_4, k_5, k_6, k_7, k_8, k_9])), (t3, .inl (K 0, 24, .inl f_708))]) (hS : va_S A s.heap H locs) (ls : Array Slot) (hl : lv_has ls 4 [(2, .int v_706), (1, .int v_707), (0, .ref o0)]), W p l e ({ frames := 2, cells := 0, slots := 0, locals := 44 }) s m (([.ref o0] : List Value).toArray) below meth c H locs 0 0 Q (F0 m 21 ls []) := by
      clear hE hP hD hS hl
      intro nn_
      induction nn_ with
      | zero =>
        intro v_706 v_707 f_708 hv_706 hn hE H locs hP hD hS ls hl
        exact absurd hn (Nat.not_lt_zero _)
      | succ nn_ ih_769 =>
        intro v_706 v_707 f_708 hv_706 hn hE H locs hP hD hS ls hl
        replace hE : E_w_row rb ato frf ln fb f3 = E_w_row_l21 rb frf ln fb (Lp (α := Int32 → Int32 → (Nat → Int32) → (Int32 × Int32 × Int32 × (Nat → Int32) × Int32 × (Nat → Int32))) (E_w_row_l21 rb frf ln fb) (fun _ _ _ => ((0, 0, 0, fun _ => 0, 0, fun _ => 0) : Int32 × Int32 × Int32 × (Nat → Int32) × Int32 × (Nat → Int32))) nn_) v_706 v_707 f_708 := hE
        obtain ⟨rec_768, hrec_768⟩ : ∃ z9, z9 = Lp (α := Int32 → Int32 → (Nat → Int32) → (Int32 × Int32 × Int32 × (Nat → Int32) × Int32 × (Nat → Int32))) (E_w_row_l21 rb frf ln fb) (fun _ _ _ => ((0, 0, 0, fun _ => 0, 0, fun _ => 0) : Int32 × Int32 × Int32 × (Nat → Int32) × Int32 × (Nat → Int32))) nn_ := ⟨_, rfl⟩
        rw [← hrec_768] at hE
        replace hE := hE.trans (E_w_row_l21.eq_def _ _ _ _ _ _ _ _)
        refine lv_iload_n hx hb dX11_row_21 rfl (lv_at hl 0 rfl) ?_
        refine lv_aload_n hx hb dX11_row_22 rfl (lv_at hl 2 rfl) ?_
        refine va_get (ci := 11) (v := .ref p0) (C := RX11) (T := TX11) (N := 17) hx hb hts hw11 hown hK hP 0 rfl rfl 5 (by decide +kernel) (hts _ mm_X11_row_339) (fun _ h9 => h9) rfl dX11_row_23 ?_
        refine va_getN (ci := 8) (v := .int ln) (C := RX8) (T := TX8) (N := 6) hx hb hts hw8 hown hK hP 2 rfl rfl 1 (by decide +kernel) (nst_use hN 120 rfl) (fun _ h9 => h9) rfl dX11_row_26 ?_
        refine lv_icmp_ge (tgt := 76) hx hb dX11_row_29 (by decide +kernel) (fun c_770 => ?_) (fun c_770 => ?_)
        · have c_770i := i_le (x := ln.toInt) (y := v_706.toInt) rfl rfl c_770
          replace hE := hE.trans (if_pos c_770)
          refine lv_aload_n hx hb dX11_row_76 rfl (lv_at hl 2 rfl) ?_
          refine lv_aload_n hx hb dX11_row_77 rfl (lv_at hl 2 rfl) ?_
          refine va_get (ci := 11) (v := .ref p0) (C := RX11) (T := TX11) (N := 17) hx hb hts hw11 hown hK hP 0 rfl rfl 5 (by decide +kernel) (hts _ mm_X11_row_339) (fun _ h9 => h9) rfl dX11_row_78 ?_
          refine va_getN (ci := 8) (v := .int ln) (C := RX8) (T := TX8) (N := 6) hx hb hts hw8 hown hK hP 2 rfl rfl 1 (by decide +kernel) (nst_use hN 120 rfl) (fun _ h9 => h9) rfl dX11_row_81 ?_
          refine lv_iload_n hx hb dX11_row_84 rfl (lv_at hl 1 rfl) ?_
          refine lv_isub hx hb dX11_row_85 ?_
          refine lv_topi (fun x_771 ex_771 => ?_)
          replace hE := hE.trans (Lt_in ex_771)
          refine va_put (ci := 11) (v := .int x_771) (ty := .int) (C := RX11) (T := TX11) (N := 17) hx hb hts hw11 tyX11 tyX11_ok nmX11 hown hK hP hD hS 0 rfl rfl 14 (by decide +kernel) (hts _ mm_X11_row_348) (fun _ h9 => h9) rfl (by decide +kernel) (by first | rfl | decide) (by first | rfl | decide) (Nat.le_of_ble_eq_true rfl) dX11_row_86 (fun H locs hP0 hD0 hS0 => ?_)
          clear hP hD hS
          have hP := hP0
          have hD := hD0
          have hS := hS0
          clear hP0 hD0 hS0
          replace hP : va_P D vwCl [(o0, .inr (11, [.ref t0, o_1, o_2, o_3, o_4, .ref p0, o_6, o_7, o_8, o_9, o_10, o_11, .ref rf, .int rb, .int x_771, o_15, o_16])), (rf, .inl (K 0, 5, .inl frf)), (p0, .inr (8, [.ref p1, .int ln, p_2, p_3, p_4, p_5])), (p1, .inl (K 0, 400, .inl fb)), (t0, .inr (9, [k_0, .ref t3, k_2, k_3, k_4, k_5, k_6, k_7, k_8, k_9])), (t3, .inl (K 0, 24, .inl f_708))] H := hP
          replace hD : va_D A [(o0, .inr (11, [.ref t0, o_1, o_2, o_3, o_4, .ref p0, o_6, o_7, o_8, o_9, o_10, o_11, .ref rf, .int rb, .int x_771, o_15, o_16])), (rf, .inl (K 0, 5, .inl frf)), (p0, .inr (8, [.ref p1, .int ln, p_2, p_3, p_4, p_5])), (p1, .inl (K 0, 400, .inl fb)), (t0, .inr (9, [k_0, .ref t3, k_2, k_3, k_4, k_5, k_6, k_7, k_8, k_9])), (t3, .inl (K 0, 24, .inl f_708))] := hD
          refine lv_aload_n hx hb dX11_row_89 rfl (lv_at hl 2 rfl) ?_
          refine va_get (ci := 11) (v := .ref p0) (C := RX11) (T := TX11) (N := 17) hx hb hts hw11 hown hK hP 0 rfl rfl 5 (by decide +kernel) (hts _ mm_X11_row_339) (fun _ h9 => h9) rfl dX11_row_90 ?_
          refine lv_iconst (v := 0) hx hb dX11_row_93 (by decide +kernel) ?_
          refine va_putN (ci := 8) (v := .int 0) (ty := .int) (C := RX8) (T := TX8) (N := 6) hx hb hts hw8 tyX8 tyX8_ok nmX8 hown hK hP hD hS 2 rfl rfl 1 (by decide +kernel) (nst_use hN 120 rfl) (fun _ h9 => h9) rfl (by decide +kernel) (by first | rfl | decide) (by first | rfl | decide) (Nat.le_of_ble_eq_true rfl) dX11_row_94 (fun H locs hP0 hD0 hS0 => ?_)
          clear hP hD hS
          have hP := hP0
          have hD := hD0
          have hS := hS0
          clear hP0 hD0 hS0
          replace hP : va_P D vwCl [(o0, .inr (11, [.ref t0, o_1, o_2, o_3, o_4, .ref p0, o_6, o_7, o_8, o_9, o_10, o_11, .ref rf, .int rb, .int x_771, o_15, o_16])), (rf, .inl (K 0, 5, .inl frf)), (p0, .inr (8, [.ref p1, .int 0, p_2, p_3, p_4, p_5])), (p1, .inl (K 0, 400, .inl fb)), (t0, .inr (9, [k_0, .ref t3, k_2, k_3, k_4, k_5, k_6, k_7, k_8, k_9])), (t3, .inl (K 0, 24, .inl f_708))] H := hP
          replace hD : va_D A [(o0, .inr (11, [.ref t0, o_1, o_2, o_3, o_4, .ref p0, o_6, o_7, o_8, o_9, o_10, o_11, .ref rf, .int rb, .int x_771, o_15, o_16])), (rf, .inl (K 0, 5, .inl frf)), (p0, .inr (8, [.ref p1, .int 0, p_2, p_3, p_4, p_5])), (p1, .inl (K 0, 400, .inl fb)), (t0, .inr (9, [k_0, .ref t3, k_2, k_3, k_4, k_5, k_6, k_7, k_8, k_9])), (t3, .inl (K 0, 24, .inl f_708))] := hD
          refine lv_aload_n hx hb dX11_row_97 rfl (lv_at hl 2 rfl) ?_
          refine lv_iload_n hx hb dX11_row_98 rfl (lv_at hl 1 rfl) ?_
          refine kci (S := Su) (wr := [(rf, .inl (K 0, 5, .inl frf)), (p0, .inr (8, [.ref p1, .int 0, p_2, p_3, p_4, p_5])), (p1, .inl (K 0, 400, .inl fb)), (t0, .inr (9, [k_0, .ref t3, k_2, k_3, k_4, k_5, k_6, k_7, k_8, k_9])), (t3, .inl (K 0, 24, .inl f_708))]) (va_runV (As := [.int v_707]) (rest := []) ⟨hx, hb, hml, hown, hts⟩ (w_accept l D K o0 v_707 (.ref t0) o_1 o_2 o_3 o_4 (.ref p0) o_6 o_7 o_8 o_9 o_10 o_11 (.ref rf) rb (.int x_771) o_15 o_16 H.size) (cwV 1 hts gX11_row_X11_accept rfl rfl rfl (by decide +kernel) ⟨Nat.le_of_ble_eq_true rfl, Nat.le_of_ble_eq_true rfl⟩) (mkV hK hN (hP.sub [0] rfl) (hD.sub [0] (by decide +kernel) rfl) (ci := 11) (q0 := 0) rfl rfl) rfl rfl hl.1 rfl (lv_room (Nat.le_of_ble_eq_true rfl)) dX11_row_99 ⟨Nat.le_of_ble_eq_true rfl, Nat.le_of_ble_eq_true rfl⟩) hP hD hS hA [0] [1, 2, 3, 4, 5] rfl rfl (by decide +kernel) (by decide +kernel) (fun r_772 u_773 H locs hw hP0 hD0 hS0 => ?_)
          clear hP hD hS
          have hP := hP0
          have hD := hD0
          have hS := hS0
          clear hP0 hD0 hS0
          replace hP : va_P D vwCl [(rf, .inl (K 0, 5, .inl frf)), (p0, .inr (8, [.ref p1, .int 0, p_2, p_3, p_4, p_5])), (p1, .inl (K 0, 400, .inl fb)), (t0, .inr (9, [k_0, .ref t3, k_2, k_3, k_4, k_5, k_6, k_7, k_8, k_9])), (t3, .inl (K 0, 24, .inl f_708)), (o0, .inr (11, [.ref t0, o_1, o_2, o_3, o_4, .ref p0, o_6, o_7, o_8, o_9, o_10, o_11, .ref rf, .int 0, .int x_771, o_15, o_16]))] H := hP
          replace hD : va_D A [(rf, .inl (K 0, 5, .inl frf)), (p0, .inr (8, [.ref p1, .int 0, p_2, p_3, p_4, p_5])), (p1, .inl (K 0, 400, .inl fb)), (t0, .inr (9, [k_0, .ref t3, k_2, k_3, k_4, k_5, k_6, k_7, k_8, k_9])), (t3, .inl (K 0, 24, .inl f_708)), (o0, .inr (11, [.ref t0, o_1, o_2, o_3, o_4, .ref p0, o_6, o_7, o_8, o_9, o_10, o_11, .ref rf, .int 0, .int x_771, o_15, o_16]))] := hD
          obtain ⟨hw, k_774, -⟩ := hw
          replace hE := hE.trans (Lt_in k_774)
          have er_r_772 := hw
          have hr_r_772 : r_772.toInt = v_707.toInt := (congrArg Int32.toInt er_r_772).trans rfl
          rw [← hQ]
          have hP9 := hP.sub (ws' := [(o0, .inr (11, [.ref t0, o_1, o_2, o_3, o_4, .ref p0, o_6, o_7, o_8, o_9, o_10, o_11, .ref rf, .int 0, .int x_771, o_15, o_16])), (rf, .inl (K 0, 5, .inl frf)), (p0, .inr (8, [.ref p1, .int 0, p_2, p_3, p_4, p_5])), (p1, .inl (K 0, 400, .inl fb)), (t0, .inr (9, [k_0, .ref t3, k_2, k_3, k_4, k_5, k_6, k_7, k_8, k_9])), (t3, .inl (K 0, 24, .inl f_708))]) [5, 0, 1, 2, 3, 4] rfl
          have hD9 := hD.sub (ws' := [(o0, .inr (11, [.ref t0, o_1, o_2, o_3, o_4, .ref p0, o_6, o_7, o_8, o_9, o_10, o_11, .ref rf, .int 0, .int x_771, o_15, o_16])), (rf, .inl (K 0, 5, .inl frf)), (p0, .inr (8, [.ref p1, .int 0, p_2, p_3, p_4, p_5])), (p1, .inl (K 0, 400, .inl fb)), (t0, .inr (9, [k_0, .ref t3, k_2, k_3, k_4, k_5, k_6, k_7, k_8, k_9])), (t3, .inl (K 0, 24, .inl f_708))]) [5, 0, 1, 2, 3, 4] (by decide +kernel) rfl
          exact W.iret (v := r_772) hx hb hr (fun t ht hW => ⟨⟨r_772, ((fun _ => 0, fun i => match i with | 0 => frf | _ => f_708, fun _ => fun _ => 0, fun i => match i with | 0 => 0 | 1 => x_771 | _ => 0, fun _ => 0, fun _ => fun _ => none) : Su), rfl, ⟨(show (-6) ≤ (0 : Int32).toInt ∧ (0 : Int32).toInt ≤ 0 by decide), (show 0 ≤ (0 : Int32).toInt ∧ (0 : Int32).toInt ≤ 0 by decide), hE.symm, trivial⟩, (⟨by rw [ht]; exact hP9, hD9⟩ : Wd D A _ t)⟩, hS.F ht⟩) hS.2.2 dX11_row_102
        · have c_770i := i_nle (x := ln.toInt) (y := v_706.toInt) rfl rfl c_770
          replace hE := hE.trans (if_neg c_770)
          refine lv_aload_n hx hb dX11_row_32 rfl (lv_at hl 2 rfl) ?_
          refine va_get (ci := 11) (v := .ref p0) (C := RX11) (T := TX11) (N := 17) hx hb hts hw11 hown hK hP 0 rfl rfl 5 (by decide +kernel) (hts _ mm_X11_row_339) (fun _ h9 => h9) rfl dX11_row_33 ?_
          refine lv_iload_n hx hb dX11_row_36 rfl (lv_at hl 0 rfl) ?_
          refine pci (va_runVN (As := [.int v_706]) (rest := []) ⟨hx, hb, hml, hown, hts⟩ (w_byteAt l D K p0 v_706 p1 ln p_2 p_3 p_4 p_5 fb H.size) ⟨va_cnB 1 hts gX11_row_X8_byteAt_n170 rfl rfl rfl (nst_at hN 30 rfl) (hts _ mm_X11_row_147) (by decide +kernel) ⟨Nat.le_of_ble_eq_true rfl, Nat.le_of_ble_eq_true rfl⟩, (hts _ mm_X11_row_459), (hts _ mm_X11_row_19)⟩ (mkV hK hN (hP.sub [2, 3] rfl) (hD.sub [2, 3] (by decide +kernel) rfl) (ci := 8) (q0 := 0) rfl rfl) rfl rfl hl.1 rfl (lv_room (Nat.le_of_ble_eq_true rfl)) dX11_row_37 ⟨Nat.le_of_ble_eq_true rfl, Nat.le_of_ble_eq_true rfl⟩) (fun r_775 hw => ?_)
          obtain ⟨k_776, -⟩ := hw
          replace hE := hE.trans (Lt_in k_776)
          refine lv_istore_n (lv' := [(3, .int r_775), (2, .int v_706), (1, .int v_707), (0, .ref o0)]) hx hb dX11_row_40 rfl hl (by decide +kernel) rfl (fun ls hl => ?_)
          refine lv_iload_n hx hb dX11_row_41 rfl (lv_at hl 1 rfl) ?_
          refine lv_bipush (v := 24) hx hb dX11_row_42 (by decide +kernel) ?_
          have j_790 : ∀ (v_787 : Int32) (f_788 : Nat → Int32) (hE : E_w_row rb ato frf ln fb f3 = E_w_row_j70 v_706 rec_768 v_787 f_788) (H : Heap) (locs : List Loc) (hP : va_P D vwCl [(o0, .inr (11, [.ref t0, o_1, o_2, o_3, o_4, .ref p0, o_6, o_7, o_8, o_9, o_10, o_11, .ref rf, .int rb, .int ato, o_15, o_16])), (rf, .inl (K 0, 5, .inl frf)), (p0, .inr (8, [.ref p1, .int ln, p_2, p_3, p_4, p_5])), (p1, .inl (K 0, 400, .inl fb)), (t0, .inr (9, [k_0, .ref t3, k_2, k_3, k_4, k_5, k_6, k_7, k_8, k_9])), (t3, .inl (K 0, 24, .inl f_788))] H) (hD : va_D A [(o0, .inr (11, [.ref t0, o_1, o_2, o_3, o_4, .ref p0, o_6, o_7, o_8, o_9, o_10, o_11, .ref rf, .int rb, .int ato, o_15, o_16])), (rf, .inl (K 0, 5, .inl frf)), (p0, .inr (8, [.ref p1, .int ln, p_2, p_3, p_4, p_5])), (p1, .inl (K 0, 400, .inl fb)), (t0, .inr (9, [k_0, .ref t3, k_2, k_3, k_4, k_5, k_6, k_7, k_8, k_9])), (t3, .inl (K 0, 24, .inl f_788))]) (hS : va_S A s.heap H locs) (ls : Array Slot) (hl : lv_has ls 4 [(2, .int v_706), (1, .int v_787), (0, .ref o0)]), W p l e ({ frames := 2, cells := 0, slots := 0, locals := 44 }) s m (([.ref o0] : List Value).toArray) below meth c H locs 0 0 Q (F0 m 70 ls []) := by
            clear hE hP hD hS hl
            intro v_787 f_788 hE H locs hP hD hS ls hl
            replace hE := hE.trans (E_w_row_j70.eq_def _ _ _ _)
            obtain ⟨x_791, ex_791⟩ : ∃ y : Int32, y = v_706 + Int32.ofInt 1 := ⟨_, rfl⟩
            replace hE := hE.trans (Lt_in ex_791)
            have hx_791 : x_791.toInt = (v_706.toInt + 1) := by rw [ex_791]; exact i_add rfl (show (Int32.ofInt 1).toInt = 1 from rfl) (by omega)
            refine lv_iinc (v := x_791) (lv' := [(2, .int x_791), (1, .int v_787), (0, .ref o0)]) hx hb dX11_row_70 hl (k := 0) rfl (by rw [ex_791]) (by decide +kernel) rfl (fun ls hl => ?_)
            refine lv_goto (tgt := 21) hx hb dX11_row_73 (by decide +kernel) ?_
            exact ih_769 x_791 v_787 f_788 (by rw [hx_791]; omega) (by omega) (hE.trans (by rw [hrec_768])) _ _ hP hD hS ls (lv_sub hl [0, 1, 2] rfl)
          refine lv_icmp_ge (tgt := 70) hx hb dX11_row_44 (by decide +kernel) (fun c_792 => ?_) (fun c_792 => ?_)
          · have c_792i := i_le (x := 24) (y := v_706.toInt) rfl rfl c_792
            replace hE := hE.trans (if_pos c_792)
            exact j_790 v_707 f_708  hE _ _ hP hD hS ls (lv_sub hl [1, 2, 3] rfl)
          · have c_792i := i_nle (x := 24) (y := v_706.toInt) rfl rfl c_792
            replace hE := hE.trans (if_neg c_792)
            refine lv_iload_n hx hb dX11_row_47 rfl (lv_at hl 0 rfl) ?_
            refine lv_iconst (v := 0) hx hb dX11_row_48 (by decide +kernel) ?_
            refine lv_bipush (v := 127) hx hb dX11_row_49 (by decide +kernel) ?_
            refine pci (va_runS (As := [.int r_775, .int 0, .int 127]) (rest := []) ⟨hx, hb, hml, hown, hts⟩ (w_within l D K r_775.toInt 0 127 r_775 0 127 H.size rfl (show (0 : Int32).toInt = 0 from rfl) (show (127 : Int32).toInt = 127 from rfl)) (va_cwS 3 hts gX11_row_X11_within rfl rfl rfl (by decide +kernel) ⟨Nat.le_of_ble_eq_true rfl, Nat.le_of_ble_eq_true rfl⟩) (mkS hK hN (va_P.nil) (va_D.nil (A := fun _ => True))) rfl rfl hl.1 rfl (lv_room (Nat.le_of_ble_eq_true rfl)) dX11_row_51 ⟨Nat.le_of_ble_eq_true rfl, Nat.le_of_ble_eq_true rfl⟩) (fun r_793 hw => ?_)
            obtain ⟨hw, k_794, -⟩ := hw
            replace hE := hE.trans (Lt_in k_794)
            rcases hw with ⟨rfl, h_795, h_796⟩ | ⟨rfl, h_797⟩
            · replace hE := (hE).trans (if_pos rfl)
              refine lv_if_eq (tgt := 70) hx hb dX11_row_54 (by decide +kernel) (fun c_798 => absurd c_798 (by decide +kernel)) (fun c_798 => ?_)
              refine lv_aload_n hx hb dX11_row_57 rfl (lv_at hl 3 rfl) ?_
              refine va_get (ci := 11) (v := .ref t0) (C := RX11) (T := TX11) (N := 17) hx hb hts hw11 hown hK hP 0 rfl rfl 0 (by decide +kernel) (hts _ mm_X11_row_334) (fun _ h9 => h9) rfl dX11_row_58 ?_
              refine va_getN (ci := 9) (v := .ref t3) (C := RX9) (T := TX9) (N := 10) hx hb hts hw9 hown hK hP 4 rfl rfl 1 (by decide +kernel) (nst_use hN 98 rfl) (fun _ h9 => h9) rfl dX11_row_61 ?_
              refine lv_iload_n hx hb dX11_row_64 rfl (lv_at hl 1 rfl) ?_
              refine lv_iload_n hx hb dX11_row_65 rfl (lv_at hl 0 rfl) ?_
              refine va_iast hx hb hK hP hD hS 5 0 rfl rfl (i_in rfl (by omega)) dX11_row_66 (fun H locs hP0 hD0 hS0 => ?_)
              clear hP hD hS
              have hP := hP0
              have hD := hD0
              have hS := hS0
              clear hP0 hD0 hS0
              generalize hf_799 : (upd f_708 (v_706 : Int32).toNatClampNeg r_775) = f_799 at hP hD
              replace hE := hE.trans (Lt_in hf_799.symm)
              replace hP : va_P D vwCl [(o0, .inr (11, [.ref t0, o_1, o_2, o_3, o_4, .ref p0, o_6, o_7, o_8, o_9, o_10, o_11, .ref rf, .int rb, .int ato, o_15, o_16])), (rf, .inl (K 0, 5, .inl frf)), (p0, .inr (8, [.ref p1, .int ln, p_2, p_3, p_4, p_5])), (p1, .inl (K 0, 400, .inl fb)), (t0, .inr (9, [k_0, .ref t3, k_2, k_3, k_4, k_5, k_6, k_7, k_8, k_9])), (t3, .inl (K 0, 24, .inl f_799))] H := hP
              replace hD : va_D A [(o0, .inr (11, [.ref t0, o_1, o_2, o_3, o_4, .ref p0, o_6, o_7, o_8, o_9, o_10, o_11, .ref rf, .int rb, .int ato, o_15, o_16])), (rf, .inl (K 0, 5, .inl frf)), (p0, .inr (8, [.ref p1, .int ln, p_2, p_3, p_4, p_5])), (p1, .inl (K 0, 400, .inl fb)), (t0, .inr (9, [k_0, .ref t3, k_2, k_3, k_4, k_5, k_6, k_7, k_8, k_9])), (t3, .inl (K 0, 24, .inl f_799))] := hD
              obtain ⟨x_800, ex_800⟩ : ∃ y : Int32, y = v_707 + Int32.ofInt 1 := ⟨_, rfl⟩
              replace hE := hE.trans (Lt_in ex_800)
              refine lv_iinc (v := x_800) (lv' := [(1, .int x_800), (3, .int r_775), (2, .int v_706), (0, .ref o0)]) hx hb dX11_row_67 hl (k := 2) rfl (by rw [ex_800]) (by decide +kernel) rfl (fun ls hl => ?_)
              exact j_790 x_800 f_799  hE _ _ hP hD hS ls (lv_sub hl [2, 0, 3] rfl)
            · replace hE := (hE).trans (if_neg (by first | decide | (intro h9; have h8 := congrArg Int32.toInt h9; omega)))
              refine lv_if_eq (tgt := 70) hx hb dX11_row_54 (by decide +kernel) (fun c_801 => ?_) (fun c_801 => absurd (by decide +kernel) c_801)
              exact j_790 v_707 f_708  hE _ _ hP hD hS ls (lv_sub hl [1, 2, 3] rfl)
    exact lp_768 ((401 - (0 : Int32).toInt : Int).toNat + 1) 0 0 f3 (by decide +kernel) (Nat.lt_succ_self _) hE _ _ hP hD hS ls (lv_sub hl [0, 1, 2] rfl)
  · have c_557i := i_eq (x := ln.toInt) (y := 0) rfl rfl c_557
    replace hE := hE.trans (if_pos c_557)
    refine lv_aload_n hx hb dX11_row_10 rfl (lv_at hl 0 rfl) ?_
    refine lv_bipush (v := (-6)) hx hb dX11_row_11 (by decide +kernel) ?_
    refine kci (S := Su) (wr := [(p0, .inr (8, [.ref p1, .int ln, p_2, p_3, p_4, p_5])), (p1, .inl (K 0, 400, .inl fb)), (t0, .inr (9, [k_0, .ref t3, k_2, k_3, k_4, k_5, k_6, k_7, k_8, k_9])), (t3, .inl (K 0, 24, .inl f3))]) (va_runV (As := [.int (-6)]) (rest := []) ⟨hx, hb, hml, hown, hts⟩ (w_refuse l D K o0 (-6) (.ref t0) o_1 o_2 o_3 o_4 (.ref p0) o_6 o_7 o_8 o_9 o_10 o_11 rf rb (.int ato) o_15 o_16 frf s.heap.size) (cwV 1 hts gX11_row_X11_refuse rfl rfl rfl (by decide +kernel) ⟨Nat.le_of_ble_eq_true rfl, Nat.le_of_ble_eq_true rfl⟩) (mkV hK hN (hP.sub [0, 1] rfl) (hD.sub [0, 1] (by decide +kernel) rfl) (ci := 11) (q0 := 0) rfl rfl) rfl rfl hl.1 rfl (lv_room (Nat.le_of_ble_eq_true rfl)) dX11_row_13 ⟨Nat.le_of_ble_eq_true rfl, Nat.le_of_ble_eq_true rfl⟩) hP hD hS hA [0, 1] [2, 3, 4, 5] rfl rfl (by decide +kernel) (by decide +kernel) (fun r_802 u_803 H locs hw hP0 hD0 hS0 => ?_)
    clear hP hD hS
    have hP := hP0
    have hD := hD0
    have hS := hS0
    clear hP0 hD0 hS0
    replace hP : va_P D vwCl [(p0, .inr (8, [.ref p1, .int ln, p_2, p_3, p_4, p_5])), (p1, .inl (K 0, 400, .inl fb)), (t0, .inr (9, [k_0, .ref t3, k_2, k_3, k_4, k_5, k_6, k_7, k_8, k_9])), (t3, .inl (K 0, 24, .inl f3)), (o0, .inr (11, [.ref t0, o_1, o_2, o_3, o_4, .ref p0, o_6, o_7, o_8, o_9, o_10, o_11, .ref rf, .int (-6), .int ato, o_15, o_16])), (rf, .inl (K 0, 5, .inl (u_803.2.1 0)))] H := hP
    replace hD : va_D A [(p0, .inr (8, [.ref p1, .int ln, p_2, p_3, p_4, p_5])), (p1, .inl (K 0, 400, .inl fb)), (t0, .inr (9, [k_0, .ref t3, k_2, k_3, k_4, k_5, k_6, k_7, k_8, k_9])), (t3, .inl (K 0, 24, .inl f3)), (o0, .inr (11, [.ref t0, o_1, o_2, o_3, o_4, .ref p0, o_6, o_7, o_8, o_9, o_10, o_11, .ref rf, .int (-6), .int ato, o_15, o_16])), (rf, .inl (K 0, 5, .inl (u_803.2.1 0)))] := hD
    obtain ⟨k_804, -⟩ := hw
    replace hE := hE.trans (Lt2_in k_804)
    rw [← hQ]
    have hP9 := hP.sub (ws' := [(o0, .inr (11, [.ref t0, o_1, o_2, o_3, o_4, .ref p0, o_6, o_7, o_8, o_9, o_10, o_11, .ref rf, .int (-6), .int ato, o_15, o_16])), (rf, .inl (K 0, 5, .inl (u_803.2.1 0))), (p0, .inr (8, [.ref p1, .int ln, p_2, p_3, p_4, p_5])), (p1, .inl (K 0, 400, .inl fb)), (t0, .inr (9, [k_0, .ref t3, k_2, k_3, k_4, k_5, k_6, k_7, k_8, k_9])), (t3, .inl (K 0, 24, .inl f3))]) [4, 5, 0, 1, 2, 3] rfl
    have hD9 := hD.sub (ws' := [(o0, .inr (11, [.ref t0, o_1, o_2, o_3, o_4, .ref p0, o_6, o_7, o_8, o_9, o_10, o_11, .ref rf, .int (-6), .int ato, o_15, o_16])), (rf, .inl (K 0, 5, .inl (u_803.2.1 0))), (p0, .inr (8, [.ref p1, .int ln, p_2, p_3, p_4, p_5])), (p1, .inl (K 0, 400, .inl fb)), (t0, .inr (9, [k_0, .ref t3, k_2, k_3, k_4, k_5, k_6, k_7, k_8, k_9])), (t3, .inl (K 0, 24, .inl f3))]) [4, 5, 0, 1, 2, 3] (by decide +kernel) rfl
    exact W.iret (v := r_802) hx hb hr (fun t ht hW => ⟨⟨r_802, ((fun _ => 0, fun i => match i with | 0 => (u_803.2.1 0) | _ => f3, fun _ => fun _ => 0, fun i => match i with | 0 => (-6) | 1 => ato | _ => ln, fun _ => 0, fun _ => fun _ => none) : Su), rfl, ⟨(show (-6) ≤ ((-6) : Int32).toInt ∧ ((-6) : Int32).toInt ≤ 0 by decide), (show 0 ≤ (ln : Int32).toInt ∧ (ln : Int32).toInt ≤ 0 by omega), hE.symm, trivial⟩, (⟨by rw [ht]; exact hP9, hD9⟩ : Wd D A _ t)⟩, hS.F ht⟩) hS.2.2 dX11_row_16
set_option maxRecDepth 100000 in
noncomputable def E_w_ash (ato : Int32) : Int32 :=
  (ato : Int32)
set_option maxHeartbeats 4000000 in
set_option maxRecDepth 100000 in
theorem w_ash (l : Launch) (D : va_G) (K : Nat → ClassId) (o0 : Nat) (o_0 : Value) (o_1 : Value) (o_2 : Value) (o_3 : Value) (o_4 : Value) (o_5 : Value) (o_6 : Value) (o_7 : Value) (o_8 : Value) (o_9 : Value) (o_10 : Value) (o_11 : Value) (o_12 : Value) (o_13 : Value) (ato : Int32) (o_15 : Value) (o_16 : Value) (sz : Nat) : Met l yX11_ash wsX11_ash ({ frames := 0, cells := 0, slots := 0, locals := 0 }) (va_Pc [.ref o0] (Pre D K [(o0, .inr (11, [o_0, o_1, o_2, o_3, o_4, o_5, o_6, o_7, o_8, o_9, o_10, o_11, o_12, o_13, .int ato, o_15, o_16]))] sz)) (vp_Si (fun r : Int32 => (r = E_w_ash ato) ∧ True)) 0 0 (fun _ => False) := by
  refine Met.ofW (cc := cX11_ash) (maxL := 1) (ret := (some .int)) (by decide +kernel) rfl ?_
  intro p e s m args below meth c s₁ B hml hv
  obtain ⟨rfl, hsz, hP, hK, hD0, hN⟩ := hv
  have hx := B.exec
  have hb := B.bytes
  have hr := B.returns
  have hts := atoms_spec (ws := wsX11_ash) B.pre
  have hown : s.vm.findClass RX11 = some m.cls := findClass_of_methodNamed B.named
  have hlocks := B.notSynchronized
  subst hsz
  have hD := hD0
  replace hP : va_P D vwCl [(o0, .inr (11, [o_0, o_1, o_2, o_3, o_4, o_5, o_6, o_7, o_8, o_9, o_10, o_11, o_12, o_13, .int ato, o_15, o_16]))] s.heap := hP
  have hl := lv_entry [.ref o0] (n := 1) (Nat.le_of_ble_eq_true rfl)
  rw [lg_entry_eq]
  generalize (lg_sl [.ref o0] ++ List.replicate (1 - (lg_sl [.ref o0]).length) Slot.unset).toArray = ls at hl ⊢
  have hl : lv_has ls 1 [(0, .ref o0)] := hl
  have hw11 : ∀ w ∈ wsX110, w ∈ wsX11_ash := fun w h => (List.mem_cons_of_mem _ (List.mem_append_right _ h))
  generalize hQ : MQ below _ _ s _ _ _ = Q
  have hE := E_w_ash.eq_def ato
  refine lv_aload_n hx hb dX11_ash_0 rfl (lv_at hl 0 rfl) ?_
  refine va_get (ci := 11) (v := .int ato) (C := RX11) (T := TX11) (N := 17) hx hb hts hw11 hown hK hP 0 rfl rfl 14 (by decide +kernel) (hts _ mm_X11_ash_348) (fun _ h9 => h9) rfl dX11_ash_1 ?_
  rw [← hQ]
  exact W.iret (v := ato) hx hb hr (fun t ht hW => ⟨_, rfl, ⟨hE.symm, trivial⟩, ht⟩) (fun q hq => by cases hq) dX11_ash_4
