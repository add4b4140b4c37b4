theorem dX12_count_42 : decode cX12_count 42 = .ok (.tableswitch 150 0 12 #[66, 73, 75, 82, 89, 94, 99, 106, 113, 120, 127, 135, 142], 66) := by decide +kernel
theorem BX12_drawn_0 : bsegs (ByteArray.data cX12_drawn |>.toList.drop 0) 0 [(0, [42]), (1, [3]), (2, [181, 0, 158]), (5, [42]), (6, [180, 0, 155]), (9, [2]), (10, [159, 0, 36]), (13, [28]), (14, [133]), (15, [9]), (16, [20, 1, 178]), (19, [184, 0, 178]), (22, [153, 0, 24]), (25, [28]), (26, [5]), (27, [162, 0, 21]), (30, [27]), (31, [133]), (32, [9]), (33, [42]), (34, [180, 0, 155]), (37, [133]), (38, [10]), (39, [101])] = true := by decide +kernel
theorem dX12_drawn_0 : decode cX12_drawn 0 = .ok (.aload_n 0, 1) := dk_42 (bs_at BX12_drawn_0 0 rfl)
theorem dX12_drawn_1 : decode cX12_drawn 1 = .ok (.iconst 0, 1) := dk_3 (bs_at BX12_drawn_0 1 rfl)
theorem dX12_drawn_2 : decode cX12_drawn 2 = .ok (.putfield 158, 3) := dk_181 0 158 (bs_at BX12_drawn_0 2 rfl) rfl
theorem dX12_drawn_5 : decode cX12_drawn 5 = .ok (.aload_n 0, 1) := dk_42 (bs_at BX12_drawn_0 3 rfl)
theorem dX12_drawn_6 : decode cX12_drawn 6 = .ok (.getfield 155, 3) := dk_180 0 155 (bs_at BX12_drawn_0 4 rfl) rfl
theorem dX12_drawn_9 : decode cX12_drawn 9 = .ok (.iconst (-1), 1) := dk_2 (bs_at BX12_drawn_0 5 rfl)
theorem dX12_drawn_10 : decode cX12_drawn 10 = .ok (.if_icmp .eq 36, 3) := dk_159 0 36 (bs_at BX12_drawn_0 6 rfl) rfl
theorem dX12_drawn_13 : decode cX12_drawn 13 = .ok (.iload_n 2, 1) := dk_28 (bs_at BX12_drawn_0 7 rfl)
theorem dX12_drawn_14 : decode cX12_drawn 14 = .ok (.i2l, 1) := dk_133 (bs_at BX12_drawn_0 8 rfl)
theorem dX12_drawn_15 : decode cX12_drawn 15 = .ok (.lconst 0, 1) := dk_9 (bs_at BX12_drawn_0 9 rfl)
theorem dX12_drawn_16 : decode cX12_drawn 16 = .ok (.ldc2_w 434, 3) := dk_20 1 178 (bs_at BX12_drawn_0 10 rfl) rfl
theorem dX12_drawn_19 : decode cX12_drawn 19 = .ok (.invokestatic 178, 3) := dk_184 0 178 (bs_at BX12_drawn_0 11 rfl) rfl
theorem dX12_drawn_22 : decode cX12_drawn 22 = .ok (.ifCond .eq 24, 3) := dk_153 0 24 (bs_at BX12_drawn_0 12 rfl) rfl
theorem dX12_drawn_25 : decode cX12_drawn 25 = .ok (.iload_n 2, 1) := dk_28 (bs_at BX12_drawn_0 13 rfl)
theorem dX12_drawn_26 : decode cX12_drawn 26 = .ok (.iconst 2, 1) := dk_5 (bs_at BX12_drawn_0 14 rfl)
theorem dX12_drawn_27 : decode cX12_drawn 27 = .ok (.if_icmp .ge 21, 3) := dk_162 0 21 (bs_at BX12_drawn_0 15 rfl) rfl
theorem dX12_drawn_30 : decode cX12_drawn 30 = .ok (.iload_n 1, 1) := dk_27 (bs_at BX12_drawn_0 16 rfl)
theorem dX12_drawn_31 : decode cX12_drawn 31 = .ok (.i2l, 1) := dk_133 (bs_at BX12_drawn_0 17 rfl)
theorem dX12_drawn_32 : decode cX12_drawn 32 = .ok (.lconst 0, 1) := dk_9 (bs_at BX12_drawn_0 18 rfl)
theorem dX12_drawn_33 : decode cX12_drawn 33 = .ok (.aload_n 0, 1) := dk_42 (bs_at BX12_drawn_0 19 rfl)
theorem dX12_drawn_34 : decode cX12_drawn 34 = .ok (.getfield 155, 3) := dk_180 0 155 (bs_at BX12_drawn_0 20 rfl) rfl
theorem dX12_drawn_37 : decode cX12_drawn 37 = .ok (.i2l, 1) := dk_133 (bs_at BX12_drawn_0 21 rfl)
theorem dX12_drawn_38 : decode cX12_drawn 38 = .ok (.lconst 1, 1) := dk_10 (bs_at BX12_drawn_0 22 rfl)
theorem dX12_drawn_39 : decode cX12_drawn 39 = .ok (.lsub, 1) := dk_101 (bs_at BX12_drawn_0 23 rfl)
theorem BX12_drawn_40 : bsegs (ByteArray.data cX12_drawn |>.toList.drop 40) 40 [(40, [184, 0, 178]), (43, [154, 0, 5]), (46, [2]), (47, [172]), (48, [28]), (49, [5]), (50, [160, 0, 10]), (53, [42]), (54, [180, 2, 55]), (57, [167, 0, 13]), (60, [42]), (61, [180, 0, 152]), (64, [5]), (65, [27]), (66, [104]), (67, [28]), (68, [96]), (69, [46]), (70, [172])] = true := by decide +kernel
theorem dX12_drawn_40 : decode cX12_drawn 40 = .ok (.invokestatic 178, 3) := dk_184 0 178 (bs_at BX12_drawn_40 0 rfl) rfl
theorem dX12_drawn_43 : decode cX12_drawn 43 = .ok (.ifCond .ne 5, 3) := dk_154 0 5 (bs_at BX12_drawn_40 1 rfl) rfl
theorem dX12_drawn_46 : decode cX12_drawn 46 = .ok (.iconst (-1), 1) := dk_2 (bs_at BX12_drawn_40 2 rfl)
theorem dX12_drawn_47 : decode cX12_drawn 47 = .ok (.ireturn, 1) := dk_172 (bs_at BX12_drawn_40 3 rfl)
theorem dX12_drawn_48 : decode cX12_drawn 48 = .ok (.iload_n 2, 1) := dk_28 (bs_at BX12_drawn_40 4 rfl)
theorem dX12_drawn_49 : decode cX12_drawn 49 = .ok (.iconst 2, 1) := dk_5 (bs_at BX12_drawn_40 5 rfl)
theorem dX12_drawn_50 : decode cX12_drawn 50 = .ok (.if_icmp .ne 10, 3) := dk_160 0 10 (bs_at BX12_drawn_40 6 rfl) rfl
theorem dX12_drawn_53 : decode cX12_drawn 53 = .ok (.aload_n 0, 1) := dk_42 (bs_at BX12_drawn_40 7 rfl)
theorem dX12_drawn_54 : decode cX12_drawn 54 = .ok (.getfield 567, 3) := dk_180 2 55 (bs_at BX12_drawn_40 8 rfl) rfl
theorem dX12_drawn_57 : decode cX12_drawn 57 = .ok (.goto 13, 3) := dk_167 0 13 (bs_at BX12_drawn_40 9 rfl) rfl
theorem dX12_drawn_60 : decode cX12_drawn 60 = .ok (.aload_n 0, 1) := dk_42 (bs_at BX12_drawn_40 10 rfl)
theorem dX12_drawn_61 : decode cX12_drawn 61 = .ok (.getfield 152, 3) := dk_180 0 152 (bs_at BX12_drawn_40 11 rfl) rfl
theorem dX12_drawn_64 : decode cX12_drawn 64 = .ok (.iconst 2, 1) := dk_5 (bs_at BX12_drawn_40 12 rfl)
theorem dX12_drawn_65 : decode cX12_drawn 65 = .ok (.iload_n 1, 1) := dk_27 (bs_at BX12_drawn_40 13 rfl)
theorem dX12_drawn_66 : decode cX12_drawn 66 = .ok (.imul, 1) := dk_104 (bs_at BX12_drawn_40 14 rfl)
theorem dX12_drawn_67 : decode cX12_drawn 67 = .ok (.iload_n 2, 1) := dk_28 (bs_at BX12_drawn_40 15 rfl)
theorem dX12_drawn_68 : decode cX12_drawn 68 = .ok (.iadd, 1) := dk_96 (bs_at BX12_drawn_40 16 rfl)
theorem dX12_drawn_69 : decode cX12_drawn 69 = .ok (.iaload, 1) := dk_46 (bs_at BX12_drawn_40 17 rfl)
theorem dX12_drawn_70 : decode cX12_drawn 70 = .ok (.ireturn, 1) := dk_172 (bs_at BX12_drawn_40 18 rfl)
theorem BX12_count_0 : bsegs (ByteArray.data cX12_count |>.toList.drop 0) 0 [(0, [42]), (1, [3]), (2, [181, 0, 158]), (5, [3]), (6, [61]), (7, [3]), (8, [62]), (9, [29]), (10, [42]), (11, [180, 0, 13]), (14, [3]), (15, [46]), (16, [162, 0, 25]), (19, [28]), (20, [42]), (21, [29]), (22, [182, 0, 185]), (25, [153, 0, 7]), (28, [4]), (29, [167, 0, 4]), (32, [3]), (33, [96]), (34, [61]), (35, [132, 3, 1])] = true := by decide +kernel
theorem dX12_count_0 : decode cX12_count 0 = .ok (.aload_n 0, 1) := dk_42 (bs_at BX12_count_0 0 rfl)
theorem dX12_count_1 : decode cX12_count 1 = .ok (.iconst 0, 1) := dk_3 (bs_at BX12_count_0 1 rfl)
theorem dX12_count_2 : decode cX12_count 2 = .ok (.putfield 158, 3) := dk_181 0 158 (bs_at BX12_count_0 2 rfl) rfl
theorem dX12_count_5 : decode cX12_count 5 = .ok (.iconst 0, 1) := dk_3 (bs_at BX12_count_0 3 rfl)
theorem dX12_count_6 : decode cX12_count 6 = .ok (.istore_n 2, 1) := dk_61 (bs_at BX12_count_0 4 rfl)
theorem dX12_count_7 : decode cX12_count 7 = .ok (.iconst 0, 1) := dk_3 (bs_at BX12_count_0 5 rfl)
theorem dX12_count_8 : decode cX12_count 8 = .ok (.istore_n 3, 1) := dk_62 (bs_at BX12_count_0 6 rfl)
theorem dX12_count_9 : decode cX12_count 9 = .ok (.iload_n 3, 1) := dk_29 (bs_at BX12_count_0 7 rfl)
theorem dX12_count_10 : decode cX12_count 10 = .ok (.aload_n 0, 1) := dk_42 (bs_at BX12_count_0 8 rfl)
theorem dX12_count_11 : decode cX12_count 11 = .ok (.getfield 13, 3) := dk_180 0 13 (bs_at BX12_count_0 9 rfl) rfl
theorem dX12_count_14 : decode cX12_count 14 = .ok (.iconst 0, 1) := dk_3 (bs_at BX12_count_0 10 rfl)
theorem dX12_count_15 : decode cX12_count 15 = .ok (.iaload, 1) := dk_46 (bs_at BX12_count_0 11 rfl)
theorem dX12_count_16 : decode cX12_count 16 = .ok (.if_icmp .ge 25, 3) := dk_162 0 25 (bs_at BX12_count_0 12 rfl) rfl
theorem dX12_count_19 : decode cX12_count 19 = .ok (.iload_n 2, 1) := dk_28 (bs_at BX12_count_0 13 rfl)
theorem dX12_count_20 : decode cX12_count 20 = .ok (.aload_n 0, 1) := dk_42 (bs_at BX12_count_0 14 rfl)
theorem dX12_count_21 : decode cX12_count 21 = .ok (.iload_n 3, 1) := dk_29 (bs_at BX12_count_0 15 rfl)
theorem dX12_count_22 : decode cX12_count 22 = .ok (.invokevirtual 185, 3) := dk_182 0 185 (bs_at BX12_count_0 16 rfl) rfl
theorem dX12_count_25 : decode cX12_count 25 = .ok (.ifCond .eq 7, 3) := dk_153 0 7 (bs_at BX12_count_0 17 rfl) rfl
theorem dX12_count_28 : decode cX12_count 28 = .ok (.iconst 1, 1) := dk_4 (bs_at BX12_count_0 18 rfl)
theorem dX12_count_29 : decode cX12_count 29 = .ok (.goto 4, 3) := dk_167 0 4 (bs_at BX12_count_0 19 rfl) rfl
theorem dX12_count_32 : decode cX12_count 32 = .ok (.iconst 0, 1) := dk_3 (bs_at BX12_count_0 20 rfl)
theorem dX12_count_33 : decode cX12_count 33 = .ok (.iadd, 1) := dk_96 (bs_at BX12_count_0 21 rfl)
theorem dX12_count_34 : decode cX12_count 34 = .ok (.istore_n 2, 1) := dk_61 (bs_at BX12_count_0 22 rfl)
theorem dX12_count_35 : decode cX12_count 35 = .ok (.iinc 3 1, 3) := dk_132 3 1 (bs_at BX12_count_0 23 rfl) rfl
theorem BX12_count_38 : bsegs (ByteArray.data cX12_count |>.toList.drop 38) 38 [(38, [167, 255, 227]), (41, [27]), (108, [42]), (109, [180, 0, 13]), (112, [3]), (113, [46]), (114, [172]), (115, [28]), (116, [172]), (117, [42]), (118, [180, 0, 13]), (121, [4]), (122, [46]), (123, [172]), (124, [42]), (125, [180, 0, 13]), (128, [5]), (129, [46]), (130, [172]), (131, [42]), (132, [180, 0, 164]), (135, [172]), (136, [42]), (137, [180, 0, 227])] = true := by decide +kernel
theorem dX12_count_38 : decode cX12_count 38 = .ok (.goto (-29), 3) := dk_167 255 227 (bs_at BX12_count_38 0 rfl) rfl
theorem dX12_count_41 : decode cX12_count 41 = .ok (.iload_n 1, 1) := dk_27 (bs_at BX12_count_38 1 rfl)
theorem dX12_count_108 : decode cX12_count 108 = .ok (.aload_n 0, 1) := dk_42 (bs_at BX12_count_38 2 rfl)
theorem dX12_count_109 : decode cX12_count 109 = .ok (.getfield 13, 3) := dk_180 0 13 (bs_at BX12_count_38 3 rfl) rfl
theorem dX12_count_112 : decode cX12_count 112 = .ok (.iconst 0, 1) := dk_3 (bs_at BX12_count_38 4 rfl)
theorem dX12_count_113 : decode cX12_count 113 = .ok (.iaload, 1) := dk_46 (bs_at BX12_count_38 5 rfl)
theorem dX12_count_114 : decode cX12_count 114 = .ok (.ireturn, 1) := dk_172 (bs_at BX12_count_38 6 rfl)
theorem dX12_count_115 : decode cX12_count 115 = .ok (.iload_n 2, 1) := dk_28 (bs_at BX12_count_38 7 rfl)
theorem dX12_count_116 : decode cX12_count 116 = .ok (.ireturn, 1) := dk_172 (bs_at BX12_count_38 8 rfl)
theorem dX12_count_117 : decode cX12_count 117 = .ok (.aload_n 0, 1) := dk_42 (bs_at BX12_count_38 9 rfl)
theorem dX12_count_118 : decode cX12_count 118 = .ok (.getfield 13, 3) := dk_180 0 13 (bs_at BX12_count_38 10 rfl) rfl
theorem dX12_count_121 : decode cX12_count 121 = .ok (.iconst 1, 1) := dk_4 (bs_at BX12_count_38 11 rfl)
theorem dX12_count_122 : decode cX12_count 122 = .ok (.iaload, 1) := dk_46 (bs_at BX12_count_38 12 rfl)
theorem dX12_count_123 : decode cX12_count 123 = .ok (.ireturn, 1) := dk_172 (bs_at BX12_count_38 13 rfl)
theorem dX12_count_124 : decode cX12_count 124 = .ok (.aload_n 0, 1) := dk_42 (bs_at BX12_count_38 14 rfl)
theorem dX12_count_125 : decode cX12_count 125 = .ok (.getfield 13, 3) := dk_180 0 13 (bs_at BX12_count_38 15 rfl) rfl
theorem dX12_count_128 : decode cX12_count 128 = .ok (.iconst 2, 1) := dk_5 (bs_at BX12_count_38 16 rfl)
theorem dX12_count_129 : decode cX12_count 129 = .ok (.iaload, 1) := dk_46 (bs_at BX12_count_38 17 rfl)
theorem dX12_count_130 : decode cX12_count 130 = .ok (.ireturn, 1) := dk_172 (bs_at BX12_count_38 18 rfl)
theorem dX12_count_131 : decode cX12_count 131 = .ok (.aload_n 0, 1) := dk_42 (bs_at BX12_count_38 19 rfl)
theorem dX12_count_132 : decode cX12_count 132 = .ok (.getfield 164, 3) := dk_180 0 164 (bs_at BX12_count_38 20 rfl) rfl
theorem dX12_count_135 : decode cX12_count 135 = .ok (.ireturn, 1) := dk_172 (bs_at BX12_count_38 21 rfl)
theorem dX12_count_136 : decode cX12_count 136 = .ok (.aload_n 0, 1) := dk_42 (bs_at BX12_count_38 22 rfl)
theorem dX12_count_137 : decode cX12_count 137 = .ok (.getfield 227, 3) := dk_180 0 227 (bs_at BX12_count_38 23 rfl) rfl
theorem BX12_count_140 : bsegs (ByteArray.data cX12_count |>.toList.drop 140) 140 [(140, [172]), (141, [42]), (142, [180, 0, 7]), (145, [4]), (146, [46]), (147, [172]), (148, [42]), (149, [180, 0, 7]), (152, [5]), (153, [46]), (154, [172]), (155, [42]), (156, [180, 0, 7]), (159, [6]), (160, [46]), (161, [172]), (162, [42]), (163, [180, 0, 7]), (166, [8]), (167, [46]), (168, [172]), (169, [42]), (170, [180, 0, 7]), (173, [16, 6])] = true := by decide +kernel
theorem dX12_count_140 : decode cX12_count 140 = .ok (.ireturn, 1) := dk_172 (bs_at BX12_count_140 0 rfl)
theorem dX12_count_141 : decode cX12_count 141 = .ok (.aload_n 0, 1) := dk_42 (bs_at BX12_count_140 1 rfl)
theorem dX12_count_142 : decode cX12_count 142 = .ok (.getfield 7, 3) := dk_180 0 7 (bs_at BX12_count_140 2 rfl) rfl
theorem dX12_count_145 : decode cX12_count 145 = .ok (.iconst 1, 1) := dk_4 (bs_at BX12_count_140 3 rfl)
theorem dX12_count_146 : decode cX12_count 146 = .ok (.iaload, 1) := dk_46 (bs_at BX12_count_140 4 rfl)
theorem dX12_count_147 : decode cX12_count 147 = .ok (.ireturn, 1) := dk_172 (bs_at BX12_count_140 5 rfl)
theorem dX12_count_148 : decode cX12_count 148 = .ok (.aload_n 0, 1) := dk_42 (bs_at BX12_count_140 6 rfl)
theorem dX12_count_149 : decode cX12_count 149 = .ok (.getfield 7, 3) := dk_180 0 7 (bs_at BX12_count_140 7 rfl) rfl
theorem dX12_count_152 : decode cX12_count 152 = .ok (.iconst 2, 1) := dk_5 (bs_at BX12_count_140 8 rfl)
theorem dX12_count_153 : decode cX12_count 153 = .ok (.iaload, 1) := dk_46 (bs_at BX12_count_140 9 rfl)
theorem dX12_count_154 : decode cX12_count 154 = .ok (.ireturn, 1) := dk_172 (bs_at BX12_count_140 10 rfl)
theorem dX12_count_155 : decode cX12_count 155 = .ok (.aload_n 0, 1) := dk_42 (bs_at BX12_count_140 11 rfl)
theorem dX12_count_156 : decode cX12_count 156 = .ok (.getfield 7, 3) := dk_180 0 7 (bs_at BX12_count_140 12 rfl) rfl
theorem dX12_count_159 : decode cX12_count 159 = .ok (.iconst 3, 1) := dk_6 (bs_at BX12_count_140 13 rfl)
theorem dX12_count_160 : decode cX12_count 160 = .ok (.iaload, 1) := dk_46 (bs_at BX12_count_140 14 rfl)
theorem dX12_count_161 : decode cX12_count 161 = .ok (.ireturn, 1) := dk_172 (bs_at BX12_count_140 15 rfl)
theorem dX12_count_162 : decode cX12_count 162 = .ok (.aload_n 0, 1) := dk_42 (bs_at BX12_count_140 16 rfl)
theorem dX12_count_163 : decode cX12_count 163 = .ok (.getfield 7, 3) := dk_180 0 7 (bs_at BX12_count_140 17 rfl) rfl
theorem dX12_count_166 : decode cX12_count 166 = .ok (.iconst 5, 1) := dk_8 (bs_at BX12_count_140 18 rfl)
theorem dX12_count_167 : decode cX12_count 167 = .ok (.iaload, 1) := dk_46 (bs_at BX12_count_140 19 rfl)
theorem dX12_count_168 : decode cX12_count 168 = .ok (.ireturn, 1) := dk_172 (bs_at BX12_count_140 20 rfl)
theorem dX12_count_169 : decode cX12_count 169 = .ok (.aload_n 0, 1) := dk_42 (bs_at BX12_count_140 21 rfl)
theorem dX12_count_170 : decode cX12_count 170 = .ok (.getfield 7, 3) := dk_180 0 7 (bs_at BX12_count_140 22 rfl) rfl
theorem dX12_count_173 : decode cX12_count 173 = .ok (.bipush 6, 2) := dk_16 6 (bs_at BX12_count_140 23 rfl) rfl
theorem BX12_count_175 : bsegs (ByteArray.data cX12_count |>.toList.drop 175) 175 [(175, [46]), (176, [172]), (177, [42]), (178, [180, 0, 13]), (181, [6]), (182, [46]), (183, [172]), (184, [42]), (185, [180, 0, 13]), (188, [16, 10]), (190, [46]), (191, [172]), (192, [27]), (193, [133]), (194, [20, 2, 58]), (197, [20, 2, 60]), (200, [184, 0, 178]), (203, [153, 0, 17]), (206, [42]), (207, [180, 0, 13]), (210, [7]), (211, [27]), (212, [96]), (213, [16, 13])] = true := by decide +kernel
theorem dX12_count_175 : decode cX12_count 175 = .ok (.iaload, 1) := dk_46 (bs_at BX12_count_175 0 rfl)
theorem dX12_count_176 : decode cX12_count 176 = .ok (.ireturn, 1) := dk_172 (bs_at BX12_count_175 1 rfl)
theorem dX12_count_177 : decode cX12_count 177 = .ok (.aload_n 0, 1) := dk_42 (bs_at BX12_count_175 2 rfl)
theorem dX12_count_178 : decode cX12_count 178 = .ok (.getfield 13, 3) := dk_180 0 13 (bs_at BX12_count_175 3 rfl) rfl
theorem dX12_count_181 : decode cX12_count 181 = .ok (.iconst 3, 1) := dk_6 (bs_at BX12_count_175 4 rfl)
theorem dX12_count_182 : decode cX12_count 182 = .ok (.iaload, 1) := dk_46 (bs_at BX12_count_175 5 rfl)
theorem dX12_count_183 : decode cX12_count 183 = .ok (.ireturn, 1) := dk_172 (bs_at BX12_count_175 6 rfl)
theorem dX12_count_184 : decode cX12_count 184 = .ok (.aload_n 0, 1) := dk_42 (bs_at BX12_count_175 7 rfl)
theorem dX12_count_185 : decode cX12_count 185 = .ok (.getfield 13, 3) := dk_180 0 13 (bs_at BX12_count_175 8 rfl) rfl
theorem dX12_count_188 : decode cX12_count 188 = .ok (.bipush 10, 2) := dk_16 10 (bs_at BX12_count_175 9 rfl) rfl
theorem dX12_count_190 : decode cX12_count 190 = .ok (.iaload, 1) := dk_46 (bs_at BX12_count_175 10 rfl)
theorem dX12_count_191 : decode cX12_count 191 = .ok (.ireturn, 1) := dk_172 (bs_at BX12_count_175 11 rfl)
theorem dX12_count_192 : decode cX12_count 192 = .ok (.iload_n 1, 1) := dk_27 (bs_at BX12_count_175 12 rfl)
theorem dX12_count_193 : decode cX12_count 193 = .ok (.i2l, 1) := dk_133 (bs_at BX12_count_175 13 rfl)
theorem dX12_count_194 : decode cX12_count 194 = .ok (.ldc2_w 570, 3) := dk_20 2 58 (bs_at BX12_count_175 14 rfl) rfl
theorem dX12_count_197 : decode cX12_count 197 = .ok (.ldc2_w 572, 3) := dk_20 2 60 (bs_at BX12_count_175 15 rfl) rfl
theorem dX12_count_200 : decode cX12_count 200 = .ok (.invokestatic 178, 3) := dk_184 0 178 (bs_at BX12_count_175 16 rfl) rfl
theorem dX12_count_203 : decode cX12_count 203 = .ok (.ifCond .eq 17, 3) := dk_153 0 17 (bs_at BX12_count_175 17 rfl) rfl
theorem dX12_count_206 : decode cX12_count 206 = .ok (.aload_n 0, 1) := dk_42 (bs_at BX12_count_175 18 rfl)
theorem dX12_count_207 : decode cX12_count 207 = .ok (.getfield 13, 3) := dk_180 0 13 (bs_at BX12_count_175 19 rfl) rfl
theorem dX12_count_210 : decode cX12_count 210 = .ok (.iconst 4, 1) := dk_7 (bs_at BX12_count_175 20 rfl)
theorem dX12_count_211 : decode cX12_count 211 = .ok (.iload_n 1, 1) := dk_27 (bs_at BX12_count_175 21 rfl)
theorem dX12_count_212 : decode cX12_count 212 = .ok (.iadd, 1) := dk_96 (bs_at BX12_count_175 22 rfl)
theorem dX12_count_213 : decode cX12_count 213 = .ok (.bipush 13, 2) := dk_16 13 (bs_at BX12_count_175 23 rfl) rfl
theorem BX12_count_215 : bsegs (ByteArray.data cX12_count |>.toList.drop 215) 215 [(215, [100]), (216, [46]), (217, [167, 0, 4]), (220, [2]), (221, [172])] = true := by decide +kernel
theorem dX12_count_215 : decode cX12_count 215 = .ok (.isub, 1) := dk_100 (bs_at BX12_count_215 0 rfl)
theorem dX12_count_216 : decode cX12_count 216 = .ok (.iaload, 1) := dk_46 (bs_at BX12_count_215 1 rfl)
theorem dX12_count_217 : decode cX12_count 217 = .ok (.goto 4, 3) := dk_167 0 4 (bs_at BX12_count_215 2 rfl) rfl
theorem dX12_count_220 : decode cX12_count 220 = .ok (.iconst (-1), 1) := dk_2 (bs_at BX12_count_215 3 rfl)
theorem dX12_count_221 : decode cX12_count 221 = .ok (.ireturn, 1) := dk_172 (bs_at BX12_count_215 4 rfl)
theorem BX12_status_0 : bsegs (ByteArray.data cX12_status |>.toList.drop 0) 0 [(0, [42]), (1, [3]), (2, [181, 0, 158]), (5, [42]), (6, [180, 0, 161]), (9, [172])] = true := by decide +kernel
theorem dX12_status_0 : decode cX12_status 0 = .ok (.aload_n 0, 1) := dk_42 (bs_at BX12_status_0 0 rfl)
theorem dX12_status_1 : decode cX12_status 1 = .ok (.iconst 0, 1) := dk_3 (bs_at BX12_status_0 1 rfl)
theorem dX12_status_2 : decode cX12_status 2 = .ok (.putfield 158, 3) := dk_181 0 158 (bs_at BX12_status_0 2 rfl) rfl
theorem dX12_status_5 : decode cX12_status 5 = .ok (.aload_n 0, 1) := dk_42 (bs_at BX12_status_0 3 rfl)
theorem dX12_status_6 : decode cX12_status 6 = .ok (.getfield 161, 3) := dk_180 0 161 (bs_at BX12_status_0 4 rfl) rfl
theorem dX12_status_9 : decode cX12_status 9 = .ok (.ireturn, 1) := dk_172 (bs_at BX12_status_0 5 rfl)
theorem BX12_stopped_0 : bsegs (ByteArray.data cX12_stopped |>.toList.drop 0) 0 [(0, [42]), (1, [3]), (2, [181, 0, 158]), (5, [42]), (6, [180, 0, 149]), (9, [172])] = true := by decide +kernel
theorem dX12_stopped_0 : decode cX12_stopped 0 = .ok (.aload_n 0, 1) := dk_42 (bs_at BX12_stopped_0 0 rfl)
theorem dX12_stopped_1 : decode cX12_stopped 1 = .ok (.iconst 0, 1) := dk_3 (bs_at BX12_stopped_0 1 rfl)
theorem dX12_stopped_2 : decode cX12_stopped 2 = .ok (.putfield 158, 3) := dk_181 0 158 (bs_at BX12_stopped_0 2 rfl) rfl
theorem dX12_stopped_5 : decode cX12_stopped 5 = .ok (.aload_n 0, 1) := dk_42 (bs_at BX12_stopped_0 3 rfl)
theorem dX12_stopped_6 : decode cX12_stopped 6 = .ok (.getfield 149, 3) := dk_180 0 149 (bs_at BX12_stopped_0 4 rfl) rfl
theorem dX12_stopped_9 : decode cX12_stopped 9 = .ok (.ireturn, 1) := dk_172 (bs_at BX12_stopped_0 5 rfl)
theorem BX12_fault_0 : bsegs (ByteArray.data cX12_fault |>.toList.drop 0) 0 [(0, [42]), (1, [3]), (2, [181, 0, 158]), (5, [42]), (6, [180, 0, 38]), (9, [172])] = true := by decide +kernel
theorem dX12_fault_0 : decode cX12_fault 0 = .ok (.aload_n 0, 1) := dk_42 (bs_at BX12_fault_0 0 rfl)
theorem dX12_fault_1 : decode cX12_fault 1 = .ok (.iconst 0, 1) := dk_3 (bs_at BX12_fault_0 1 rfl)
theorem dX12_fault_2 : decode cX12_fault 2 = .ok (.putfield 158, 3) := dk_181 0 158 (bs_at BX12_fault_0 2 rfl) rfl
theorem dX12_fault_5 : decode cX12_fault 5 = .ok (.aload_n 0, 1) := dk_42 (bs_at BX12_fault_0 3 rfl)
theorem dX12_fault_6 : decode cX12_fault 6 = .ok (.getfield 38, 3) := dk_180 0 38 (bs_at BX12_fault_0 4 rfl) rfl
theorem dX12_fault_9 : decode cX12_fault 9 = .ok (.ireturn, 1) := dk_172 (bs_at BX12_fault_0 5 rfl)
theorem ggX12_drawn_X12_in : GoodIn wsX12_drawn wsX12_in := gi_ch ch_X12_drawn ch_X12_in (by decide +kernel)
theorem gX12_drawn_X12_in : GoodIn wsX12_drawn (va_wsS RX12 178 yX12_in wsX12_in) := gi_ch ch_X12_drawn (ch_s [965, 966, 156] rfl ch_X12_in) (by decide +kernel)
theorem ggX12_count_X12_in : GoodIn wsX12_count wsX12_in := gi_ch ch_X12_count ch_X12_in (by decide +kernel)
theorem gX12_count_X12_in : GoodIn wsX12_count (va_wsS RX12 178 yX12_in wsX12_in) := gi_ch ch_X12_count (ch_s [965, 966, 156] rfl ch_X12_in) (by decide +kernel)
theorem ggX12_count_X12_isSounding : GoodIn wsX12_count wsX12_isSounding := gi_ch ch_X12_count ch_X12_isSounding (by decide +kernel)
theorem gX12_count_X12_isSounding : GoodIn wsX12_count (wsV RX12 185 RX12 yX12_isSounding wsX12_isSounding) := gi_ch ch_X12_count (ch_v [987, 988, 77, 156] rfl ch_X12_isSounding) (by decide +kernel)
set_option maxRecDepth 100000 in
noncomputable def E_v_drawn (x : Int32) (y : Int32) (thr : Int32) (dfi : Int32) (ndr : Int32) (fd : Nat → Int32) : Int32 :=
  if ndr = (-1) then (((-1) : Int32)) else (Lt ((y : Int32).toInt64 : Int64) (fun x_112 => Lt (E_v_in x_112 0 2) (fun r_113 => if r_113 = 1 then (if 2 ≤ y then (if y = 2 then ((dfi : Int32)) else (((0) : Int32))) else (Lt ((x : Int32).toInt64 : Int64) (fun x_121 => Lt ((ndr : Int32).toInt64 : Int64) (fun x_122 => Lt (x_122 - 1 : Int64) (fun x_123 => Lt (E_v_in x_121 0 x_123) (fun r_124 => if r_124 = 1 then (if y = 2 then (((0) : Int32)) else (Lt (2 * x : Int32) (fun x_131 => Lt (x_131 + y : Int32) (fun x_132 => Lt (fd (x_132 : Int32).toNatClampNeg : Int32) (fun x_133 => (x_133 : Int32)))))) else (((-1) : Int32)))))))) else (((-1) : Int32)))))
set_option maxHeartbeats 4000000 in
set_option maxRecDepth 100000 in
theorem v_drawn (l : Launch) (D : va_G) (K : Nat → ClassId) (m0 : Nat) (x : Int32) (y : Int32) (thr : Int32) (m_1 : Value) (m_2 : Value) (m_3 : Value) (m_4 : Value) (m_5 : Value) (m_6 : Value) (m_7 : Value) (m_8 : Value) (m_9 : Value) (m_10 : Value) (m_11 : Value) (m_12 : Value) (m_13 : Value) (m_14 : Value) (m_15 : Value) (m_16 : Value) (m_17 : Value) (m_18 : Value) (m_19 : Value) (m_20 : Value) (m_21 : Value) (m_22 : Value) (m_23 : Value) (m_24 : Value) (m_25 : Value) (m_26 : Value) (m_27 : Value) (m_28 : Value) (m_29 : Value) (m_30 : Value) (m_31 : Value) (m_32 : Value) (m_33 : Value) (m_34 : Value) (m_35 : Value) (m_36 : Value) (m_37 : Value) (m_38 : Value) (m_39 : Value) (m_40 : Value) (m_41 : Value) (m_42 : Value) (m_43 : Value) (m_44 : Value) (m_45 : Value) (m_46 : Value) (m_47 : Value) (m_48 : Value) (m_49 : Value) (m_50 : Value) (m_51 : Value) (m_52 : Value) (m_53 : Value) (m_54 : Value) (m_55 : Value) (m_56 : Value) (d0 : Nat) (dfi : Int32) (ndr : Int32) (fd : Nat → Int32) (sz : Nat) (zndr : (-1) ≤ ndr.toInt ∧ ndr.toInt ≤ 8) : Met l yX12_drawn wsX12_drawn ({ frames := 1, cells := 0, slots := 0, locals := 25 }) (va_Pc [.ref m0, .int x, .int y] (Pre D K [(cc_O m0 12 [.int thr, m_1, m_2, m_3, m_4, m_5, m_6, m_7, m_8, m_9, m_10, m_11, m_12, m_13, m_14, m_15, m_16, m_17, m_18, m_19, m_20, m_21, m_22, m_23, m_24, m_25, m_26, m_27, m_28, m_29, m_30, m_31, m_32, m_33, m_34, m_35, m_36, m_37, m_38, m_39, m_40, m_41, m_42, m_43, m_44, m_45, m_46, m_47, m_48, m_49, m_50, m_51, m_52, m_53, m_54, m_55, m_56, .ref d0, .int dfi, .int ndr]), (cc_l d0 (K 0) 16 fd)] sz)) (va_Qi (S := Su) (fun (r : Int32) (u : Su) => (r = E_v_drawn x y thr dfi ndr fd) ∧ True) (fun u t => Wd D (va_A [(cc_O m0 12 [.int thr, m_1, m_2, m_3, m_4, m_5, m_6, m_7, m_8, m_9, m_10, m_11, m_12, m_13, m_14, m_15, m_16, m_17, m_18, m_19, m_20, m_21, m_22, m_23, m_24, m_25, m_26, m_27, m_28, m_29, m_30, m_31, m_32, m_33, m_34, m_35, m_36, m_37, m_38, m_39, m_40, m_41, m_42, m_43, m_44, m_45, m_46, m_47, m_48, m_49, m_50, m_51, m_52, m_53, m_54, m_55, m_56, .ref d0, .int dfi, .int ndr]), (cc_l d0 (K 0) 16 fd)] sz) ((fun u => [(cc_O m0 12 [.int 0, m_1, m_2, m_3, m_4, m_5, m_6, m_7, m_8, m_9, m_10, m_11, m_12, m_13, m_14, m_15, m_16, m_17, m_18, m_19, m_20, m_21, m_22, m_23, m_24, m_25, m_26, m_27, m_28, m_29, m_30, m_31, m_32, m_33, m_34, m_35, m_36, m_37, m_38, m_39, m_40, m_41, m_42, m_43, m_44, m_45, m_46, m_47, m_48, m_49, m_50, m_51, m_52, m_53, m_54, m_55, m_56, .ref d0, .int dfi, .int ndr]), (cc_l d0 (K 0) 16 fd)]) u) t) (va_A [(cc_O m0 12 [.int thr, m_1, m_2, m_3, m_4, m_5, m_6, m_7, m_8, m_9, m_10, m_11, m_12, m_13, m_14, m_15, m_16, m_17, m_18, m_19, m_20, m_21, m_22, m_23, m_24, m_25, m_26, m_27, m_28, m_29, m_30, m_31, m_32, m_33, m_34, m_35, m_36, m_37, m_38, m_39, m_40, m_41, m_42, m_43, m_44, m_45, m_46, m_47, m_48, m_49, m_50, m_51, m_52, m_53, m_54, m_55, m_56, .ref d0, .int dfi, .int ndr]), (cc_l d0 (K 0) 16 fd)] sz)) 0 0 (va_A [(cc_O m0 12 [.int thr, m_1, m_2, m_3, m_4, m_5, m_6, m_7, m_8, m_9, m_10, m_11, m_12, m_13, m_14, m_15, m_16, m_17, m_18, m_19, m_20, m_21, m_22, m_23, m_24, m_25, m_26, m_27, m_28, m_29, m_30, m_31, m_32, m_33, m_34, m_35, m_36, m_37, m_38, m_39, m_40, m_41, m_42, m_43, m_44, m_45, m_46, m_47, m_48, m_49, m_50, m_51, m_52, m_53, m_54, m_55, m_56, .ref d0, .int dfi, .int ndr]), (cc_l d0 (K 0) 16 fd)] sz) := by
  refine Met.ofW (cc := cX12_drawn) (maxL := 3) (ret := (some .int)) (by decide +kernel) rfl ?_
  intro p e s m args below meth c s₁ B hml hv
  obtain ⟨rfl, hsz, hP, hK, hD0, hN⟩ := hv
  have hx := B.exec
  have hb := B.bytes
  have hr := B.returns
  have hts := atoms_spec (ws := wsX12_drawn) B.pre
  have hown : s.vm.findClass RX12 = some m.cls := findClass_of_methodNamed B.named
  have hlocks := B.notSynchronized
  subst hsz
  have hD := hD0.self (sz := s.heap.size)
  generalize hAe : va_A [(cc_O m0 12 [.int thr, m_1, m_2, m_3, m_4, m_5, m_6, m_7, m_8, m_9, m_10, m_11, m_12, m_13, m_14, m_15, m_16, m_17, m_18, m_19, m_20, m_21, m_22, m_23, m_24, m_25, m_26, m_27, m_28, m_29, m_30, m_31, m_32, m_33, m_34, m_35, m_36, m_37, m_38, m_39, m_40, m_41, m_42, m_43, m_44, m_45, m_46, m_47, m_48, m_49, m_50, m_51, m_52, m_53, m_54, m_55, m_56, .ref d0, .int dfi, .int ndr]), (cc_l d0 (K 0) 16 fd)] s.heap.size = A at hD ⊢
  have hA : ∀ q : Nat, s.heap.size ≤ q → A q := fun q h => by rw [← hAe]; exact Or.inr h
  clear hAe
  have hS : va_S A s.heap s.heap [] := va_S.rf
  replace hP : va_P D vwCl [(cc_O m0 12 [.int thr, m_1, m_2, m_3, m_4, m_5, m_6, m_7, m_8, m_9, m_10, m_11, m_12, m_13, m_14, m_15, m_16, m_17, m_18, m_19, m_20, m_21, m_22, m_23, m_24, m_25, m_26, m_27, m_28, m_29, m_30, m_31, m_32, m_33, m_34, m_35, m_36, m_37, m_38, m_39, m_40, m_41, m_42, m_43, m_44, m_45, m_46, m_47, m_48, m_49, m_50, m_51, m_52, m_53, m_54, m_55, m_56, .ref d0, .int dfi, .int ndr]), (cc_l d0 (K 0) 16 fd)] s.heap := hP
  have hl := lv_entry [.ref m0, .int x, .int y] (n := 3) (Nat.le_of_ble_eq_true rfl)
  rw [lg_entry_eq]
  generalize (lg_sl [.ref m0, .int x, .int y] ++ List.replicate (3 - (lg_sl [.ref m0, .int x, .int y]).length) Slot.unset).toArray = ls at hl ⊢
  have hl : lv_has ls 3 [(0, .ref m0), (1, .int x), (2, .int y)] := hl
  have hw12 : ∀ w ∈ wsX120, w ∈ wsX12_drawn := fun w h => (List.mem_cons_of_mem _ (List.mem_append_right _ h))
  generalize hQ : MQ below _ _ s _ _ _ = Q
  have hE := E_v_drawn.eq_def x y thr dfi ndr fd
  refine lv_aload_n hx hb dX12_drawn_0 rfl (lv_at hl 0 rfl) (lv_iconst (v := 0) hx hb dX12_drawn_1 (by decide +kernel) (va_put (ci := 12) (v := .int 0) (ty := .int) (C := RX12) (T := TX12) (N := 60) hx hb hts hw12 tyX12 tyX12_ok nmX12 hown hK hP hD hS 0 rfl rfl 0 (by decide +kernel) (hts _ mm_X12_drawn_830) (fun _ h9 => h9) rfl (by decide +kernel) (by first | rfl | decide) (by first | rfl | decide) (Nat.le_of_ble_eq_true rfl) dX12_drawn_2 (fun H locs hP0 hD0 hS0 => ?_)))
  replace hP : va_P D vwCl [(cc_O m0 12 [.int 0, m_1, m_2, m_3, m_4, m_5, m_6, m_7, m_8, m_9, m_10, m_11, m_12, m_13, m_14, m_15, m_16, m_17, m_18, m_19, m_20, m_21, m_22, m_23, m_24, m_25, m_26, m_27, m_28, m_29, m_30, m_31, m_32, m_33, m_34, m_35, m_36, m_37, m_38, m_39, m_40, m_41, m_42, m_43, m_44, m_45, m_46, m_47, m_48, m_49, m_50, m_51, m_52, m_53, m_54, m_55, m_56, .ref d0, .int dfi, .int ndr]), (cc_l d0 (K 0) 16 fd)] H := hP0
  replace hD := as_D hP hD0 rfl
  replace hS := hS0
  clear hP0 hD0 hS0
  refine lv_aload_n hx hb dX12_drawn_5 rfl (lv_at hl 0 rfl) (va_get (ci := 12) (v := .int ndr) (C := RX12) (T := TX12) (N := 60) hx hb hts hw12 hown hK hP 0 rfl rfl 59 (by decide +kernel) (hts _ mm_X12_drawn_889) (fun _ h9 => h9) rfl dX12_drawn_6 (lv_iconst (v := (-1)) hx hb dX12_drawn_9 (by decide +kernel) (lv_icmp_eq (tgt := 46) hx hb dX12_drawn_10 (by decide +kernel) (fun c_111 => ?_) (fun c_111 => ?_))))
  · have c_111i := i_eq (x := ndr.toInt) (y := (-1)) rfl rfl c_111
    replace hE := hE.trans (if_pos c_111)
    refine lv_iconst (v := (-1)) hx hb dX12_drawn_46 (by decide +kernel) ?_
    rw [← hQ]
    have hP9 := hP.sub (ws' := [(cc_O m0 12 [.int 0, m_1, m_2, m_3, m_4, m_5, m_6, m_7, m_8, m_9, m_10, m_11, m_12, m_13, m_14, m_15, m_16, m_17, m_18, m_19, m_20, m_21, m_22, m_23, m_24, m_25, m_26, m_27, m_28, m_29, m_30, m_31, m_32, m_33, m_34, m_35, m_36, m_37, m_38, m_39, m_40, m_41, m_42, m_43, m_44, m_45, m_46, m_47, m_48, m_49, m_50, m_51, m_52, m_53, m_54, m_55, m_56, .ref d0, .int dfi, .int ndr]), (cc_l d0 (K 0) 16 fd)]) [0, 1] rfl
    have hD9 := sub_D hP9 hD [0, 1] (by decide +kernel) rfl
    exact W.iret (v := (-1)) hx hb hr (fun t ht hW => ⟨⟨(-1), ((fun _ => 0, fun _ => fun _ => 0, fun _ => fun _ => 0, fun _ => 0, fun _ => 0, fun _ => fun _ => none) : Su), rfl, ⟨hE.symm, trivial⟩, (⟨by rw [ht]; exact hP9, hD9⟩ : Wd D A _ t)⟩, hS.F ht⟩) hS.2.2 dX12_drawn_47
  · have c_111i := i_ne (x := ndr.toInt) (y := (-1)) rfl rfl c_111
    replace hE := hE.trans (if_neg c_111)
    refine lv_iload_n hx hb dX12_drawn_13 rfl (lv_at hl 2 rfl) (lv_i2l hx hb dX12_drawn_14 rfl (lv_topl (fun x_112 ex_112 => ?_)))
    replace hE := hE.trans (Lt_in ex_112)
    have hx_112 : x_112.toInt = y.toInt := by rw [ex_112]; exact i_wide rfl
    have hbx_112 := i_rng (a := y) rfl
    refine lv_lconst (v := 0) hx hb dX12_drawn_15 (by decide +kernel) (lv_ldc2 (v := 2) hx hb hown (hts _ mm_X12_drawn_1185) dX12_drawn_16 (pci (va_runS (As := [.long x_112, .long 0, .long 2]) (rest := []) ⟨hx, hb, hml, hown, hts⟩ (v_in l D K y.toInt 0 2 x_112 0 2 H.size hx_112 (show (0 : Int64).toInt = 0 from rfl) (show (2 : Int64).toInt = 2 from rfl)) (va_cwS 3 hts gX12_drawn_X12_in rfl rfl rfl (by decide +kernel) ⟨Nat.le_of_ble_eq_true rfl, Nat.le_of_ble_eq_true rfl⟩) (mkS hK hN (va_P.nil) (va_D.nil (A := fun _ => True))) rfl rfl hl.1 rfl (lv_room (Nat.le_of_ble_eq_true rfl)) dX12_drawn_19 ⟨Nat.le_of_ble_eq_true rfl, Nat.le_of_ble_eq_true rfl⟩) (fun r_113 hw => ?_)))
    obtain ⟨hw, k_114, -⟩ := hw
    replace hE := hE.trans (Lt_in k_114)
    rcases hw with ⟨rfl, h_115, h_116⟩ | ⟨rfl, h_117⟩
    · replace hE := (hE).trans (if_pos rfl)
      refine lv_if_eq (tgt := 46) hx hb dX12_drawn_22 (by decide +kernel) (fun c_118 => absurd c_118 (by decide +kernel)) (fun c_118 => ?_)
      refine lv_iload_n hx hb dX12_drawn_25 rfl (lv_at hl 2 rfl) (lv_iconst (v := 2) hx hb dX12_drawn_26 (by decide +kernel) (lv_icmp_ge (tgt := 48) hx hb dX12_drawn_27 (by decide +kernel) (fun c_119 => ?_) (fun c_119 => ?_)))
      · have c_119i := i_le (x := 2) (y := y.toInt) rfl rfl c_119
        replace hE := hE.trans (if_pos c_119)
        refine lv_iload_n hx hb dX12_drawn_48 rfl (lv_at hl 2 rfl) (lv_iconst (v := 2) hx hb dX12_drawn_49 (by decide +kernel) (lv_icmp_ne (tgt := 60) hx hb dX12_drawn_50 (by decide +kernel) (fun c_120 => ?_) (fun c_120 => ?_)))
        · have c_120i := i_ne (x := y.toInt) (y := 2) rfl rfl c_120
          exfalso; omega
        · have c_120i := i_eq (x := y.toInt) (y := 2) rfl rfl c_120
          replace hE := hE.trans (if_pos c_120)
          refine lv_aload_n hx hb dX12_drawn_53 rfl (lv_at hl 0 rfl) (va_get (ci := 12) (v := .int dfi) (C := RX12) (T := TX12) (N := 60) hx hb hts hw12 hown hK hP 0 rfl rfl 58 (by decide +kernel) (hts _ mm_X12_drawn_888) (fun _ h9 => h9) rfl dX12_drawn_54 (lv_goto (tgt := 70) hx hb dX12_drawn_57 (by decide +kernel) ?_))
          rw [← hQ]
          have hP9 := hP.sub (ws' := [(cc_O m0 12 [.int 0, m_1, m_2, m_3, m_4, m_5, m_6, m_7, m_8, m_9, m_10, m_11, m_12, m_13, m_14, m_15, m_16, m_17, m_18, m_19, m_20, m_21, m_22, m_23, m_24, m_25, m_26, m_27, m_28, m_29, m_30, m_31, m_32, m_33, m_34, m_35, m_36, m_37, m_38, m_39, m_40, m_41, m_42, m_43, m_44, m_45, m_46, m_47, m_48, m_49, m_50, m_51, m_52, m_53, m_54, m_55, m_56, .ref d0, .int dfi, .int ndr]), (cc_l d0 (K 0) 16 fd)]) [0, 1] rfl
          have hD9 := sub_D hP9 hD [0, 1] (by decide +kernel) rfl
          exact W.iret (v := dfi) hx hb hr (fun t ht hW => ⟨⟨dfi, ((fun _ => 0, fun _ => fun _ => 0, fun _ => fun _ => 0, fun _ => 0, fun _ => 0, fun _ => fun _ => none) : Su), rfl, ⟨hE.symm, trivial⟩, (⟨by rw [ht]; exact hP9, hD9⟩ : Wd D A _ t)⟩, hS.F ht⟩) hS.2.2 dX12_drawn_70
      · have c_119i := i_nle (x := 2) (y := y.toInt) rfl rfl c_119
        replace hE := hE.trans (if_neg c_119)
        refine lv_iload_n hx hb dX12_drawn_30 rfl (lv_at hl 1 rfl) (lv_i2l hx hb dX12_drawn_31 rfl (lv_topl (fun x_121 ex_121 => ?_)))
        replace hE := hE.trans (Lt_in ex_121)
        have hx_121 : x_121.toInt = x.toInt := by rw [ex_121]; exact i_wide rfl
        have hbx_121 := i_rng (a := x) rfl
        refine lv_lconst (v := 0) hx hb dX12_drawn_32 (by decide +kernel) (lv_aload_n hx hb dX12_drawn_33 rfl (lv_at hl 0 rfl) (va_get (ci := 12) (v := .int ndr) (C := RX12) (T := TX12) (N := 60) hx hb hts hw12 hown hK hP 0 rfl rfl 59 (by decide +kernel) (hts _ mm_X12_drawn_889) (fun _ h9 => h9) rfl dX12_drawn_34 (lv_i2l hx hb dX12_drawn_37 rfl (lv_topl (fun x_122 ex_122 => ?_)))))
        replace hE := hE.trans (Lt_in ex_122)
        have hx_122 : x_122.toInt = ndr.toInt := by rw [ex_122]; exact i_wide rfl
        refine lv_lconst (v := 1) hx hb dX12_drawn_38 (by decide +kernel) (lv_lsub hx hb dX12_drawn_39 (lv_topl (fun x_123 ex_123 => ?_)))
        replace hE := hE.trans (Lt_in ex_123)
        have hx_123 : x_123.toInt = (ndr.toInt - 1) := by rw [ex_123]; exact l_sub hx_122 (show (1 : Int64).toInt = 1 from rfl) (by omega)
        refine pci (va_runS (As := [.long x_121, .long 0, .long x_123]) (rest := []) ⟨hx, hb, hml, hown, hts⟩ (v_in l D K x.toInt 0 (ndr.toInt - 1) x_121 0 x_123 H.size hx_121 (show (0 : Int64).toInt = 0 from rfl) hx_123) (va_cwS 3 hts gX12_drawn_X12_in rfl rfl rfl (by decide +kernel) ⟨Nat.le_of_ble_eq_true rfl, Nat.le_of_ble_eq_true rfl⟩) (mkS hK hN (va_P.nil) (va_D.nil (A := fun _ => True))) rfl rfl hl.1 rfl (lv_room (Nat.le_of_ble_eq_true rfl)) dX12_drawn_40 ⟨Nat.le_of_ble_eq_true rfl, Nat.le_of_ble_eq_true rfl⟩) (fun r_124 hw => ?_)
        obtain ⟨hw, k_125, -⟩ := hw
        replace hE := hE.trans (Lt_in k_125)
        rcases hw with ⟨rfl, h_126, h_127⟩ | ⟨rfl, h_128⟩
        · replace hE := (hE).trans (if_pos rfl)
          refine lv_if_ne (tgt := 48) hx hb dX12_drawn_43 (by decide +kernel) (fun c_129 => ?_) (fun c_129 => absurd c_129 (by decide +kernel))
          refine lv_iload_n hx hb dX12_drawn_48 rfl (lv_at hl 2 rfl) (lv_iconst (v := 2) hx hb dX12_drawn_49 (by decide +kernel) (lv_icmp_ne (tgt := 60) hx hb dX12_drawn_50 (by decide +kernel) (fun c_130 => ?_) (fun c_130 => ?_)))
          · have c_130i := i_ne (x := y.toInt) (y := 2) rfl rfl c_130
            replace hE := hE.trans (if_neg c_130)
            refine lv_aload_n hx hb dX12_drawn_60 rfl (lv_at hl 0 rfl) (va_get (ci := 12) (v := .ref d0) (C := RX12) (T := TX12) (N := 60) hx hb hts hw12 hown hK hP 0 rfl rfl 57 (by decide +kernel) (hts _ mm_X12_drawn_887) (fun _ h9 => h9) rfl dX12_drawn_61 (lv_iconst (v := 2) hx hb dX12_drawn_64 (by decide +kernel) (lv_iload_n hx hb dX12_drawn_65 rfl (lv_at hl 1 rfl) (lv_imul hx hb dX12_drawn_66 (lv_topi (fun x_131 ex_131 => ?_))))))
            replace hE := hE.trans (Lt_in ex_131)
            have hx_131 : x_131.toInt = (2 * x.toInt) := by rw [ex_131]; exact i_mul (show (2 : Int32).toInt = 2 from rfl) rfl (by omega)
            refine lv_iload_n hx hb dX12_drawn_67 rfl (lv_at hl 2 rfl) (lv_iadd hx hb dX12_drawn_68 (lv_topi (fun x_132 ex_132 => ?_)))
            replace hE := hE.trans (Lt_in ex_132)
            have hx_132 : x_132.toInt = ((2 * x.toInt) + y.toInt) := by rw [ex_132]; exact i_add hx_131 rfl (by omega)
            refine va_iald hx hb hK hP 1 0 rfl rfl (i_in hx_132 (by omega)) dX12_drawn_69 (lv_topi (fun x_133 ex_133 => ?_))
            replace hE := hE.trans (Lt_in ex_133)
            rw [← hQ]
            have hP9 := hP.sub (ws' := [(cc_O m0 12 [.int 0, m_1, m_2, m_3, m_4, m_5, m_6, m_7, m_8, m_9, m_10, m_11, m_12, m_13, m_14, m_15, m_16, m_17, m_18, m_19, m_20, m_21, m_22, m_23, m_24, m_25, m_26, m_27, m_28, m_29, m_30, m_31, m_32, m_33, m_34, m_35, m_36, m_37, m_38, m_39, m_40, m_41, m_42, m_43, m_44, m_45, m_46, m_47, m_48, m_49, m_50, m_51, m_52, m_53, m_54, m_55, m_56, .ref d0, .int dfi, .int ndr]), (cc_l d0 (K 0) 16 fd)]) [0, 1] rfl
            have hD9 := sub_D hP9 hD [0, 1] (by decide +kernel) rfl
            exact W.iret (v := x_133) hx hb hr (fun t ht hW => ⟨⟨x_133, ((fun _ => 0, fun _ => fun _ => 0, fun _ => fun _ => 0, fun _ => 0, fun _ => 0, fun _ => fun _ => none) : Su), rfl, ⟨hE.symm, trivial⟩, (⟨by rw [ht]; exact hP9, hD9⟩ : Wd D A _ t)⟩, hS.F ht⟩) hS.2.2 dX12_drawn_70
          · have c_130i := i_eq (x := y.toInt) (y := 2) rfl rfl c_130
            exfalso; omega
        · replace hE := (hE).trans (if_neg (by first | decide | (intro h9; have h8 := congrArg Int32.toInt h9; omega)))
          refine lv_if_ne (tgt := 48) hx hb dX12_drawn_43 (by decide +kernel) (fun c_134 => absurd (by decide +kernel) c_134) (fun c_134 => ?_)
          refine lv_iconst (v := (-1)) hx hb dX12_drawn_46 (by decide +kernel) ?_
          rw [← hQ]
          have hP9 := hP.sub (ws' := [(cc_O m0 12 [.int 0, m_1, m_2, m_3, m_4, m_5, m_6, m_7, m_8, m_9, m_10, m_11, m_12, m_13, m_14, m_15, m_16, m_17, m_18, m_19, m_20, m_21, m_22, m_23, m_24, m_25, m_26, m_27, m_28, m_29, m_30, m_31, m_32, m_33, m_34, m_35, m_36, m_37, m_38, m_39, m_40, m_41, m_42, m_43, m_44, m_45, m_46, m_47, m_48, m_49, m_50, m_51, m_52, m_53, m_54, m_55, m_56, .ref d0, .int dfi, .int ndr]), (cc_l d0 (K 0) 16 fd)]) [0, 1] rfl
          have hD9 := sub_D hP9 hD [0, 1] (by decide +kernel) rfl
          exact W.iret (v := (-1)) hx hb hr (fun t ht hW => ⟨⟨(-1), ((fun _ => 0, fun _ => fun _ => 0, fun _ => fun _ => 0, fun _ => 0, fun _ => 0, fun _ => fun _ => none) : Su), rfl, ⟨hE.symm, trivial⟩, (⟨by rw [ht]; exact hP9, hD9⟩ : Wd D A _ t)⟩, hS.F ht⟩) hS.2.2 dX12_drawn_47
    · replace hE := (hE).trans (if_neg (by first | decide | (intro h9; have h8 := congrArg Int32.toInt h9; omega)))
      refine lv_if_eq (tgt := 46) hx hb dX12_drawn_22 (by decide +kernel) (fun c_135 => ?_) (fun c_135 => absurd (by decide +kernel) c_135)
      refine lv_iconst (v := (-1)) hx hb dX12_drawn_46 (by decide +kernel) ?_
      rw [← hQ]
      have hP9 := hP.sub (ws' := [(cc_O m0 12 [.int 0, m_1, m_2, m_3, m_4, m_5, m_6, m_7, m_8, m_9, m_10, m_11, m_12, m_13, m_14, m_15, m_16, m_17, m_18, m_19, m_20, m_21, m_22, m_23, m_24, m_25, m_26, m_27, m_28, m_29, m_30, m_31, m_32, m_33, m_34, m_35, m_36, m_37, m_38, m_39, m_40, m_41, m_42, m_43, m_44, m_45, m_46, m_47, m_48, m_49, m_50, m_51, m_52, m_53, m_54, m_55, m_56, .ref d0, .int dfi, .int ndr]), (cc_l d0 (K 0) 16 fd)]) [0, 1] rfl
      have hD9 := sub_D hP9 hD [0, 1] (by decide +kernel) rfl
      exact W.iret (v := (-1)) hx hb hr (fun t ht hW => ⟨⟨(-1), ((fun _ => 0, fun _ => fun _ => 0, fun _ => fun _ => 0, fun _ => 0, fun _ => 0, fun _ => fun _ => none) : Su), rfl, ⟨hE.symm, trivial⟩, (⟨by rw [ht]; exact hP9, hD9⟩ : Wd D A _ t)⟩, hS.F ht⟩) hS.2.2 dX12_drawn_47
set_option maxRecDepth 100000 in
noncomputable def E_v_count_l9 (x : Int32) (nu : Int32) (ta : Int32) (fw : Nat → Int32) (frf : Nat → Int32) (rec_369 : Int32 → Int32 → (Int32)) (v_345 : Int32) (v_346 : Int32) : Int32 :=
  Lt (fw (0 : Int32).toNatClampNeg : Int32) (fun x_371 => if x_371 ≤ v_345 then (if (x : Int32).toInt = 0 then (Lt (fw (0 : Int32).toNatClampNeg : Int32) (fun x_374 => (x_374 : Int32))) else (if (x : Int32).toInt = 1 then ((v_346 : Int32)) else (if (x : Int32).toInt = 2 then (Lt (fw (1 : Int32).toNatClampNeg : Int32) (fun x_375 => (x_375 : Int32))) else (if (x : Int32).toInt = 3 then (Lt (fw (2 : Int32).toNatClampNeg : Int32) (fun x_376 => (x_376 : Int32))) else (if (x : Int32).toInt = 4 then ((nu : Int32)) else (if (x : Int32).toInt = 5 then ((ta : Int32)) else (if (x : Int32).toInt = 6 then (Lt (frf (1 : Int32).toNatClampNeg : Int32) (fun x_377 => (x_377 : Int32))) else (if (x : Int32).toInt = 7 then (Lt (frf (2 : Int32).toNatClampNeg : Int32) (fun x_378 => (x_378 : Int32))) else (if (x : Int32).toInt = 8 then (Lt (frf (3 : Int32).toNatClampNeg : Int32) (fun x_379 => (x_379 : Int32))) else (if (x : Int32).toInt = 9 then (Lt (frf (5 : Int32).toNatClampNeg : Int32) (fun x_380 => (x_380 : Int32))) else (if (x : Int32).toInt = 10 then (Lt (frf (6 : Int32).toNatClampNeg : Int32) (fun x_381 => (x_381 : Int32))) else (if (x : Int32).toInt = 11 then (Lt (fw (3 : Int32).toNatClampNeg : Int32) (fun x_382 => (x_382 : Int32))) else (if (x : Int32).toInt = 12 then (Lt (fw (10 : Int32).toNatClampNeg : Int32) (fun x_383 => (x_383 : Int32))) else (Lt ((x : Int32).toInt64 : Int64) (fun x_384 => Lt (E_v_in x_384 13 18) (fun r_385 => if r_385 = 1 then (Lt (4 + x : Int32) (fun x_391 => Lt (x_391 - 13 : Int32) (fun x_392 => Lt (fw (x_392 : Int32).toNatClampNeg : Int32) (fun x_393 => (x_393 : Int32))))) else (((-1) : Int32)))))))))))))))))) else (Lt (E_v_isSounding v_345 fw) (fun r_395 => if r_395 = 0 then (Lt (v_346 + 0 : Int32) (fun x_399 => Lt (v_345 + Int32.ofInt 1 : Int32) (fun x_400 => rec_369 x_400 x_399))) else (Lt (v_346 + 1 : Int32) (fun x_401 => Lt (v_345 + Int32.ofInt 1 : Int32) (fun x_402 => rec_369 x_402 x_401))))))
set_option maxRecDepth 100000 in
noncomputable def E_v_count (x : Int32) (thr : Int32) (nu : Int32) (ta : Int32) (fw : Nat → Int32) (frf : Nat → Int32) : Int32 :=
  Lp (α := Int32 → Int32 → (Int32)) (E_v_count_l9 x nu ta fw frf) (fun _ _ => ((0) : Int32)) ((9 - (0 : Int32).toInt : Int).toNat + 1) 0 0
set_option maxHeartbeats 4000000 in
set_option maxRecDepth 100000 in
theorem v_count (l : Launch) (D : va_G) (K : Nat → ClassId) (m0 : Nat) (x : Int32) (thr : Int32) (m_1 : Value) (r0 : Nat) (w0 : Nat) (m_4 : Value) (m_5 : Value) (m_6 : Value) (m_7 : Value) (nu : Int32) (m_9 : Value) (m_10 : Value) (m_11 : Value) (m_12 : Value) (ta : Int32) (m_14 : Value) (m_15 : Value) (m_16 : Value) (m_17 : Value) (m_18 : Value) (m_19 : Value) (m_20 : Value) (m_21 : Value) (m_22 : Value) (m_23 : Value) (m_24 : Value) (m_25 : Value) (m_26 : Value) (m_27 : Value) (m_28 : Value) (m_29 : Value) (m_30 : Value) (m_31 : Value) (m_32 : Value) (m_33 : Value) (m_34 : Value) (m_35 : Value) (m_36 : Value) (m_37 : Value) (m_38 : Value) (m_39 : Value) (m_40 : Value) (m_41 : Value) (m_42 : Value) (m_43 : Value) (m_44 : Value) (m_45 : Value) (m_46 : Value) (m_47 : Value) (m_48 : Value) (m_49 : Value) (m_50 : Value) (m_51 : Value) (m_52 : Value) (m_53 : Value) (m_54 : Value) (m_55 : Value) (m_56 : Value) (m_57 : Value) (m_58 : Value) (m_59 : Value) (fw : Nat → Int32) (gr : Nat → Int32) (frf : Nat → Int32) (sz : Nat) (zfw : RwOK fw) (zgr : FzM gr fw) : Met l yX12_count wsX12_count ({ frames := 2, cells := 0, slots := 0, locals := 46 }) (va_Pc [.ref m0, .int x] (Pre D K [(cc_O m0 12 [.int thr, m_1, .ref r0, .ref w0, m_4, m_5, m_6, m_7, .int nu, m_9, m_10, m_11, m_12, .int ta, m_14, m_15, m_16, m_17, m_18, m_19, m_20, m_21, m_22, m_23, m_24, m_25, m_26, m_27, m_28, m_29, m_30, m_31, m_32, m_33, m_34, m_35, m_36, m_37, m_38, m_39, m_40, m_41, m_42, m_43, m_44, m_45, m_46, m_47, m_48, m_49, m_50, m_51, m_52, m_53, m_54, m_55, m_56, m_57, m_58, m_59]), (cc_l w0 (K 0) 5500 fw), (cc_l r0 (K 0) 7 frf)] sz)) (va_Qi (S := Su) (fun (r : Int32) (u : Su) => (r = E_v_count x thr nu ta fw frf) ∧ True) (fun u t => Wd D (va_A [(cc_O m0 12 [.int thr, m_1, .ref r0, .ref w0, m_4, m_5, m_6, m_7, .int nu, m_9, m_10, m_11, m_12, .int ta, m_14, m_15, m_16, m_17, m_18, m_19, m_20, m_21, m_22, m_23, m_24, m_25, m_26, m_27, m_28, m_29, m_30, m_31, m_32, m_33, m_34, m_35, m_36, m_37, m_38, m_39, m_40, m_41, m_42, m_43, m_44, m_45, m_46, m_47, m_48, m_49, m_50, m_51, m_52, m_53, m_54, m_55, m_56, m_57, m_58, m_59]), (cc_l w0 (K 0) 5500 fw), (cc_l r0 (K 0) 7 frf)] sz) ((fun u => [(cc_O m0 12 [.int 0, m_1, .ref r0, .ref w0, m_4, m_5, m_6, m_7, .int nu, m_9, m_10, m_11, m_12, .int ta, m_14, m_15, m_16, m_17, m_18, m_19, m_20, m_21, m_22, m_23, m_24, m_25, m_26, m_27, m_28, m_29, m_30, m_31, m_32, m_33, m_34, m_35, m_36, m_37, m_38, m_39, m_40, m_41, m_42, m_43, m_44, m_45, m_46, m_47, m_48, m_49, m_50, m_51, m_52, m_53, m_54, m_55, m_56, m_57, m_58, m_59]), (cc_l w0 (K 0) 5500 fw), (cc_l r0 (K 0) 7 frf)]) u) t) (va_A [(cc_O m0 12 [.int thr, m_1, .ref r0, .ref w0, m_4, m_5, m_6, m_7, .int nu, m_9, m_10, m_11, m_12, .int ta, m_14, m_15, m_16, m_17, m_18, m_19, m_20, m_21, m_22, m_23, m_24, m_25, m_26, m_27, m_28, m_29, m_30, m_31, m_32, m_33, m_34, m_35, m_36, m_37, m_38, m_39, m_40, m_41, m_42, m_43, m_44, m_45, m_46, m_47, m_48, m_49, m_50, m_51, m_52, m_53, m_54, m_55, m_56, m_57, m_58, m_59]), (cc_l w0 (K 0) 5500 fw), (cc_l r0 (K 0) 7 frf)] sz)) 0 0 (va_A [(cc_O m0 12 [.int thr, m_1, .ref r0, .ref w0, m_4, m_5, m_6, m_7, .int nu, m_9, m_10, m_11, m_12, .int ta, m_14, m_15, m_16, m_17, m_18, m_19, m_20, m_21, m_22, m_23, m_24, m_25, m_26, m_27, m_28, m_29, m_30, m_31, m_32, m_33, m_34, m_35, m_36, m_37, m_38, m_39, m_40, m_41, m_42, m_43, m_44, m_45, m_46, m_47, m_48, m_49, m_50, m_51, m_52, m_53, m_54, m_55, m_56, m_57, m_58, m_59]), (cc_l w0 (K 0) 5500 fw), (cc_l r0 (K 0) 7 frf)] sz) := by
  refine Met.ofW (cc := cX12_count) (maxL := 4) (ret := (some .int)) (by decide +kernel) rfl ?_
  intro p e s m args below meth c s₁ B hml hv
  obtain ⟨rfl, hsz, hP, hK, hD0, hN⟩ := hv
  have hx := B.exec
  have hb := B.bytes
  have hr := B.returns
  have hts := atoms_spec (ws := wsX12_count) B.pre
  have hown : s.vm.findClass RX12 = some m.cls := findClass_of_methodNamed B.named
  have hlocks := B.notSynchronized
  subst hsz
  have hD := hD0.self (sz := s.heap.size)
  generalize hAe : va_A [(cc_O m0 12 [.int thr, m_1, .ref r0, .ref w0, m_4, m_5, m_6, m_7, .int nu, m_9, m_10, m_11, m_12, .int ta, m_14, m_15, m_16, m_17, m_18, m_19, m_20, m_21, m_22, m_23, m_24, m_25, m_26, m_27, m_28, m_29, m_30, m_31, m_32, m_33, m_34, m_35, m_36, m_37, m_38, m_39, m_40, m_41, m_42, m_43, m_44, m_45, m_46, m_47, m_48, m_49, m_50, m_51, m_52, m_53, m_54, m_55, m_56, m_57, m_58, m_59]), (cc_l w0 (K 0) 5500 fw), (cc_l r0 (K 0) 7 frf)] s.heap.size = A at hD ⊢
  have hA : ∀ q : Nat, s.heap.size ≤ q → A q := fun q h => by rw [← hAe]; exact Or.inr h
  clear hAe
  have hS : va_S A s.heap s.heap [] := va_S.rf
  replace hP : va_P D vwCl [(cc_O m0 12 [.int thr, m_1, .ref r0, .ref w0, m_4, m_5, m_6, m_7, .int nu, m_9, m_10, m_11, m_12, .int ta, m_14, m_15, m_16, m_17, m_18, m_19, m_20, m_21, m_22, m_23, m_24, m_25, m_26, m_27, m_28, m_29, m_30, m_31, m_32, m_33, m_34, m_35, m_36, m_37, m_38, m_39, m_40, m_41, m_42, m_43, m_44, m_45, m_46, m_47, m_48, m_49, m_50, m_51, m_52, m_53, m_54, m_55, m_56, m_57, m_58, m_59]), (cc_l w0 (K 0) 5500 fw), (cc_l r0 (K 0) 7 frf)] s.heap := hP
  have hl := lv_entry [.ref m0, .int x] (n := 4) (Nat.le_of_ble_eq_true rfl)
  rw [lg_entry_eq]
  generalize (lg_sl [.ref m0, .int x] ++ List.replicate (4 - (lg_sl [.ref m0, .int x]).length) Slot.unset).toArray = ls at hl ⊢
  have hl : lv_has ls 4 [(0, .ref m0), (1, .int x)] := hl
  have hw12 : ∀ w ∈ wsX120, w ∈ wsX12_count := fun w h => (List.mem_cons_of_mem _ (List.mem_append_right _ h))
  generalize hQ : MQ below _ _ s _ _ _ = Q
  have hE := E_v_count.eq_def x thr nu ta fw frf
  refine lv_aload_n hx hb dX12_count_0 rfl (lv_at hl 0 rfl) (lv_iconst (v := 0) hx hb dX12_count_1 (by decide +kernel) (va_put (ci := 12) (v := .int 0) (ty := .int) (C := RX12) (T := TX12) (N := 60) hx hb hts hw12 tyX12 tyX12_ok nmX12 hown hK hP hD hS 0 rfl rfl 0 (by decide +kernel) (hts _ mm_X12_count_830) (fun _ h9 => h9) rfl (by decide +kernel) (by first | rfl | decide) (by first | rfl | decide) (Nat.le_of_ble_eq_true rfl) dX12_count_2 (fun H locs hP0 hD0 hS0 => ?_)))
  replace hP : va_P D vwCl [(cc_O m0 12 [.int 0, m_1, .ref r0, .ref w0, m_4, m_5, m_6, m_7, .int nu, m_9, m_10, m_11, m_12, .int ta, m_14, m_15, m_16, m_17, m_18, m_19, m_20, m_21, m_22, m_23, m_24, m_25, m_26, m_27, m_28, m_29, m_30, m_31, m_32, m_33, m_34, m_35, m_36, m_37, m_38, m_39, m_40, m_41, m_42, m_43, m_44, m_45, m_46, m_47, m_48, m_49, m_50, m_51, m_52, m_53, m_54, m_55, m_56, m_57, m_58, m_59]), (cc_l w0 (K 0) 5500 fw), (cc_l r0 (K 0) 7 frf)] H := hP0
  replace hD := as_D hP hD0 rfl
  replace hS := hS0
  clear hP0 hD0 hS0
  refine lv_iconst (v := 0) hx hb dX12_count_5 (by decide +kernel) (lv_istore_n (lv' := [(2, .int 0), (0, .ref m0), (1, .int x)]) hx hb dX12_count_6 rfl hl (by decide +kernel) rfl (fun ls hl => ?_))
  refine lv_iconst (v := 0) hx hb dX12_count_7 (by decide +kernel) (lv_istore_n (lv' := [(3, .int 0), (2, .int 0), (0, .ref m0), (1, .int x)]) hx hb dX12_count_8 rfl hl (by decide +kernel) rfl (fun ls hl => ?_))
  have lp_369 : ∀ (nn_ : Nat) (v_345 : Int32) (v_346 : Int32) (hv_345 : 0 ≤ v_345.toInt ∧ v_345.toInt ≤ 8) (hn : (9 - v_345.toInt : Int).toNat < nn_) (hE : E_v_count x thr nu ta fw frf = Lp (α := Int32 → Int32 → (Int32)) (E_v_count_l9 x nu ta fw frf) (fun _ _ => ((0) : Int32)) nn_ v_345 v_346) (H : Heap) (locs : List Loc) (hP : va_P D vwCl [(cc_O m0 12 [.int 0, m_1, .ref r0, .ref w0, m_4, m_5, m_6, m_7, .int nu, m_9, m_10, m_11, m_12, .int ta, m_14, m_15, m_16, m_17, m_18, m_19, m_20, m_21, m_22, m_23, m_24, m_25, m_26, m_27, m_28, m_29, m_30, m_31, m_32, m_33, m_34, m_35, m_36, m_37, m_38, m_39, m_40, m_41, m_42, m_43, m_44, m_45, m_46, m_47, m_48, m_49, m_50, m_51, m_52, m_53, m_54, m_55, m_56, m_57, m_58, m_59]), (cc_l w0 (K 0) 5500 fw), (cc_l r0 (K 0) 7 frf)] H) (hD : va_D A [(cc_O m0 12 [.int 0, m_1, .ref r0, .ref w0, m_4, m_5, m_6, m_7, .int nu, m_9, m_10, m_11, m_12, .int ta, m_14, m_15, m_16, m_17, m_18, m_19, m_20, m_21, m_22, m_23, m_24, m_25, m_26, m_27, m_28, m_29, m_30, m_31, m_32, m_33, m_34, m_35, m_36, m_37, m_38, m_39, m_40, m_41, m_42, m_43, m_44, m_45, m_46, m_47, m_48, m_49, m_50, m_51, m_52, m_53, m_54, m_55, m_56, m_57, m_58, m_59]), (cc_l w0 (K 0) 5500 fw), (cc_l r0 (K 0) 7 frf)]) (hS : va_S A s.heap H locs) (ls : Array Slot) (hl : lv_has ls 4 [(3, .int v_345), (2, .int v_346), (0, .ref m0), (1, .int x)]), W p l e ({ frames := 2, cells := 0, slots := 0, locals := 46 }) s m (([.ref m0, .int x] : List Value).toArray) below meth c H locs 0 0 Q (F0 m 9 ls []) := by
    clear hE hP hD hS hl
    intro nn_
    induction nn_ with
    | zero =>
      intro v_345 v_346 hv_345 hn hE H locs hP hD hS ls hl
      exact absurd hn (Nat.not_lt_zero _)
    | succ nn_ ih_370 =>
      intro v_345 v_346 hv_345 hn hE H locs hP hD hS ls hl
      replace hE : E_v_count x thr nu ta fw frf = E_v_count_l9 x nu ta fw frf (Lp (α := Int32 → Int32 → (Int32)) (E_v_count_l9 x nu ta fw frf) (fun _ _ => ((0) : Int32)) nn_) v_345 v_346 := hE
      obtain ⟨rec_369, hrec_369⟩ : ∃ z9, z9 = Lp (α := Int32 → Int32 → (Int32)) (E_v_count_l9 x nu ta fw frf) (fun _ _ => ((0) : Int32)) nn_ := ⟨_, rfl⟩
      rw [← hrec_369] at hE
      replace hE := hE.trans (E_v_count_l9.eq_def _ _ _ _ _ _ _ _)
      refine lv_iload_n hx hb dX12_count_9 rfl (lv_at hl 0 rfl) (lv_aload_n hx hb dX12_count_10 rfl (lv_at hl 2 rfl) (va_get (ci := 12) (v := .ref w0) (C := RX12) (T := TX12) (N := 60) hx hb hts hw12 hown hK hP 0 rfl rfl 3 (by decide +kernel) (hts _ mm_X12_count_833) (fun _ h9 => h9) rfl dX12_count_11 (lv_iconst (v := 0) hx hb dX12_count_14 (by decide +kernel) (va_iald hx hb hK hP 1 0 rfl rfl (i_in (x := 0) rfl (by omega)) dX12_count_15 (lv_topi (fun x_371 ex_371 => ?_))))))
      replace hE := hE.trans (Lt_in ex_371)
      have px_371 := RwOK.at zfw (show (0 : Int32).toInt = 0 from rfl) (show 0 ≤ 0 ∧ 0 < 100 by omega)
      rw [← ex_371] at px_371
      have hx_371 := PR.r_0 px_371 (by omega)
      refine lv_icmp_ge (tgt := 41) hx hb dX12_count_16 (by decide +kernel) (fun c_372 => ?_) (fun c_372 => ?_)
      · have c_372i := i_le (x := x_371.toInt) (y := v_345.toInt) rfl rfl c_372
        replace hE := hE.trans (if_pos c_372)
        refine lv_iload_n hx hb dX12_count_41 rfl (lv_at hl 3 rfl) ?_
        have w_373 : x.toInt = 0 ∨ x.toInt = 1 ∨ x.toInt = 2 ∨ x.toInt = 3 ∨ x.toInt = 4 ∨ x.toInt = 5 ∨ x.toInt = 6 ∨ x.toInt = 7 ∨ x.toInt = 8 ∨ x.toInt = 9 ∨ x.toInt = 10 ∨ x.toInt = 11 ∨ x.toInt = 12 ∨ (x.toInt < 0 ∨ 12 < x.toInt) := by omega
        rcases w_373 with w_373 | w_373 | w_373 | w_373 | w_373 | w_373 | w_373 | w_373 | w_373 | w_373 | w_373 | w_373 | w_373 | w_373
        · replace hE := (hE).trans (if_pos (by first | omega | (rw [rfl]; omega)))
          refine lv_tableIn (tgt := 108) hx hb dX12_count_42 (by omega) (by omega) (by rw [w_373]; rfl) (by decide +kernel) (lv_aload_n hx hb dX12_count_108 rfl (lv_at hl 2 rfl) (va_get (ci := 12) (v := .ref w0) (C := RX12) (T := TX12) (N := 60) hx hb hts hw12 hown hK hP 0 rfl rfl 3 (by decide +kernel) (hts _ mm_X12_count_833) (fun _ h9 => h9) rfl dX12_count_109 (lv_iconst (v := 0) hx hb dX12_count_112 (by decide +kernel) (va_iald hx hb hK hP 1 0 rfl rfl (i_in (x := 0) rfl (by omega)) dX12_count_113 (lv_topi (fun x_374 ex_374 => ?_))))))
          replace hE := hE.trans (Lt_in ex_374)
          have px_374 := RwOK.at zfw (show (0 : Int32).toInt = 0 from rfl) (show 0 ≤ 0 ∧ 0 < 100 by omega)
          rw [← ex_374] at px_374
          have hx_374 := PR.r_0 px_374 (by omega)
          rw [← hQ]
          have hP9 := hP.sub (ws' := [(cc_O m0 12 [.int 0, m_1, .ref r0, .ref w0, m_4, m_5, m_6, m_7, .int nu, m_9, m_10, m_11, m_12, .int ta, m_14, m_15, m_16, m_17, m_18, m_19, m_20, m_21, m_22, m_23, m_24, m_25, m_26, m_27, m_28, m_29, m_30, m_31, m_32, m_33, m_34, m_35, m_36, m_37, m_38, m_39, m_40, m_41, m_42, m_43, m_44, m_45, m_46, m_47, m_48, m_49, m_50, m_51, m_52, m_53, m_54, m_55, m_56, m_57, m_58, m_59]), (cc_l w0 (K 0) 5500 fw), (cc_l r0 (K 0) 7 frf)]) [0, 1, 2] rfl
          have hD9 := sub_D hP9 hD [0, 1, 2] (by decide +kernel) rfl
          exact W.iret (v := x_374) hx hb hr (fun t ht hW => ⟨⟨x_374, ((fun _ => 0, fun _ => fun _ => 0, fun _ => fun _ => 0, fun _ => 0, fun _ => 0, fun _ => fun _ => none) : Su), rfl, ⟨hE.symm, trivial⟩, (⟨by rw [ht]; exact hP9, hD9⟩ : Wd D A _ t)⟩, hS.F ht⟩) hS.2.2 dX12_count_114
        · replace hE := ((hE).trans (if_neg (by first | omega | (rw [rfl]; omega)))).trans (if_pos (by first | omega | (rw [rfl]; omega)))
          refine lv_tableIn (tgt := 115) hx hb dX12_count_42 (by omega) (by omega) (by rw [w_373]; rfl) (by decide +kernel) (lv_iload_n hx hb dX12_count_115 rfl (lv_at hl 1 rfl) ?_)
          rw [← hQ]
          have hP9 := hP.sub (ws' := [(cc_O m0 12 [.int 0, m_1, .ref r0, .ref w0, m_4, m_5, m_6, m_7, .int nu, m_9, m_10, m_11, m_12, .int ta, m_14, m_15, m_16, m_17, m_18, m_19, m_20, m_21, m_22, m_23, m_24, m_25, m_26, m_27, m_28, m_29, m_30, m_31, m_32, m_33, m_34, m_35, m_36, m_37, m_38, m_39, m_40, m_41, m_42, m_43, m_44, m_45, m_46, m_47, m_48, m_49, m_50, m_51, m_52, m_53, m_54, m_55, m_56, m_57, m_58, m_59]), (cc_l w0 (K 0) 5500 fw), (cc_l r0 (K 0) 7 frf)]) [0, 1, 2] rfl
          have hD9 := sub_D hP9 hD [0, 1, 2] (by decide +kernel) rfl
          exact W.iret (v := v_346) hx hb hr (fun t ht hW => ⟨⟨v_346, ((fun _ => 0, fun _ => fun _ => 0, fun _ => fun _ => 0, fun _ => 0, fun _ => 0, fun _ => fun _ => none) : Su), rfl, ⟨hE.symm, trivial⟩, (⟨by rw [ht]; exact hP9, hD9⟩ : Wd D A _ t)⟩, hS.F ht⟩) hS.2.2 dX12_count_116
        · replace hE := (((hE).trans (if_neg (by first | omega | (rw [rfl]; omega)))).trans (if_neg (by first | omega | (rw [rfl]; omega)))).trans (if_pos (by first | omega | (rw [rfl]; omega)))
          refine lv_tableIn (tgt := 117) hx hb dX12_count_42 (by omega) (by omega) (by rw [w_373]; rfl) (by decide +kernel) (lv_aload_n hx hb dX12_count_117 rfl (lv_at hl 2 rfl) (va_get (ci := 12) (v := .ref w0) (C := RX12) (T := TX12) (N := 60) hx hb hts hw12 hown hK hP 0 rfl rfl 3 (by decide +kernel) (hts _ mm_X12_count_833) (fun _ h9 => h9) rfl dX12_count_118 (lv_iconst (v := 1) hx hb dX12_count_121 (by decide +kernel) (va_iald hx hb hK hP 1 0 rfl rfl (i_in (x := 1) rfl (by omega)) dX12_count_122 (lv_topi (fun x_375 ex_375 => ?_))))))
          replace hE := hE.trans (Lt_in ex_375)
          have px_375 := RwOK.at zfw (show (1 : Int32).toInt = 1 from rfl) (show 0 ≤ 1 ∧ 1 < 100 by omega)
          rw [← ex_375] at px_375
          have hx_375 := PR.r_1 px_375 (by omega)
          rw [← hQ]
          have hP9 := hP.sub (ws' := [(cc_O m0 12 [.int 0, m_1, .ref r0, .ref w0, m_4, m_5, m_6, m_7, .int nu, m_9, m_10, m_11, m_12, .int ta, m_14, m_15, m_16, m_17, m_18, m_19, m_20, m_21, m_22, m_23, m_24, m_25, m_26, m_27, m_28, m_29, m_30, m_31, m_32, m_33, m_34, m_35, m_36, m_37, m_38, m_39, m_40, m_41, m_42, m_43, m_44, m_45, m_46, m_47, m_48, m_49, m_50, m_51, m_52, m_53, m_54, m_55, m_56, m_57, m_58, m_59]), (cc_l w0 (K 0) 5500 fw), (cc_l r0 (K 0) 7 frf)]) [0, 1, 2] rfl
          have hD9 := sub_D hP9 hD [0, 1, 2] (by decide +kernel) rfl
          exact W.iret (v := x_375) hx hb hr (fun t ht hW => ⟨⟨x_375, ((fun _ => 0, fun _ => fun _ => 0, fun _ => fun _ => 0, fun _ => 0, fun _ => 0, fun _ => fun _ => none) : Su), rfl, ⟨hE.symm, trivial⟩, (⟨by rw [ht]; exact hP9, hD9⟩ : Wd D A _ t)⟩, hS.F ht⟩) hS.2.2 dX12_count_123
        · replace hE := ((((hE).trans (if_neg (by first | omega | (rw [rfl]; omega)))).trans (if_neg (by first | omega | (rw [rfl]; omega)))).trans (if_neg (by first | omega | (rw [rfl]; omega)))).trans (if_pos (by first | omega | (rw [rfl]; omega)))
          refine lv_tableIn (tgt := 124) hx hb dX12_count_42 (by omega) (by omega) (by rw [w_373]; rfl) (by decide +kernel) (lv_aload_n hx hb dX12_count_124 rfl (lv_at hl 2 rfl) (va_get (ci := 12) (v := .ref w0) (C := RX12) (T := TX12) (N := 60) hx hb hts hw12 hown hK hP 0 rfl rfl 3 (by decide +kernel) (hts _ mm_X12_count_833) (fun _ h9 => h9) rfl dX12_count_125 (lv_iconst (v := 2) hx hb dX12_count_128 (by decide +kernel) (va_iald hx hb hK hP 1 0 rfl rfl (i_in (x := 2) rfl (by omega)) dX12_count_129 (lv_topi (fun x_376 ex_376 => ?_))))))
          replace hE := hE.trans (Lt_in ex_376)
          have px_376 := RwOK.at zfw (show (2 : Int32).toInt = 2 from rfl) (show 0 ≤ 2 ∧ 2 < 100 by omega)
          rw [← ex_376] at px_376
          have hx_376 := PR.r_2 px_376 (by omega)
          rw [← hQ]
          have hP9 := hP.sub (ws' := [(cc_O m0 12 [.int 0, m_1, .ref r0, .ref w0, m_4, m_5, m_6, m_7, .int nu, m_9, m_10, m_11, m_12, .int ta, m_14, m_15, m_16, m_17, m_18, m_19, m_20, m_21, m_22, m_23, m_24, m_25, m_26, m_27, m_28, m_29, m_30, m_31, m_32, m_33, m_34, m_35, m_36, m_37, m_38, m_39, m_40, m_41, m_42, m_43, m_44, m_45, m_46, m_47, m_48, m_49, m_50, m_51, m_52, m_53, m_54, m_55, m_56, m_57, m_58, m_59]), (cc_l w0 (K 0) 5500 fw), (cc_l r0 (K 0) 7 frf)]) [0, 1, 2] rfl
          have hD9 := sub_D hP9 hD [0, 1, 2] (by decide +kernel) rfl
          exact W.iret (v := x_376) hx hb hr (fun t ht hW => ⟨⟨x_376, ((fun _ => 0, fun _ => fun _ => 0, fun _ => fun _ => 0, fun _ => 0, fun _ => 0, fun _ => fun _ => none) : Su), rfl, ⟨hE.symm, trivial⟩, (⟨by rw [ht]; exact hP9, hD9⟩ : Wd D A _ t)⟩, hS.F ht⟩) hS.2.2 dX12_count_130
        · replace hE := (((((hE).trans (if_neg (by first | omega | (rw [rfl]; omega)))).trans (if_neg (by first | omega | (rw [rfl]; omega)))).trans (if_neg (by first | omega | (rw [rfl]; omega)))).trans (if_neg (by first | omega | (rw [rfl]; omega)))).trans (if_pos (by first | omega | (rw [rfl]; omega)))
          refine lv_tableIn (tgt := 131) hx hb dX12_count_42 (by omega) (by omega) (by rw [w_373]; rfl) (by decide +kernel) (lv_aload_n hx hb dX12_count_131 rfl (lv_at hl 2 rfl) (va_get (ci := 12) (v := .int nu) (C := RX12) (T := TX12) (N := 60) hx hb hts hw12 hown hK hP 0 rfl rfl 8 (by decide +kernel) (hts _ mm_X12_count_838) (fun _ h9 => h9) rfl dX12_count_132 ?_))
          rw [← hQ]
          have hP9 := hP.sub (ws' := [(cc_O m0 12 [.int 0, m_1, .ref r0, .ref w0, m_4, m_5, m_6, m_7, .int nu, m_9, m_10, m_11, m_12, .int ta, m_14, m_15, m_16, m_17, m_18, m_19, m_20, m_21, m_22, m_23, m_24, m_25, m_26, m_27, m_28, m_29, m_30, m_31, m_32, m_33, m_34, m_35, m_36, m_37, m_38, m_39, m_40, m_41, m_42, m_43, m_44, m_45, m_46, m_47, m_48, m_49, m_50, m_51, m_52, m_53, m_54, m_55, m_56, m_57, m_58, m_59]), (cc_l w0 (K 0) 5500 fw), (cc_l r0 (K 0) 7 frf)]) [0, 1, 2] rfl
          have hD9 := sub_D hP9 hD [0, 1, 2] (by decide +kernel) rfl
          exact W.iret (v := nu) hx hb hr (fun t ht hW => ⟨⟨nu, ((fun _ => 0, fun _ => fun _ => 0, fun _ => fun _ => 0, fun _ => 0, fun _ => 0, fun _ => fun _ => none) : Su), rfl, ⟨hE.symm, trivial⟩, (⟨by rw [ht]; exact hP9, hD9⟩ : Wd D A _ t)⟩, hS.F ht⟩) hS.2.2 dX12_count_135
        · replace hE := ((((((hE).trans (if_neg (by first | omega | (rw [rfl]; omega)))).trans (if_neg (by first | omega | (rw [rfl]; omega)))).trans (if_neg (by first | omega | (rw [rfl]; omega)))).trans (if_neg (by first | omega | (rw [rfl]; omega)))).trans (if_neg (by first | omega | (rw [rfl]; omega)))).trans (if_pos (by first | omega | (rw [rfl]; omega)))
          refine lv_tableIn (tgt := 136) hx hb dX12_count_42 (by omega) (by omega) (by rw [w_373]; rfl) (by decide +kernel) (lv_aload_n hx hb dX12_count_136 rfl (lv_at hl 2 rfl) (va_get (ci := 12) (v := .int ta) (C := RX12) (T := TX12) (N := 60) hx hb hts hw12 hown hK hP 0 rfl rfl 13 (by decide +kernel) (hts _ mm_X12_count_843) (fun _ h9 => h9) rfl dX12_count_137 ?_))
          rw [← hQ]
          have hP9 := hP.sub (ws' := [(cc_O m0 12 [.int 0, m_1, .ref r0, .ref w0, m_4, m_5, m_6, m_7, .int nu, m_9, m_10, m_11, m_12, .int ta, m_14, m_15, m_16, m_17, m_18, m_19, m_20, m_21, m_22, m_23, m_24, m_25, m_26, m_27, m_28, m_29, m_30, m_31, m_32, m_33, m_34, m_35, m_36, m_37, m_38, m_39, m_40, m_41, m_42, m_43, m_44, m_45, m_46, m_47, m_48, m_49, m_50, m_51, m_52, m_53, m_54, m_55, m_56, m_57, m_58, m_59]), (cc_l w0 (K 0) 5500 fw), (cc_l r0 (K 0) 7 frf)]) [0, 1, 2] rfl
          have hD9 := sub_D hP9 hD [0, 1, 2] (by decide +kernel) rfl
          exact W.iret (v := ta) hx hb hr (fun t ht hW => ⟨⟨ta, ((fun _ => 0, fun _ => fun _ => 0, fun _ => fun _ => 0, fun _ => 0, fun _ => 0, fun _ => fun _ => none) : Su), rfl, ⟨hE.symm, trivial⟩, (⟨by rw [ht]; exact hP9, hD9⟩ : Wd D A _ t)⟩, hS.F ht⟩) hS.2.2 dX12_count_140
        · replace hE := (((((((hE).trans (if_neg (by first | omega | (rw [rfl]; omega)))).trans (if_neg (by first | omega | (rw [rfl]; omega)))).trans (if_neg (by first | omega | (rw [rfl]; omega)))).trans (if_neg (by first | omega | (rw [rfl]; omega)))).trans (if_neg (by first | omega | (rw [rfl]; omega)))).trans (if_neg (by first | omega | (rw [rfl]; omega)))).trans (if_pos (by first | omega | (rw [rfl]; omega)))
          refine lv_tableIn (tgt := 141) hx hb dX12_count_42 (by omega) (by omega) (by rw [w_373]; rfl) (by decide +kernel) (lv_aload_n hx hb dX12_count_141 rfl (lv_at hl 2 rfl) (va_get (ci := 12) (v := .ref r0) (C := RX12) (T := TX12) (N := 60) hx hb hts hw12 hown hK hP 0 rfl rfl 2 (by decide +kernel) (hts _ mm_X12_count_832) (fun _ h9 => h9) rfl dX12_count_142 (lv_iconst (v := 1) hx hb dX12_count_145 (by decide +kernel) (va_iald hx hb hK hP 2 0 rfl rfl (i_in (x := 1) rfl (by omega)) dX12_count_146 (lv_topi (fun x_377 ex_377 => ?_))))))
          replace hE := hE.trans (Lt_in ex_377)
          rw [← hQ]
          have hP9 := hP.sub (ws' := [(cc_O m0 12 [.int 0, m_1, .ref r0, .ref w0, m_4, m_5, m_6, m_7, .int nu, m_9, m_10, m_11, m_12, .int ta, m_14, m_15, m_16, m_17, m_18, m_19, m_20, m_21, m_22, m_23, m_24, m_25, m_26, m_27, m_28, m_29, m_30, m_31, m_32, m_33, m_34, m_35, m_36, m_37, m_38, m_39, m_40, m_41, m_42, m_43, m_44, m_45, m_46, m_47, m_48, m_49, m_50, m_51, m_52, m_53, m_54, m_55, m_56, m_57, m_58, m_59]), (cc_l w0 (K 0) 5500 fw), (cc_l r0 (K 0) 7 frf)]) [0, 1, 2] rfl
          have hD9 := sub_D hP9 hD [0, 1, 2] (by decide +kernel) rfl
          exact W.iret (v := x_377) hx hb hr (fun t ht hW => ⟨⟨x_377, ((fun _ => 0, fun _ => fun _ => 0, fun _ => fun _ => 0, fun _ => 0, fun _ => 0, fun _ => fun _ => none) : Su), rfl, ⟨hE.symm, trivial⟩, (⟨by rw [ht]; exact hP9, hD9⟩ : Wd D A _ t)⟩, hS.F ht⟩) hS.2.2 dX12_count_147
        · replace hE := ((((((((hE).trans (if_neg (by first | omega | (rw [rfl]; omega)))).trans (if_neg (by first | omega | (rw [rfl]; omega)))).trans (if_neg (by first | omega | (rw [rfl]; omega)))).trans (if_neg (by first | omega | (rw [rfl]; omega)))).trans (if_neg (by first | omega | (rw [rfl]; omega)))).trans (if_neg (by first | omega | (rw [rfl]; omega)))).trans (if_neg (by first | omega | (rw [rfl]; omega)))).trans (if_pos (by first | omega | (rw [rfl]; omega)))
          refine lv_tableIn (tgt := 148) hx hb dX12_count_42 (by omega) (by omega) (by rw [w_373]; rfl) (by decide +kernel) (lv_aload_n hx hb dX12_count_148 rfl (lv_at hl 2 rfl) (va_get (ci := 12) (v := .ref r0) (C := RX12) (T := TX12) (N := 60) hx hb hts hw12 hown hK hP 0 rfl rfl 2 (by decide +kernel) (hts _ mm_X12_count_832) (fun _ h9 => h9) rfl dX12_count_149 (lv_iconst (v := 2) hx hb dX12_count_152 (by decide +kernel) (va_iald hx hb hK hP 2 0 rfl rfl (i_in (x := 2) rfl (by omega)) dX12_count_153 (lv_topi (fun x_378 ex_378 => ?_))))))
          replace hE := hE.trans (Lt_in ex_378)
          rw [← hQ]
          have hP9 := hP.sub (ws' := [(cc_O m0 12 [.int 0, m_1, .ref r0, .ref w0, m_4, m_5, m_6, m_7, .int nu, m_9, m_10, m_11, m_12, .int ta, m_14, m_15, m_16, m_17, m_18, m_19, m_20, m_21, m_22, m_23, m_24, m_25, m_26, m_27, m_28, m_29, m_30, m_31, m_32, m_33, m_34, m_35, m_36, m_37, m_38, m_39, m_40, m_41, m_42, m_43, m_44, m_45, m_46, m_47, m_48, m_49, m_50, m_51, m_52, m_53, m_54, m_55, m_56, m_57, m_58, m_59]), (cc_l w0 (K 0) 5500 fw), (cc_l r0 (K 0) 7 frf)]) [0, 1, 2] rfl
          have hD9 := sub_D hP9 hD [0, 1, 2] (by decide +kernel) rfl
          exact W.iret (v := x_378) hx hb hr (fun t ht hW => ⟨⟨x_378, ((fun _ => 0, fun _ => fun _ => 0, fun _ => fun _ => 0, fun _ => 0, fun _ => 0, fun _ => fun _ => none) : Su), rfl, ⟨hE.symm, trivial⟩, (⟨by rw [ht]; exact hP9, hD9⟩ : Wd D A _ t)⟩, hS.F ht⟩) hS.2.2 dX12_count_154
        · replace hE := (((((((((hE).trans (if_neg (by first | omega | (rw [rfl]; omega)))).trans (if_neg (by first | omega | (rw [rfl]; omega)))).trans (if_neg (by first | omega | (rw [rfl]; omega)))).trans (if_neg (by first | omega | (rw [rfl]; omega)))).trans (if_neg (by first | omega | (rw [rfl]; omega)))).trans (if_neg (by first | omega | (rw [rfl]; omega)))).trans (if_neg (by first | omega | (rw [rfl]; omega)))).trans (if_neg (by first | omega | (rw [rfl]; omega)))).trans (if_pos (by first | omega | (rw [rfl]; omega)))
          refine lv_tableIn (tgt := 155) hx hb dX12_count_42 (by omega) (by omega) (by rw [w_373]; rfl) (by decide +kernel) (lv_aload_n hx hb dX12_count_155 rfl (lv_at hl 2 rfl) (va_get (ci := 12) (v := .ref r0) (C := RX12) (T := TX12) (N := 60) hx hb hts hw12 hown hK hP 0 rfl rfl 2 (by decide +kernel) (hts _ mm_X12_count_832) (fun _ h9 => h9) rfl dX12_count_156 (lv_iconst (v := 3) hx hb dX12_count_159 (by decide +kernel) (va_iald hx hb hK hP 2 0 rfl rfl (i_in (x := 3) rfl (by omega)) dX12_count_160 (lv_topi (fun x_379 ex_379 => ?_))))))
          replace hE := hE.trans (Lt_in ex_379)
          rw [← hQ]
          have hP9 := hP.sub (ws' := [(cc_O m0 12 [.int 0, m_1, .ref r0, .ref w0, m_4, m_5, m_6, m_7, .int nu, m_9, m_10, m_11, m_12, .int ta, m_14, m_15, m_16, m_17, m_18, m_19, m_20, m_21, m_22, m_23, m_24, m_25, m_26, m_27, m_28, m_29, m_30, m_31, m_32, m_33, m_34, m_35, m_36, m_37, m_38, m_39, m_40, m_41, m_42, m_43, m_44, m_45, m_46, m_47, m_48, m_49, m_50, m_51, m_52, m_53, m_54, m_55, m_56, m_57, m_58, m_59]), (cc_l w0 (K 0) 5500 fw), (cc_l r0 (K 0) 7 frf)]) [0, 1, 2] rfl
          have hD9 := sub_D hP9 hD [0, 1, 2] (by decide +kernel) rfl
          exact W.iret (v := x_379) hx hb hr (fun t ht hW => ⟨⟨x_379, ((fun _ => 0, fun _ => fun _ => 0, fun _ => fun _ => 0, fun _ => 0, fun _ => 0, fun _ => fun _ => none) : Su), rfl, ⟨hE.symm, trivial⟩, (⟨by rw [ht]; exact hP9, hD9⟩ : Wd D A _ t)⟩, hS.F ht⟩) hS.2.2 dX12_count_161
        · replace hE := ((((((((((hE).trans (if_neg (by first | omega | (rw [rfl]; omega)))).trans (if_neg (by first | omega | (rw [rfl]; omega)))).trans (if_neg (by first | omega | (rw [rfl]; omega)))).trans (if_neg (by first | omega | (rw [rfl]; omega)))).trans (if_neg (by first | omega | (rw [rfl]; omega)))).trans (if_neg (by first | omega | (rw [rfl]; omega)))).trans (if_neg (by first | omega | (rw [rfl]; omega)))).trans (if_neg (by first | omega | (rw [rfl]; omega)))).trans (if_neg (by first | omega | (rw [rfl]; omega)))).trans (if_pos (by first | omega | (rw [rfl]; omega)))
          refine lv_tableIn (tgt := 162) hx hb dX12_count_42 (by omega) (by omega) (by rw [w_373]; rfl) (by decide +kernel) (lv_aload_n hx hb dX12_count_162 rfl (lv_at hl 2 rfl) (va_get (ci := 12) (v := .ref r0) (C := RX12) (T := TX12) (N := 60) hx hb hts hw12 hown hK hP 0 rfl rfl 2 (by decide +kernel) (hts _ mm_X12_count_832) (fun _ h9 => h9) rfl dX12_count_163 (lv_iconst (v := 5) hx hb dX12_count_166 (by decide +kernel) (va_iald hx hb hK hP 2 0 rfl rfl (i_in (x := 5) rfl (by omega)) dX12_count_167 (lv_topi (fun x_380 ex_380 => ?_))))))
          replace hE := hE.trans (Lt_in ex_380)
          rw [← hQ]
          have hP9 := hP.sub (ws' := [(cc_O m0 12 [.int 0, m_1, .ref r0, .ref w0, m_4, m_5, m_6, m_7, .int nu, m_9, m_10, m_11, m_12, .int ta, m_14, m_15, m_16, m_17, m_18, m_19, m_20, m_21, m_22, m_23, m_24, m_25, m_26, m_27, m_28, m_29, m_30, m_31, m_32, m_33, m_34, m_35, m_36, m_37, m_38, m_39, m_40, m_41, m_42, m_43, m_44, m_45, m_46, m_47, m_48, m_49, m_50, m_51, m_52, m_53, m_54, m_55, m_56, m_57, m_58, m_59]), (cc_l w0 (K 0) 5500 fw), (cc_l r0 (K 0) 7 frf)]) [0, 1, 2] rfl
          have hD9 := sub_D hP9 hD [0, 1, 2] (by decide +kernel) rfl
          exact W.iret (v := x_380) hx hb hr (fun t ht hW => ⟨⟨x_380, ((fun _ => 0, fun _ => fun _ => 0, fun _ => fun _ => 0, fun _ => 0, fun _ => 0, fun _ => fun _ => none) : Su), rfl, ⟨hE.symm, trivial⟩, (⟨by rw [ht]; exact hP9, hD9⟩ : Wd D A _ t)⟩, hS.F ht⟩) hS.2.2 dX12_count_168
        · replace hE := (((((((((((hE).trans (if_neg (by first | omega | (rw [rfl]; omega)))).trans (if_neg (by first | omega | (rw [rfl]; omega)))).trans (if_neg (by first | omega | (rw [rfl]; omega)))).trans (if_neg (by first | omega | (rw [rfl]; omega)))).trans (if_neg (by first | omega | (rw [rfl]; omega)))).trans (if_neg (by first | omega | (rw [rfl]; omega)))).trans (if_neg (by first | omega | (rw [rfl]; omega)))).trans (if_neg (by first | omega | (rw [rfl]; omega)))).trans (if_neg (by first | omega | (rw [rfl]; omega)))).trans (if_neg (by first | omega | (rw [rfl]; omega)))).trans (if_pos (by first | omega | (rw [rfl]; omega)))
          refine lv_tableIn (tgt := 169) hx hb dX12_count_42 (by omega) (by omega) (by rw [w_373]; rfl) (by decide +kernel) (lv_aload_n hx hb dX12_count_169 rfl (lv_at hl 2 rfl) (va_get (ci := 12) (v := .ref r0) (C := RX12) (T := TX12) (N := 60) hx hb hts hw12 hown hK hP 0 rfl rfl 2 (by decide +kernel) (hts _ mm_X12_count_832) (fun _ h9 => h9) rfl dX12_count_170 (lv_bipush (v := 6) hx hb dX12_count_173 (by decide +kernel) (va_iald hx hb hK hP 2 0 rfl rfl (i_in (x := 6) rfl (by omega)) dX12_count_175 (lv_topi (fun x_381 ex_381 => ?_))))))
          replace hE := hE.trans (Lt_in ex_381)
          rw [← hQ]
          have hP9 := hP.sub (ws' := [(cc_O m0 12 [.int 0, m_1, .ref r0, .ref w0, m_4, m_5, m_6, m_7, .int nu, m_9, m_10, m_11, m_12, .int ta, m_14, m_15, m_16, m_17, m_18, m_19, m_20, m_21, m_22, m_23, m_24, m_25, m_26, m_27, m_28, m_29, m_30, m_31, m_32, m_33, m_34, m_35, m_36, m_37, m_38, m_39, m_40, m_41, m_42, m_43, m_44, m_45, m_46, m_47, m_48, m_49, m_50, m_51, m_52, m_53, m_54, m_55, m_56, m_57, m_58, m_59]), (cc_l w0 (K 0) 5500 fw), (cc_l r0 (K 0) 7 frf)]) [0, 1, 2] rfl
          have hD9 := sub_D hP9 hD [0, 1, 2] (by decide +kernel) rfl
          exact W.iret (v := x_381) hx hb hr (fun t ht hW => ⟨⟨x_381, ((fun _ => 0, fun _ => fun _ => 0, fun _ => fun _ => 0, fun _ => 0, fun _ => 0, fun _ => fun _ => none) : Su), rfl, ⟨hE.symm, trivial⟩, (⟨by rw [ht]; exact hP9, hD9⟩ : Wd D A _ t)⟩, hS.F ht⟩) hS.2.2 dX12_count_176
        · replace hE := ((((((((((((hE).trans (if_neg (by first | omega | (rw [rfl]; omega)))).trans (if_neg (by first | omega | (rw [rfl]; omega)))).trans (if_neg (by first | omega | (rw [rfl]; omega)))).trans (if_neg (by first | omega | (rw [rfl]; omega)))).trans (if_neg (by first | omega | (rw [rfl]; omega)))).trans (if_neg (by first | omega | (rw [rfl]; omega)))).trans (if_neg (by first | omega | (rw [rfl]; omega)))).trans (if_neg (by first | omega | (rw [rfl]; omega)))).trans (if_neg (by first | omega | (rw [rfl]; omega)))).trans (if_neg (by first | omega | (rw [rfl]; omega)))).trans (if_neg (by first | omega | (rw [rfl]; omega)))).trans (if_pos (by first | omega | (rw [rfl]; omega)))
          refine lv_tableIn (tgt := 177) hx hb dX12_count_42 (by omega) (by omega) (by rw [w_373]; rfl) (by decide +kernel) (lv_aload_n hx hb dX12_count_177 rfl (lv_at hl 2 rfl) (va_get (ci := 12) (v := .ref w0) (C := RX12) (T := TX12) (N := 60) hx hb hts hw12 hown hK hP 0 rfl rfl 3 (by decide +kernel) (hts _ mm_X12_count_833) (fun _ h9 => h9) rfl dX12_count_178 (lv_iconst (v := 3) hx hb dX12_count_181 (by decide +kernel) (va_iald hx hb hK hP 1 0 rfl rfl (i_in (x := 3) rfl (by omega)) dX12_count_182 (lv_topi (fun x_382 ex_382 => ?_))))))
          replace hE := hE.trans (Lt_in ex_382)
          have px_382 := RwOK.at zfw (show (3 : Int32).toInt = 3 from rfl) (show 0 ≤ 3 ∧ 3 < 100 by omega)
          rw [← ex_382] at px_382
          have hx_382 := PR.r_3 px_382 (by omega)
          rw [← hQ]
          have hP9 := hP.sub (ws' := [(cc_O m0 12 [.int 0, m_1, .ref r0, .ref w0, m_4, m_5, m_6, m_7, .int nu, m_9, m_10, m_11, m_12, .int ta, m_14, m_15, m_16, m_17, m_18, m_19, m_20, m_21, m_22, m_23, m_24, m_25, m_26, m_27, m_28, m_29, m_30, m_31, m_32, m_33, m_34, m_35, m_36, m_37, m_38, m_39, m_40, m_41, m_42, m_43, m_44, m_45, m_46, m_47, m_48, m_49, m_50, m_51, m_52, m_53, m_54, m_55, m_56, m_57, m_58, m_59]), (cc_l w0 (K 0) 5500 fw), (cc_l r0 (K 0) 7 frf)]) [0, 1, 2] rfl
          have hD9 := sub_D hP9 hD [0, 1, 2] (by decide +kernel) rfl
          exact W.iret (v := x_382) hx hb hr (fun t ht hW => ⟨⟨x_382, ((fun _ => 0, fun _ => fun _ => 0, fun _ => fun _ => 0, fun _ => 0, fun _ => 0, fun _ => fun _ => none) : Su), rfl, ⟨hE.symm, trivial⟩, (⟨by rw [ht]; exact hP9, hD9⟩ : Wd D A _ t)⟩, hS.F ht⟩) hS.2.2 dX12_count_183
        · replace hE := (((((((((((((hE).trans (if_neg (by first | omega | (rw [rfl]; omega)))).trans (if_neg (by first | omega | (rw [rfl]; omega)))).trans (if_neg (by first | omega | (rw [rfl]; omega)))).trans (if_neg (by first | omega | (rw [rfl]; omega)))).trans (if_neg (by first | omega | (rw [rfl]; omega)))).trans (if_neg (by first | omega | (rw [rfl]; omega)))).trans (if_neg (by first | omega | (rw [rfl]; omega)))).trans (if_neg (by first | omega | (rw [rfl]; omega)))).trans (if_neg (by first | omega | (rw [rfl]; omega)))).trans (if_neg (by first | omega | (rw [rfl]; omega)))).trans (if_neg (by first | omega | (rw [rfl]; omega)))).trans (if_neg (by first | omega | (rw [rfl]; omega)))).trans (if_pos (by first | omega | (rw [rfl]; omega)))
          refine lv_tableIn (tgt := 184) hx hb dX12_count_42 (by omega) (by omega) (by rw [w_373]; rfl) (by decide +kernel) (lv_aload_n hx hb dX12_count_184 rfl (lv_at hl 2 rfl) (va_get (ci := 12) (v := .ref w0) (C := RX12) (T := TX12) (N := 60) hx hb hts hw12 hown hK hP 0 rfl rfl 3 (by decide +kernel) (hts _ mm_X12_count_833) (fun _ h9 => h9) rfl dX12_count_185 (lv_bipush (v := 10) hx hb dX12_count_188 (by decide +kernel) (va_iald hx hb hK hP 1 0 rfl rfl (i_in (x := 10) rfl (by omega)) dX12_count_190 (lv_topi (fun x_383 ex_383 => ?_))))))
          replace hE := hE.trans (Lt_in ex_383)
          have px_383 := RwOK.at zfw (show (10 : Int32).toInt = 10 from rfl) (show 0 ≤ 10 ∧ 10 < 100 by omega)
          rw [← ex_383] at px_383
          rw [← hQ]
          have hP9 := hP.sub (ws' := [(cc_O m0 12 [.int 0, m_1, .ref r0, .ref w0, m_4, m_5, m_6, m_7, .int nu, m_9, m_10, m_11, m_12, .int ta, m_14, m_15, m_16, m_17, m_18, m_19, m_20, m_21, m_22, m_23, m_24, m_25, m_26, m_27, m_28, m_29, m_30, m_31, m_32, m_33, m_34, m_35, m_36, m_37, m_38, m_39, m_40, m_41, m_42, m_43, m_44, m_45, m_46, m_47, m_48, m_49, m_50, m_51, m_52, m_53, m_54, m_55, m_56, m_57, m_58, m_59]), (cc_l w0 (K 0) 5500 fw), (cc_l r0 (K 0) 7 frf)]) [0, 1, 2] rfl
          have hD9 := sub_D hP9 hD [0, 1, 2] (by decide +kernel) rfl
          exact W.iret (v := x_383) hx hb hr (fun t ht hW => ⟨⟨x_383, ((fun _ => 0, fun _ => fun _ => 0, fun _ => fun _ => 0, fun _ => 0, fun _ => 0, fun _ => fun _ => none) : Su), rfl, ⟨hE.symm, trivial⟩, (⟨by rw [ht]; exact hP9, hD9⟩ : Wd D A _ t)⟩, hS.F ht⟩) hS.2.2 dX12_count_191
        · replace hE := (((((((((((((hE).trans (if_neg (by first | omega | (rw [rfl]; omega)))).trans (if_neg (by first | omega | (rw [rfl]; omega)))).trans (if_neg (by first | omega | (rw [rfl]; omega)))).trans (if_neg (by first | omega | (rw [rfl]; omega)))).trans (if_neg (by first | omega | (rw [rfl]; omega)))).trans (if_neg (by first | omega | (rw [rfl]; omega)))).trans (if_neg (by first | omega | (rw [rfl]; omega)))).trans (if_neg (by first | omega | (rw [rfl]; omega)))).trans (if_neg (by first | omega | (rw [rfl]; omega)))).trans (if_neg (by first | omega | (rw [rfl]; omega)))).trans (if_neg (by first | omega | (rw [rfl]; omega)))).trans (if_neg (by first | omega | (rw [rfl]; omega)))).trans (if_neg (by first | omega | (rw [rfl]; omega)))
          refine lv_tableOut (tgt := 192) hx hb dX12_count_42 (by omega) (by decide +kernel) (lv_iload_n hx hb dX12_count_192 rfl (lv_at hl 3 rfl) (lv_i2l hx hb dX12_count_193 rfl (lv_topl (fun x_384 ex_384 => ?_))))
          replace hE := hE.trans (Lt_in ex_384)
          have hx_384 : x_384.toInt = x.toInt := by rw [ex_384]; exact i_wide rfl
          have hbx_384 := i_rng (a := x) rfl
          refine lv_ldc2 (v := 13) hx hb hown (hts _ mm_X12_count_1371) dX12_count_194 (lv_ldc2 (v := 18) hx hb hown (hts _ mm_X12_count_1372) dX12_count_197 (pci (va_runS (As := [.long x_384, .long 13, .long 18]) (rest := []) ⟨hx, hb, hml, hown, hts⟩ (v_in l D K x.toInt 13 18 x_384 13 18 H.size hx_384 (show (13 : Int64).toInt = 13 from rfl) (show (18 : Int64).toInt = 18 from rfl)) (va_cwS 3 hts gX12_count_X12_in rfl rfl rfl (by decide +kernel) ⟨Nat.le_of_ble_eq_true rfl, Nat.le_of_ble_eq_true rfl⟩) (mkS hK hN (va_P.nil) (va_D.nil (A := fun _ => True))) rfl rfl hl.1 rfl (lv_room (Nat.le_of_ble_eq_true rfl)) dX12_count_200 ⟨Nat.le_of_ble_eq_true rfl, Nat.le_of_ble_eq_true rfl⟩) (fun r_385 hw => ?_)))
          obtain ⟨hw, k_386, -⟩ := hw
          replace hE := hE.trans (Lt_in k_386)
          rcases hw with ⟨rfl, h_387, h_388⟩ | ⟨rfl, h_389⟩
          · replace hE := (hE).trans (if_pos rfl)
            refine lv_if_eq (tgt := 220) hx hb dX12_count_203 (by decide +kernel) (fun c_390 => absurd c_390 (by decide +kernel)) (fun c_390 => ?_)
            refine lv_aload_n hx hb dX12_count_206 rfl (lv_at hl 2 rfl) (va_get (ci := 12) (v := .ref w0) (C := RX12) (T := TX12) (N := 60) hx hb hts hw12 hown hK hP 0 rfl rfl 3 (by decide +kernel) (hts _ mm_X12_count_833) (fun _ h9 => h9) rfl dX12_count_207 (lv_iconst (v := 4) hx hb dX12_count_210 (by decide +kernel) (lv_iload_n hx hb dX12_count_211 rfl (lv_at hl 3 rfl) (lv_iadd hx hb dX12_count_212 (lv_topi (fun x_391 ex_391 => ?_))))))
            replace hE := hE.trans (Lt_in ex_391)
            have hx_391 : x_391.toInt = (4 + x.toInt) := by rw [ex_391]; exact i_add (show (4 : Int32).toInt = 4 from rfl) rfl (by omega)
            refine lv_bipush (v := 13) hx hb dX12_count_213 (by decide +kernel) (lv_isub hx hb dX12_count_215 (lv_topi (fun x_392 ex_392 => ?_)))
            replace hE := hE.trans (Lt_in ex_392)
            have hx_392 : x_392.toInt = ((4 + x.toInt) - 13) := by rw [ex_392]; exact i_sub hx_391 (show (13 : Int32).toInt = 13 from rfl) (by omega)
            refine va_iald hx hb hK hP 1 0 rfl rfl (i_in hx_392 (by omega)) dX12_count_216 (lv_topi (fun x_393 ex_393 => ?_))
            replace hE := hE.trans (Lt_in ex_393)
            have px_393 := RwOK.at zfw hx_392 (show 0 ≤ ((4 + x.toInt) - 13) ∧ ((4 + x.toInt) - 13) < 100 by omega)
            rw [← ex_393] at px_393
            refine lv_goto (tgt := 221) hx hb dX12_count_217 (by decide +kernel) ?_
            rw [← hQ]
            have hP9 := hP.sub (ws' := [(cc_O m0 12 [.int 0, m_1, .ref r0, .ref w0, m_4, m_5, m_6, m_7, .int nu, m_9, m_10, m_11, m_12, .int ta, m_14, m_15, m_16, m_17, m_18, m_19, m_20, m_21, m_22, m_23, m_24, m_25, m_26, m_27, m_28, m_29, m_30, m_31, m_32, m_33, m_34, m_35, m_36, m_37, m_38, m_39, m_40, m_41, m_42, m_43, m_44, m_45, m_46, m_47, m_48, m_49, m_50, m_51, m_52, m_53, m_54, m_55, m_56, m_57, m_58, m_59]), (cc_l w0 (K 0) 5500 fw), (cc_l r0 (K 0) 7 frf)]) [0, 1, 2] rfl
            have hD9 := sub_D hP9 hD [0, 1, 2] (by decide +kernel) rfl
            exact W.iret (v := x_393) hx hb hr (fun t ht hW => ⟨⟨x_393, ((fun _ => 0, fun _ => fun _ => 0, fun _ => fun _ => 0, fun _ => 0, fun _ => 0, fun _ => fun _ => none) : Su), rfl, ⟨hE.symm, trivial⟩, (⟨by rw [ht]; exact hP9, hD9⟩ : Wd D A _ t)⟩, hS.F ht⟩) hS.2.2 dX12_count_221
          · replace hE := (hE).trans (if_neg (by first | decide | (intro h9; have h8 := congrArg Int32.toInt h9; omega)))
            refine lv_if_eq (tgt := 220) hx hb dX12_count_203 (by decide +kernel) (fun c_394 => ?_) (fun c_394 => absurd (by decide +kernel) c_394)
            refine lv_iconst (v := (-1)) hx hb dX12_count_220 (by decide +kernel) ?_
            rw [← hQ]
            have hP9 := hP.sub (ws' := [(cc_O m0 12 [.int 0, m_1, .ref r0, .ref w0, m_4, m_5, m_6, m_7, .int nu, m_9, m_10, m_11, m_12, .int ta, m_14, m_15, m_16, m_17, m_18, m_19, m_20, m_21, m_22, m_23, m_24, m_25, m_26, m_27, m_28, m_29, m_30, m_31, m_32, m_33, m_34, m_35, m_36, m_37, m_38, m_39, m_40, m_41, m_42, m_43, m_44, m_45, m_46, m_47, m_48, m_49, m_50, m_51, m_52, m_53, m_54, m_55, m_56, m_57, m_58, m_59]), (cc_l w0 (K 0) 5500 fw), (cc_l r0 (K 0) 7 frf)]) [0, 1, 2] rfl
            have hD9 := sub_D hP9 hD [0, 1, 2] (by decide +kernel) rfl
            exact W.iret (v := (-1)) hx hb hr (fun t ht hW => ⟨⟨(-1), ((fun _ => 0, fun _ => fun _ => 0, fun _ => fun _ => 0, fun _ => 0, fun _ => 0, fun _ => fun _ => none) : Su), rfl, ⟨hE.symm, trivial⟩, (⟨by rw [ht]; exact hP9, hD9⟩ : Wd D A _ t)⟩, hS.F ht⟩) hS.2.2 dX12_count_221
      · have c_372i := i_nle (x := x_371.toInt) (y := v_345.toInt) rfl rfl c_372
        replace hE := hE.trans (if_neg c_372)
        refine lv_iload_n hx hb dX12_count_19 rfl (lv_at hl 1 rfl) (lv_aload_n hx hb dX12_count_20 rfl (lv_at hl 2 rfl) (lv_iload_n hx hb dX12_count_21 rfl (lv_at hl 0 rfl) (pci (va_runV (As := [.int v_345]) (rest := [.int v_346]) ⟨hx, hb, hml, hown, hts⟩ (v_isSounding l D K m0 v_345 (.int 0) m_1 (.ref r0) w0 m_4 m_5 m_6 m_7 (.int nu) m_9 m_10 m_11 m_12 (.int ta) m_14 m_15 m_16 m_17 m_18 m_19 m_20 m_21 m_22 m_23 m_24 m_25 m_26 m_27 m_28 m_29 m_30 m_31 m_32 m_33 m_34 m_35 m_36 m_37 m_38 m_39 m_40 m_41 m_42 m_43 m_44 m_45 m_46 m_47 m_48 m_49 m_50 m_51 m_52 m_53 m_54 m_55 m_56 m_57 m_58 m_59 fw H.size (by first | omega | decide) zfw) (cwV 1 hts gX12_count_X12_isSounding rfl rfl rfl (by decide +kernel) ⟨Nat.le_of_ble_eq_true rfl, Nat.le_of_ble_eq_true rfl⟩) (mkV hK hN (hP.sub [0, 1] rfl) (hD.sub [0, 1] (by decide +kernel) rfl) (ci := 12) (q0 := 0) rfl rfl) rfl rfl hl.1 rfl (lv_room (Nat.le_of_ble_eq_true rfl)) dX12_count_22 ⟨Nat.le_of_ble_eq_true rfl, Nat.le_of_ble_eq_true rfl⟩) (fun r_395 hw => ?_))))
        obtain ⟨h_397, k_396, -⟩ := hw
        replace hE := hE.trans (Lt_in k_396)
        refine lv_if_eq (tgt := 32) hx hb dX12_count_25 (by decide +kernel) (fun c_398 => ?_) (fun c_398 => ?_)
        · have c_398i := i_eq (x := r_395.toInt) (y := 0) rfl rfl c_398
          replace hE := hE.trans (if_pos c_398)
          refine lv_iconst (v := 0) hx hb dX12_count_32 (by decide +kernel) (lv_iadd hx hb dX12_count_33 (lv_topi (fun x_399 ex_399 => ?_)))
          replace hE := hE.trans (Lt_in ex_399)
          have hx_399 : x_399.toInt = (v_346.toInt + 0) := by rw [ex_399]; exact i_add rfl (show (0 : Int32).toInt = 0 from rfl) (by have q1 := i_rng (a := v_346) rfl; omega)
          refine lv_istore_n (lv' := [(2, .int x_399), (3, .int v_345), (0, .ref m0), (1, .int x)]) hx hb dX12_count_34 rfl hl (by decide +kernel) rfl (fun ls hl => ?_)
          obtain ⟨x_400, ex_400⟩ : ∃ y : Int32, y = v_345 + Int32.ofInt 1 := ⟨_, rfl⟩
          replace hE := hE.trans (Lt_in ex_400)
          have hx_400 : x_400.toInt = (v_345.toInt + 1) := by rw [ex_400]; exact i_add rfl (show (Int32.ofInt 1).toInt = 1 from rfl) (by omega)
          refine lv_iinc (v := x_400) (lv' := [(3, .int x_400), (2, .int x_399), (0, .ref m0), (1, .int x)]) hx hb dX12_count_35 hl (k := 1) rfl (by rw [ex_400]) (by decide +kernel) rfl (fun ls hl => ?_)
          refine lv_goto (tgt := 9) hx hb dX12_count_38 (by decide +kernel) ?_
          exact ih_370 x_400 x_399 (by rw [hx_400]; omega) (by omega) (hE.trans (by rw [hrec_369])) _ _ hP hD hS ls (lv_sub hl [0, 1, 2, 3] rfl)
        · have c_398i := i_ne (x := r_395.toInt) (y := 0) rfl rfl c_398
          replace hE := hE.trans (if_neg c_398)
          refine lv_iconst (v := 1) hx hb dX12_count_28 (by decide +kernel) (lv_goto (tgt := 33) hx hb dX12_count_29 (by decide +kernel) (lv_iadd hx hb dX12_count_33 (lv_topi (fun x_401 ex_401 => ?_))))
          replace hE := hE.trans (Lt_in ex_401)
          refine lv_istore_n (lv' := [(2, .int x_401), (3, .int v_345), (0, .ref m0), (1, .int x)]) hx hb dX12_count_34 rfl hl (by decide +kernel) rfl (fun ls hl => ?_)
          obtain ⟨x_402, ex_402⟩ : ∃ y : Int32, y = v_345 + Int32.ofInt 1 := ⟨_, rfl⟩
          replace hE := hE.trans (Lt_in ex_402)
          have hx_402 : x_402.toInt = (v_345.toInt + 1) := by rw [ex_402]; exact i_add rfl (show (Int32.ofInt 1).toInt = 1 from rfl) (by omega)
          refine lv_iinc (v := x_402) (lv' := [(3, .int x_402), (2, .int x_401), (0, .ref m0), (1, .int x)]) hx hb dX12_count_35 hl (k := 1) rfl (by rw [ex_402]) (by decide +kernel) rfl (fun ls hl => ?_)
          refine lv_goto (tgt := 9) hx hb dX12_count_38 (by decide +kernel) ?_
          exact ih_370 x_402 x_401 (by rw [hx_402]; omega) (by omega) (hE.trans (by rw [hrec_369])) _ _ hP hD hS ls (lv_sub hl [0, 1, 2, 3] rfl)
  exact lp_369 ((9 - (0 : Int32).toInt : Int).toNat + 1) 0 0 (by decide +kernel) (Nat.lt_succ_self _) hE _ _ hP hD hS ls (lv_sub hl [0, 1, 2, 3] rfl)
set_option maxRecDepth 100000 in
noncomputable def E_v_status (thr : Int32) (sta : Int32) : Int32 :=
  (sta : Int32)
set_option maxHeartbeats 4000000 in
set_option maxRecDepth 100000 in
theorem v_status (l : Launch) (D : va_G) (K : Nat → ClassId) (m0 : Nat) (thr : Int32) (sta : Int32) (m_2 : Value) (m_3 : Value) (m_4 : Value) (m_5 : Value) (m_6 : Value) (m_7 : Value) (m_8 : Value) (m_9 : Value) (m_10 : Value) (m_11 : Value) (m_12 : Value) (m_13 : Value) (m_14 : Value) (m_15 : Value) (m_16 : Value) (m_17 : Value) (m_18 : Value) (m_19 : Value) (m_20 : Value) (m_21 : Value) (m_22 : Value) (m_23 : Value) (m_24 : Value) (m_25 : Value) (m_26 : Value) (m_27 : Value) (m_28 : Value) (m_29 : Value) (m_30 : Value) (m_31 : Value) (m_32 : Value) (m_33 : Value) (m_34 : Value) (m_35 : Value) (m_36 : Value) (m_37 : Value) (m_38 : Value) (m_39 : Value) (m_40 : Value) (m_41 : Value) (m_42 : Value) (m_43 : Value) (m_44 : Value) (m_45 : Value) (m_46 : Value) (m_47 : Value) (m_48 : Value) (m_49 : Value) (m_50 : Value) (m_51 : Value) (m_52 : Value) (m_53 : Value) (m_54 : Value) (m_55 : Value) (m_56 : Value) (m_57 : Value) (m_58 : Value) (m_59 : Value) (sz : Nat) : Met l yX12_status wsX12_status ({ frames := 0, cells := 0, slots := 0, locals := 0 }) (va_Pc [.ref m0] (Pre D K [(cc_O m0 12 [.int thr, .int sta, m_2, m_3, m_4, m_5, m_6, m_7, m_8, m_9, m_10, m_11, m_12, m_13, m_14, m_15, m_16, m_17, m_18, m_19, m_20, m_21, m_22, m_23, m_24, m_25, m_26, m_27, m_28, m_29, m_30, m_31, m_32, m_33, m_34, m_35, m_36, m_37, m_38, m_39, m_40, m_41, m_42, m_43, m_44, m_45, m_46, m_47, m_48, m_49, m_50, m_51, m_52, m_53, m_54, m_55, m_56, m_57, m_58, m_59])] sz)) (va_Qi (S := Su) (fun (r : Int32) (u : Su) => (r = E_v_status thr sta) ∧ True) (fun u t => Wd D (va_A [(cc_O m0 12 [.int thr, .int sta, m_2, m_3, m_4, m_5, m_6, m_7, m_8, m_9, m_10, m_11, m_12, m_13, m_14, m_15, m_16, m_17, m_18, m_19, m_20, m_21, m_22, m_23, m_24, m_25, m_26, m_27, m_28, m_29, m_30, m_31, m_32, m_33, m_34, m_35, m_36, m_37, m_38, m_39, m_40, m_41, m_42, m_43, m_44, m_45, m_46, m_47, m_48, m_49, m_50, m_51, m_52, m_53, m_54, m_55, m_56, m_57, m_58, m_59])] sz) ((fun u => [(cc_O m0 12 [.int 0, .int sta, m_2, m_3, m_4, m_5, m_6, m_7, m_8, m_9, m_10, m_11, m_12, m_13, m_14, m_15, m_16, m_17, m_18, m_19, m_20, m_21, m_22, m_23, m_24, m_25, m_26, m_27, m_28, m_29, m_30, m_31, m_32, m_33, m_34, m_35, m_36, m_37, m_38, m_39, m_40, m_41, m_42, m_43, m_44, m_45, m_46, m_47, m_48, m_49, m_50, m_51, m_52, m_53, m_54, m_55, m_56, m_57, m_58, m_59])]) u) t) (va_A [(cc_O m0 12 [.int thr, .int sta, m_2, m_3, m_4, m_5, m_6, m_7, m_8, m_9, m_10, m_11, m_12, m_13, m_14, m_15, m_16, m_17, m_18, m_19, m_20, m_21, m_22, m_23, m_24, m_25, m_26, m_27, m_28, m_29, m_30, m_31, m_32, m_33, m_34, m_35, m_36, m_37, m_38, m_39, m_40, m_41, m_42, m_43, m_44, m_45, m_46, m_47, m_48, m_49, m_50, m_51, m_52, m_53, m_54, m_55, m_56, m_57, m_58, m_59])] sz)) 0 0 (va_A [(cc_O m0 12 [.int thr, .int sta, m_2, m_3, m_4, m_5, m_6, m_7, m_8, m_9, m_10, m_11, m_12, m_13, m_14, m_15, m_16, m_17, m_18, m_19, m_20, m_21, m_22, m_23, m_24, m_25, m_26, m_27, m_28, m_29, m_30, m_31, m_32, m_33, m_34, m_35, m_36, m_37, m_38, m_39, m_40, m_41, m_42, m_43, m_44, m_45, m_46, m_47, m_48, m_49, m_50, m_51, m_52, m_53, m_54, m_55, m_56, m_57, m_58, m_59])] sz) := by
  refine Met.ofW (cc := cX12_status) (maxL := 1) (ret := (some .int)) (by decide +kernel) rfl ?_
  intro p e s m args below meth c s₁ B hml hv
  obtain ⟨rfl, hsz, hP, hK, hD0, hN⟩ := hv
  have hx := B.exec
  have hb := B.bytes
  have hr := B.returns
  have hts := atoms_spec (ws := wsX12_status) B.pre
  have hown : s.vm.findClass RX12 = some m.cls := findClass_of_methodNamed B.named
  have hlocks := B.notSynchronized
  subst hsz
  have hD := hD0.self (sz := s.heap.size)
  generalize hAe : va_A [(cc_O m0 12 [.int thr, .int sta, m_2, m_3, m_4, m_5, m_6, m_7, m_8, m_9, m_10, m_11, m_12, m_13, m_14, m_15, m_16, m_17, m_18, m_19, m_20, m_21, m_22, m_23, m_24, m_25, m_26, m_27, m_28, m_29, m_30, m_31, m_32, m_33, m_34, m_35, m_36, m_37, m_38, m_39, m_40, m_41, m_42, m_43, m_44, m_45, m_46, m_47, m_48, m_49, m_50, m_51, m_52, m_53, m_54, m_55, m_56, m_57, m_58, m_59])] s.heap.size = A at hD ⊢
  have hA : ∀ q : Nat, s.heap.size ≤ q → A q := fun q h => by rw [← hAe]; exact Or.inr h
  clear hAe
  have hS : va_S A s.heap s.heap [] := va_S.rf
  replace hP : va_P D vwCl [(cc_O m0 12 [.int thr, .int sta, m_2, m_3, m_4, m_5, m_6, m_7, m_8, m_9, m_10, m_11, m_12, m_13, m_14, m_15, m_16, m_17, m_18, m_19, m_20, m_21, m_22, m_23, m_24, m_25, m_26, m_27, m_28, m_29, m_30, m_31, m_32, m_33, m_34, m_35, m_36, m_37, m_38, m_39, m_40, m_41, m_42, m_43, m_44, m_45, m_46, m_47, m_48, m_49, m_50, m_51, m_52, m_53, m_54, m_55, m_56, m_57, m_58, m_59])] s.heap := hP
  have hl := lv_entry [.ref m0] (n := 1) (Nat.le_of_ble_eq_true rfl)
  rw [lg_entry_eq]
  generalize (lg_sl [.ref m0] ++ List.replicate (1 - (lg_sl [.ref m0]).length) Slot.unset).toArray = ls at hl ⊢
  have hl : lv_has ls 1 [(0, .ref m0)] := hl
  have hw12 : ∀ w ∈ wsX120, w ∈ wsX12_status := fun w h => (List.mem_cons_of_mem _ (List.mem_append_right _ h))
  generalize hQ : MQ below _ _ s _ _ _ = Q
  have hE := E_v_status.eq_def thr sta
  refine lv_aload_n hx hb dX12_status_0 rfl (lv_at hl 0 rfl) (lv_iconst (v := 0) hx hb dX12_status_1 (by decide +kernel) (va_put (ci := 12) (v := .int 0) (ty := .int) (C := RX12) (T := TX12) (N := 60) hx hb hts hw12 tyX12 tyX12_ok nmX12 hown hK hP hD hS 0 rfl rfl 0 (by decide +kernel) (hts _ mm_X12_status_830) (fun _ h9 => h9) rfl (by decide +kernel) (by first | rfl | decide) (by first | rfl | decide) (Nat.le_of_ble_eq_true rfl) dX12_status_2 (fun H locs hP0 hD0 hS0 => ?_)))
  replace hP : va_P D vwCl [(cc_O m0 12 [.int 0, .int sta, m_2, m_3, m_4, m_5, m_6, m_7, m_8, m_9, m_10, m_11, m_12, m_13, m_14, m_15, m_16, m_17, m_18, m_19, m_20, m_21, m_22, m_23, m_24, m_25, m_26, m_27, m_28, m_29, m_30, m_31, m_32, m_33, m_34, m_35, m_36, m_37, m_38, m_39, m_40, m_41, m_42, m_43, m_44, m_45, m_46, m_47, m_48, m_49, m_50, m_51, m_52, m_53, m_54, m_55, m_56, m_57, m_58, m_59])] H := hP0
  replace hD := as_D hP hD0 rfl
  replace hS := hS0
  clear hP0 hD0 hS0
  refine lv_aload_n hx hb dX12_status_5 rfl (lv_at hl 0 rfl) (va_get (ci := 12) (v := .int sta) (C := RX12) (T := TX12) (N := 60) hx hb hts hw12 hown hK hP 0 rfl rfl 1 (by decide +kernel) (hts _ mm_X12_status_831) (fun _ h9 => h9) rfl dX12_status_6 ?_)
  rw [← hQ]
  have hP9 := hP.sub (ws' := [(cc_O m0 12 [.int 0, .int sta, m_2, m_3, m_4, m_5, m_6, m_7, m_8, m_9, m_10, m_11, m_12, m_13, m_14, m_15, m_16, m_17, m_18, m_19, m_20, m_21, m_22, m_23, m_24, m_25, m_26, m_27, m_28, m_29, m_30, m_31, m_32, m_33, m_34, m_35, m_36, m_37, m_38, m_39, m_40, m_41, m_42, m_43, m_44, m_45, m_46, m_47, m_48, m_49, m_50, m_51, m_52, m_53, m_54, m_55, m_56, m_57, m_58, m_59])]) [0] rfl
  have hD9 := sub_D hP9 hD [0] (by decide +kernel) rfl
  exact W.iret (v := sta) hx hb hr (fun t ht hW => ⟨⟨sta, ((fun _ => 0, fun _ => fun _ => 0, fun _ => fun _ => 0, fun _ => 0, fun _ => 0, fun _ => fun _ => none) : Su), rfl, ⟨hE.symm, trivial⟩, (⟨by rw [ht]; exact hP9, hD9⟩ : Wd D A _ t)⟩, hS.F ht⟩) hS.2.2 dX12_status_9
set_option maxRecDepth 100000 in
noncomputable def E_v_stopped (thr : Int32) (sto : Int32) : Int32 :=
  (sto : Int32)
set_option maxHeartbeats 4000000 in
set_option maxRecDepth 100000 in
theorem v_stopped (l : Launch) (D : va_G) (K : Nat → ClassId) (m0 : Nat) (thr : Int32) (m_1 : Value) (m_2 : Value) (m_3 : Value) (m_4 : Value) (m_5 : Value) (m_6 : Value) (m_7 : Value) (m_8 : Value) (m_9 : Value) (m_10 : Value) (m_11 : Value) (m_12 : Value) (m_13 : Value) (m_14 : Value) (m_15 : Value) (m_16 : Value) (m_17 : Value) (m_18 : Value) (m_19 : Value) (m_20 : Value) (m_21 : Value) (m_22 : Value) (m_23 : Value) (m_24 : Value) (m_25 : Value) (m_26 : Value) (m_27 : Value) (m_28 : Value) (m_29 : Value) (m_30 : Value) (m_31 : Value) (m_32 : Value) (m_33 : Value) (m_34 : Value) (m_35 : Value) (m_36 : Value) (m_37 : Value) (m_38 : Value) (m_39 : Value) (m_40 : Value) (m_41 : Value) (m_42 : Value) (m_43 : Value) (m_44 : Value) (m_45 : Value) (m_46 : Value) (m_47 : Value) (m_48 : Value) (m_49 : Value) (m_50 : Value) (m_51 : Value) (m_52 : Value) (m_53 : Value) (sto : Int32) (m_55 : Value) (m_56 : Value) (m_57 : Value) (m_58 : Value) (m_59 : Value) (sz : Nat) : Met l yX12_stopped wsX12_stopped ({ frames := 0, cells := 0, slots := 0, locals := 0 }) (va_Pc [.ref m0] (Pre D K [(cc_O m0 12 [.int thr, m_1, m_2, m_3, m_4, m_5, m_6, m_7, m_8, m_9, m_10, m_11, m_12, m_13, m_14, m_15, m_16, m_17, m_18, m_19, m_20, m_21, m_22, m_23, m_24, m_25, m_26, m_27, m_28, m_29, m_30, m_31, m_32, m_33, m_34, m_35, m_36, m_37, m_38, m_39, m_40, m_41, m_42, m_43, m_44, m_45, m_46, m_47, m_48, m_49, m_50, m_51, m_52, m_53, .int sto, m_55, m_56, m_57, m_58, m_59])] sz)) (va_Qi (S := Su) (fun (r : Int32) (u : Su) => (r = E_v_stopped thr sto) ∧ True) (fun u t => Wd D (va_A [(cc_O m0 12 [.int thr, m_1, m_2, m_3, m_4, m_5, m_6, m_7, m_8, m_9, m_10, m_11, m_12, m_13, m_14, m_15, m_16, m_17, m_18, m_19, m_20, m_21, m_22, m_23, m_24, m_25, m_26, m_27, m_28, m_29, m_30, m_31, m_32, m_33, m_34, m_35, m_36, m_37, m_38, m_39, m_40, m_41, m_42, m_43, m_44, m_45, m_46, m_47, m_48, m_49, m_50, m_51, m_52, m_53, .int sto, m_55, m_56, m_57, m_58, m_59])] sz) ((fun u => [(cc_O m0 12 [.int 0, m_1, m_2, m_3, m_4, m_5, m_6, m_7, m_8, m_9, m_10, m_11, m_12, m_13, m_14, m_15, m_16, m_17, m_18, m_19, m_20, m_21, m_22, m_23, m_24, m_25, m_26, m_27, m_28, m_29, m_30, m_31, m_32, m_33, m_34, m_35, m_36, m_37, m_38, m_39, m_40, m_41, m_42, m_43, m_44, m_45, m_46, m_47, m_48, m_49, m_50, m_51, m_52, m_53, .int sto, m_55, m_56, m_57, m_58, m_59])]) u) t) (va_A [(cc_O m0 12 [.int thr, m_1, m_2, m_3, m_4, m_5, m_6, m_7, m_8, m_9, m_10, m_11, m_12, m_13, m_14, m_15, m_16, m_17, m_18, m_19, m_20, m_21, m_22, m_23, m_24, m_25, m_26, m_27, m_28, m_29, m_30, m_31, m_32, m_33, m_34, m_35, m_36, m_37, m_38, m_39, m_40, m_41, m_42, m_43, m_44, m_45, m_46, m_47, m_48, m_49, m_50, m_51, m_52, m_53, .int sto, m_55, m_56, m_57, m_58, m_59])] sz)) 0 0 (va_A [(cc_O m0 12 [.int thr, m_1, m_2, m_3, m_4, m_5, m_6, m_7, m_8, m_9, m_10, m_11, m_12, m_13, m_14, m_15, m_16, m_17, m_18, m_19, m_20, m_21, m_22, m_23, m_24, m_25, m_26, m_27, m_28, m_29, m_30, m_31, m_32, m_33, m_34, m_35, m_36, m_37, m_38, m_39, m_40, m_41, m_42, m_43, m_44, m_45, m_46, m_47, m_48, m_49, m_50, m_51, m_52, m_53, .int sto, m_55, m_56, m_57, m_58, m_59])] sz) := by
  refine Met.ofW (cc := cX12_stopped) (maxL := 1) (ret := (some .int)) (by decide +kernel) rfl ?_
  intro p e s m args below meth c s₁ B hml hv
  obtain ⟨rfl, hsz, hP, hK, hD0, hN⟩ := hv
  have hx := B.exec
  have hb := B.bytes
  have hr := B.returns
  have hts := atoms_spec (ws := wsX12_stopped) B.pre
  have hown : s.vm.findClass RX12 = some m.cls := findClass_of_methodNamed B.named
  have hlocks := B.notSynchronized
  subst hsz
  have hD := hD0.self (sz := s.heap.size)
  generalize hAe : va_A [(cc_O m0 12 [.int thr, m_1, m_2, m_3, m_4, m_5, m_6, m_7, m_8, m_9, m_10, m_11, m_12, m_13, m_14, m_15, m_16, m_17, m_18, m_19, m_20, m_21, m_22, m_23, m_24, m_25, m_26, m_27, m_28, m_29, m_30, m_31, m_32, m_33, m_34, m_35, m_36, m_37, m_38, m_39, m_40, m_41, m_42, m_43, m_44, m_45, m_46, m_47, m_48, m_49, m_50, m_51, m_52, m_53, .int sto, m_55, m_56, m_57, m_58, m_59])] s.heap.size = A at hD ⊢
  have hA : ∀ q : Nat, s.heap.size ≤ q → A q := fun q h => by rw [← hAe]; exact Or.inr h
  clear hAe
  have hS : va_S A s.heap s.heap [] := va_S.rf
  replace hP : va_P D vwCl [(cc_O m0 12 [.int thr, m_1, m_2, m_3, m_4, m_5, m_6, m_7, m_8, m_9, m_10, m_11, m_12, m_13, m_14, m_15, m_16, m_17, m_18, m_19, m_20, m_21, m_22, m_23, m_24, m_25, m_26, m_27, m_28, m_29, m_30, m_31, m_32, m_33, m_34, m_35, m_36, m_37, m_38, m_39, m_40, m_41, m_42, m_43, m_44, m_45, m_46, m_47, m_48, m_49, m_50, m_51, m_52, m_53, .int sto, m_55, m_56, m_57, m_58, m_59])] s.heap := hP
  have hl := lv_entry [.ref m0] (n := 1) (Nat.le_of_ble_eq_true rfl)
  rw [lg_entry_eq]
  generalize (lg_sl [.ref m0] ++ List.replicate (1 - (lg_sl [.ref m0]).length) Slot.unset).toArray = ls at hl ⊢
  have hl : lv_has ls 1 [(0, .ref m0)] := hl
  have hw12 : ∀ w ∈ wsX120, w ∈ wsX12_stopped := fun w h => (List.mem_cons_of_mem _ (List.mem_append_right _ h))
  generalize hQ : MQ below _ _ s _ _ _ = Q
  have hE := E_v_stopped.eq_def thr sto
  refine lv_aload_n hx hb dX12_stopped_0 rfl (lv_at hl 0 rfl) (lv_iconst (v := 0) hx hb dX12_stopped_1 (by decide +kernel) (va_put (ci := 12) (v := .int 0) (ty := .int) (C := RX12) (T := TX12) (N := 60) hx hb hts hw12 tyX12 tyX12_ok nmX12 hown hK hP hD hS 0 rfl rfl 0 (by decide +kernel) (hts _ mm_X12_stopped_830) (fun _ h9 => h9) rfl (by decide +kernel) (by first | rfl | decide) (by first | rfl | decide) (Nat.le_of_ble_eq_true rfl) dX12_stopped_2 (fun H locs hP0 hD0 hS0 => ?_)))
  replace hP : va_P D vwCl [(cc_O m0 12 [.int 0, m_1, m_2, m_3, m_4, m_5, m_6, m_7, m_8, m_9, m_10, m_11, m_12, m_13, m_14, m_15, m_16, m_17, m_18, m_19, m_20, m_21, m_22, m_23, m_24, m_25, m_26, m_27, m_28, m_29, m_30, m_31, m_32, m_33, m_34, m_35, m_36, m_37, m_38, m_39, m_40, m_41, m_42, m_43, m_44, m_45, m_46, m_47, m_48, m_49, m_50, m_51, m_52, m_53, .int sto, m_55, m_56, m_57, m_58, m_59])] H := hP0
  replace hD := as_D hP hD0 rfl
  replace hS := hS0
  clear hP0 hD0 hS0
  refine lv_aload_n hx hb dX12_stopped_5 rfl (lv_at hl 0 rfl) (va_get (ci := 12) (v := .int sto) (C := RX12) (T := TX12) (N := 60) hx hb hts hw12 hown hK hP 0 rfl rfl 54 (by decide +kernel) (hts _ mm_X12_stopped_884) (fun _ h9 => h9) rfl dX12_stopped_6 ?_)
  rw [← hQ]
  have hP9 := hP.sub (ws' := [(cc_O m0 12 [.int 0, m_1, m_2, m_3, m_4, m_5, m_6, m_7, m_8, m_9, m_10, m_11, m_12, m_13, m_14, m_15, m_16, m_17, m_18, m_19, m_20, m_21, m_22, m_23, m_24, m_25, m_26, m_27, m_28, m_29, m_30, m_31, m_32, m_33, m_34, m_35, m_36, m_37, m_38, m_39, m_40, m_41, m_42, m_43, m_44, m_45, m_46, m_47, m_48, m_49, m_50, m_51, m_52, m_53, .int sto, m_55, m_56, m_57, m_58, m_59])]) [0] rfl
  have hD9 := sub_D hP9 hD [0] (by decide +kernel) rfl
  exact W.iret (v := sto) hx hb hr (fun t ht hW => ⟨⟨sto, ((fun _ => 0, fun _ => fun _ => 0, fun _ => fun _ => 0, fun _ => 0, fun _ => 0, fun _ => fun _ => none) : Su), rfl, ⟨hE.symm, trivial⟩, (⟨by rw [ht]; exact hP9, hD9⟩ : Wd D A _ t)⟩, hS.F ht⟩) hS.2.2 dX12_stopped_9
set_option maxRecDepth 100000 in
noncomputable def E_v_fault (thr : Int32) (fau : Int32) : Int32 :=
  (fau : Int32)
set_option maxHeartbeats 4000000 in
set_option maxRecDepth 100000 in
theorem v_fault (l : Launch) (D : va_G) (K : Nat → ClassId) (m0 : Nat) (thr : Int32) (m_1 : Value) (m_2 : Value) (m_3 : Value) (m_4 : Value) (m_5 : Value) (m_6 : Value) (m_7 : Value) (m_8 : Value) (m_9 : Value) (m_10 : Value) (m_11 : Value) (m_12 : Value) (m_13 : Value) (m_14 : Value) (m_15 : Value) (m_16 : Value) (m_17 : Value) (fau : Int32) (m_19 : Value) (m_20 : Value) (m_21 : Value) (m_22 : Value) (m_23 : Value) (m_24 : Value) (m_25 : Value) (m_26 : Value) (m_27 : Value) (m_28 : Value) (m_29 : Value) (m_30 : Value) (m_31 : Value) (m_32 : Value) (m_33 : Value) (m_34 : Value) (m_35 : Value) (m_36 : Value) (m_37 : Value) (m_38 : Value) (m_39 : Value) (m_40 : Value) (m_41 : Value) (m_42 : Value) (m_43 : Value) (m_44 : Value) (m_45 : Value) (m_46 : Value) (m_47 : Value) (m_48 : Value) (m_49 : Value) (m_50 : Value) (m_51 : Value) (m_52 : Value) (m_53 : Value) (m_54 : Value) (m_55 : Value) (m_56 : Value) (m_57 : Value) (m_58 : Value) (m_59 : Value) (sz : Nat) : Met l yX12_fault wsX12_fault ({ frames := 0, cells := 0, slots := 0, locals := 0 }) (va_Pc [.ref m0] (Pre D K [(cc_O m0 12 [.int thr, m_1, m_2, m_3, m_4, m_5, m_6, m_7, m_8, m_9, m_10, m_11, m_12, m_13, m_14, m_15, m_16, m_17, .int fau, m_19, m_20, m_21, m_22, m_23, m_24, m_25, m_26, m_27, m_28, m_29, m_30, m_31, m_32, m_33, m_34, m_35, m_36, m_37, m_38, m_39, m_40, m_41, m_42, m_43, m_44, m_45, m_46, m_47, m_48, m_49, m_50, m_51, m_52, m_53, m_54, m_55, m_56, m_57, m_58, m_59])] sz)) (va_Qi (S := Su) (fun (r : Int32) (u : Su) => (r = E_v_fault thr fau) ∧ True) (fun u t => Wd D (va_A [(cc_O m0 12 [.int thr, m_1, m_2, m_3, m_4, m_5, m_6, m_7, m_8, m_9, m_10, m_11, m_12, m_13, m_14, m_15, m_16, m_17, .int fau, m_19, m_20, m_21, m_22, m_23, m_24, m_25, m_26, m_27, m_28, m_29, m_30, m_31, m_32, m_33, m_34, m_35, m_36, m_37, m_38, m_39, m_40, m_41, m_42, m_43, m_44, m_45, m_46, m_47, m_48, m_49, m_50, m_51, m_52, m_53, m_54, m_55, m_56, m_57, m_58, m_59])] sz) ((fun u => [(cc_O m0 12 [.int 0, m_1, m_2, m_3, m_4, m_5, m_6, m_7, m_8, m_9, m_10, m_11, m_12, m_13, m_14, m_15, m_16, m_17, .int fau, m_19, m_20, m_21, m_22, m_23, m_24, m_25, m_26, m_27, m_28, m_29, m_30, m_31, m_32, m_33, m_34, m_35, m_36, m_37, m_38, m_39, m_40, m_41, m_42, m_43, m_44, m_45, m_46, m_47, m_48, m_49, m_50, m_51, m_52, m_53, m_54, m_55, m_56, m_57, m_58, m_59])]) u) t) (va_A [(cc_O m0 12 [.int thr, m_1, m_2, m_3, m_4, m_5, m_6, m_7, m_8, m_9, m_10, m_11, m_12, m_13, m_14, m_15, m_16, m_17, .int fau, m_19, m_20, m_21, m_22, m_23, m_24, m_25, m_26, m_27, m_28, m_29, m_30, m_31, m_32, m_33, m_34, m_35, m_36, m_37, m_38, m_39, m_40, m_41, m_42, m_43, m_44, m_45, m_46, m_47, m_48, m_49, m_50, m_51, m_52, m_53, m_54, m_55, m_56, m_57, m_58, m_59])] sz)) 0 0 (va_A [(cc_O m0 12 [.int thr, m_1, m_2, m_3, m_4, m_5, m_6, m_7, m_8, m_9, m_10, m_11, m_12, m_13, m_14, m_15, m_16, m_17, .int fau, m_19, m_20, m_21, m_22, m_23, m_24, m_25, m_26, m_27, m_28, m_29, m_30, m_31, m_32, m_33, m_34, m_35, m_36, m_37, m_38, m_39, m_40, m_41, m_42, m_43, m_44, m_45, m_46, m_47, m_48, m_49, m_50, m_51, m_52, m_53, m_54, m_55, m_56, m_57, m_58, m_59])] sz) := by
  refine Met.ofW (cc := cX12_fault) (maxL := 1) (ret := (some .int)) (by decide +kernel) rfl ?_
  intro p e s m args below meth c s₁ B hml hv
  obtain ⟨rfl, hsz, hP, hK, hD0, hN⟩ := hv
  have hx := B.exec
  have hb := B.bytes
  have hr := B.returns
  have hts := atoms_spec (ws := wsX12_fault) B.pre
  have hown : s.vm.findClass RX12 = some m.cls := findClass_of_methodNamed B.named
  have hlocks := B.notSynchronized
  subst hsz
  have hD := hD0.self (sz := s.heap.size)
  generalize hAe : va_A [(cc_O m0 12 [.int thr, m_1, m_2, m_3, m_4, m_5, m_6, m_7, m_8, m_9, m_10, m_11, m_12, m_13, m_14, m_15, m_16, m_17, .int fau, m_19, m_20, m_21, m_22, m_23, m_24, m_25, m_26, m_27, m_28, m_29, m_30, m_31, m_32, m_33, m_34, m_35, m_36, m_37, m_38, m_39, m_40, m_41, m_42, m_43, m_44, m_45, m_46, m_47, m_48, m_49, m_50, m_51, m_52, m_53, m_54, m_55, m_56, m_57, m_58, m_59])] s.heap.size = A at hD ⊢
  have hA : ∀ q : Nat, s.heap.size ≤ q → A q := fun q h => by rw [← hAe]; exact Or.inr h
  clear hAe
  have hS : va_S A s.heap s.heap [] := va_S.rf
  replace hP : va_P D vwCl [(cc_O m0 12 [.int thr, m_1, m_2, m_3, m_4, m_5, m_6, m_7, m_8, m_9, m_10, m_11, m_12, m_13, m_14, m_15, m_16, m_17, .int fau, m_19, m_20, m_21, m_22, m_23, m_24, m_25, m_26, m_27, m_28, m_29, m_30, m_31, m_32, m_33, m_34, m_35, m_36, m_37, m_38, m_39, m_40, m_41, m_42, m_43, m_44, m_45, m_46, m_47, m_48, m_49, m_50, m_51, m_52, m_53, m_54, m_55, m_56, m_57, m_58, m_59])] s.heap := hP
  have hl := lv_entry [.ref m0] (n := 1) (Nat.le_of_ble_eq_true rfl)
  rw [lg_entry_eq]
  generalize (lg_sl [.ref m0] ++ List.replicate (1 - (lg_sl [.ref m0]).length) Slot.unset).toArray = ls at hl ⊢
  have hl : lv_has ls 1 [(0, .ref m0)] := hl
  have hw12 : ∀ w ∈ wsX120, w ∈ wsX12_fault := fun w h => (List.mem_cons_of_mem _ (List.mem_append_right _ h))
  generalize hQ : MQ below _ _ s _ _ _ = Q
  have hE := E_v_fault.eq_def thr fau
  refine lv_aload_n hx hb dX12_fault_0 rfl (lv_at hl 0 rfl) (lv_iconst (v := 0) hx hb dX12_fault_1 (by decide +kernel) (va_put (ci := 12) (v := .int 0) (ty := .int) (C := RX12) (T := TX12) (N := 60) hx hb hts hw12 tyX12 tyX12_ok nmX12 hown hK hP hD hS 0 rfl rfl 0 (by decide +kernel) (hts _ mm_X12_fault_830) (fun _ h9 => h9) rfl (by decide +kernel) (by first | rfl | decide) (by first | rfl | decide) (Nat.le_of_ble_eq_true rfl) dX12_fault_2 (fun H locs hP0 hD0 hS0 => ?_)))
  replace hP : va_P D vwCl [(cc_O m0 12 [.int 0, m_1, m_2, m_3, m_4, m_5, m_6, m_7, m_8, m_9, m_10, m_11, m_12, m_13, m_14, m_15, m_16, m_17, .int fau, m_19, m_20, m_21, m_22, m_23, m_24, m_25, m_26, m_27, m_28, m_29, m_30, m_31, m_32, m_33, m_34, m_35, m_36, m_37, m_38, m_39, m_40, m_41, m_42, m_43, m_44, m_45, m_46, m_47, m_48, m_49, m_50, m_51, m_52, m_53, m_54, m_55, m_56, m_57, m_58, m_59])] H := hP0
  replace hD := as_D hP hD0 rfl
  replace hS := hS0
  clear hP0 hD0 hS0
  refine lv_aload_n hx hb dX12_fault_5 rfl (lv_at hl 0 rfl) (va_get (ci := 12) (v := .int fau) (C := RX12) (T := TX12) (N := 60) hx hb hts hw12 hown hK hP 0 rfl rfl 18 (by decide +kernel) (hts _ mm_X12_fault_848) (fun _ h9 => h9) rfl dX12_fault_6 ?_)
  rw [← hQ]
  have hP9 := hP.sub (ws' := [(cc_O m0 12 [.int 0, m_1, m_2, m_3, m_4, m_5, m_6, m_7, m_8, m_9, m_10, m_11, m_12, m_13, m_14, m_15, m_16, m_17, .int fau, m_19, m_20, m_21, m_22, m_23, m_24, m_25, m_26, m_27, m_28, m_29, m_30, m_31, m_32, m_33, m_34, m_35, m_36, m_37, m_38, m_39, m_40, m_41, m_42, m_43, m_44, m_45, m_46, m_47, m_48, m_49, m_50, m_51, m_52, m_53, m_54, m_55, m_56, m_57, m_58, m_59])]) [0] rfl
  have hD9 := sub_D hP9 hD [0] (by decide +kernel) rfl
  exact W.iret (v := fau) hx hb hr (fun t ht hW => ⟨⟨fau, ((fun _ => 0, fun _ => fun _ => 0, fun _ => fun _ => 0, fun _ => 0, fun _ => 0, fun _ => fun _ => none) : Su), rfl, ⟨hE.symm, trivial⟩, (⟨by rw [ht]; exact hP9, hD9⟩ : Wd D A _ t)⟩, hS.F ht⟩) hS.2.2 dX12_fault_9
