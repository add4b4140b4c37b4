theorem BX8_byteAt_0 : bsegs (ByteArray.data cX8_byteAt |>.toList.drop 0) 0 [(0, [27]), (1, [155, 0, 27]), (4, [27]), (5, [42]), (6, [180, 0, 15]), (9, [162, 0, 19]), (12, [27]), (13, [17, 1, 144]), (16, [162, 0, 12]), (19, [42]), (20, [180, 0, 11]), (23, [27]), (24, [46]), (25, [167, 0, 4]), (28, [2]), (29, [172])] = true := by decide +kernel
theorem dX8_byteAt_0 : decode cX8_byteAt 0 = .ok (.iload_n 1, 1) := dk_27 (bs_at BX8_byteAt_0 0 rfl)
theorem dX8_byteAt_1 : decode cX8_byteAt 1 = .ok (.ifCond .lt 27, 3) := dk_155 0 27 (bs_at BX8_byteAt_0 1 rfl) rfl
theorem dX8_byteAt_4 : decode cX8_byteAt 4 = .ok (.iload_n 1, 1) := dk_27 (bs_at BX8_byteAt_0 2 rfl)
theorem dX8_byteAt_5 : decode cX8_byteAt 5 = .ok (.aload_n 0, 1) := dk_42 (bs_at BX8_byteAt_0 3 rfl)
theorem dX8_byteAt_6 : decode cX8_byteAt 6 = .ok (.getfield 15, 3) := dk_180 0 15 (bs_at BX8_byteAt_0 4 rfl) rfl
theorem dX8_byteAt_9 : decode cX8_byteAt 9 = .ok (.if_icmp .ge 19, 3) := dk_162 0 19 (bs_at BX8_byteAt_0 5 rfl) rfl
theorem dX8_byteAt_12 : decode cX8_byteAt 12 = .ok (.iload_n 1, 1) := dk_27 (bs_at BX8_byteAt_0 6 rfl)
theorem dX8_byteAt_13 : decode cX8_byteAt 13 = .ok (.sipush 400, 3) := dk_17 1 144 (bs_at BX8_byteAt_0 7 rfl) rfl
theorem dX8_byteAt_16 : decode cX8_byteAt 16 = .ok (.if_icmp .ge 12, 3) := dk_162 0 12 (bs_at BX8_byteAt_0 8 rfl) rfl
theorem dX8_byteAt_19 : decode cX8_byteAt 19 = .ok (.aload_n 0, 1) := dk_42 (bs_at BX8_byteAt_0 9 rfl)
theorem dX8_byteAt_20 : decode cX8_byteAt 20 = .ok (.getfield 11, 3) := dk_180 0 11 (bs_at BX8_byteAt_0 10 rfl) rfl
theorem dX8_byteAt_23 : decode cX8_byteAt 23 = .ok (.iload_n 1, 1) := dk_27 (bs_at BX8_byteAt_0 11 rfl)
theorem dX8_byteAt_24 : decode cX8_byteAt 24 = .ok (.iaload, 1) := dk_46 (bs_at BX8_byteAt_0 12 rfl)
theorem dX8_byteAt_25 : decode cX8_byteAt 25 = .ok (.goto 4, 3) := dk_167 0 4 (bs_at BX8_byteAt_0 13 rfl) rfl
theorem dX8_byteAt_28 : decode cX8_byteAt 28 = .ok (.iconst (-1), 1) := dk_2 (bs_at BX8_byteAt_0 14 rfl)
theorem dX8_byteAt_29 : decode cX8_byteAt 29 = .ok (.ireturn, 1) := dk_172 (bs_at BX8_byteAt_0 15 rfl)
theorem BX8_step_0 : bsegs (ByteArray.data cX8_step |>.toList.drop 0) 0 [(0, [42]), (1, [42]), (2, [180, 0, 22]), (5, [181, 0, 19]), (8, [42]), (9, [180, 0, 19]), (12, [42]), (13, [180, 0, 15]), (16, [162, 0, 30]), (19, [42]), (20, [180, 0, 11]), (23, [42]), (24, [180, 0, 19]), (27, [46]), (28, [16, 32]), (30, [160, 0, 16]), (33, [42]), (34, [89]), (35, [180, 0, 19]), (38, [4]), (39, [96]), (40, [181, 0, 19]), (43, [167, 255, 221]), (46, [42])] = true := by decide +kernel
theorem dX8_step_0 : decode cX8_step 0 = .ok (.aload_n 0, 1) := dk_42 (bs_at BX8_step_0 0 rfl)
theorem dX8_step_1 : decode cX8_step 1 = .ok (.aload_n 0, 1) := dk_42 (bs_at BX8_step_0 1 rfl)
theorem dX8_step_2 : decode cX8_step 2 = .ok (.getfield 22, 3) := dk_180 0 22 (bs_at BX8_step_0 2 rfl) rfl
theorem dX8_step_5 : decode cX8_step 5 = .ok (.putfield 19, 3) := dk_181 0 19 (bs_at BX8_step_0 3 rfl) rfl
theorem dX8_step_8 : decode cX8_step 8 = .ok (.aload_n 0, 1) := dk_42 (bs_at BX8_step_0 4 rfl)
theorem dX8_step_9 : decode cX8_step 9 = .ok (.getfield 19, 3) := dk_180 0 19 (bs_at BX8_step_0 5 rfl) rfl
theorem dX8_step_12 : decode cX8_step 12 = .ok (.aload_n 0, 1) := dk_42 (bs_at BX8_step_0 6 rfl)
theorem dX8_step_13 : decode cX8_step 13 = .ok (.getfield 15, 3) := dk_180 0 15 (bs_at BX8_step_0 7 rfl) rfl
theorem dX8_step_16 : decode cX8_step 16 = .ok (.if_icmp .ge 30, 3) := dk_162 0 30 (bs_at BX8_step_0 8 rfl) rfl
theorem dX8_step_19 : decode cX8_step 19 = .ok (.aload_n 0, 1) := dk_42 (bs_at BX8_step_0 9 rfl)
theorem dX8_step_20 : decode cX8_step 20 = .ok (.getfield 11, 3) := dk_180 0 11 (bs_at BX8_step_0 10 rfl) rfl
theorem dX8_step_23 : decode cX8_step 23 = .ok (.aload_n 0, 1) := dk_42 (bs_at BX8_step_0 11 rfl)
theorem dX8_step_24 : decode cX8_step 24 = .ok (.getfield 19, 3) := dk_180 0 19 (bs_at BX8_step_0 12 rfl) rfl
theorem dX8_step_27 : decode cX8_step 27 = .ok (.iaload, 1) := dk_46 (bs_at BX8_step_0 13 rfl)
theorem dX8_step_28 : decode cX8_step 28 = .ok (.bipush 32, 2) := dk_16 32 (bs_at BX8_step_0 14 rfl) rfl
theorem dX8_step_30 : decode cX8_step 30 = .ok (.if_icmp .ne 16, 3) := dk_160 0 16 (bs_at BX8_step_0 15 rfl) rfl
theorem dX8_step_33 : decode cX8_step 33 = .ok (.aload_n 0, 1) := dk_42 (bs_at BX8_step_0 16 rfl)
theorem dX8_step_34 : decode cX8_step 34 = .ok (.dup, 1) := dk_89 (bs_at BX8_step_0 17 rfl)
theorem dX8_step_35 : decode cX8_step 35 = .ok (.getfield 19, 3) := dk_180 0 19 (bs_at BX8_step_0 18 rfl) rfl
theorem dX8_step_38 : decode cX8_step 38 = .ok (.iconst 1, 1) := dk_4 (bs_at BX8_step_0 19 rfl)
theorem dX8_step_39 : decode cX8_step 39 = .ok (.iadd, 1) := dk_96 (bs_at BX8_step_0 20 rfl)
theorem dX8_step_40 : decode cX8_step 40 = .ok (.putfield 19, 3) := dk_181 0 19 (bs_at BX8_step_0 21 rfl) rfl
theorem dX8_step_43 : decode cX8_step 43 = .ok (.goto (-35), 3) := dk_167 255 221 (bs_at BX8_step_0 22 rfl) rfl
theorem dX8_step_46 : decode cX8_step 46 = .ok (.aload_n 0, 1) := dk_42 (bs_at BX8_step_0 23 rfl)
theorem BX8_step_47 : bsegs (ByteArray.data cX8_step |>.toList.drop 47) 47 [(47, [42]), (48, [180, 0, 19]), (51, [42]), (52, [180, 0, 15]), (55, [162, 0, 15]), (58, [42]), (59, [180, 0, 11]), (62, [42]), (63, [180, 0, 19]), (66, [46]), (67, [167, 0, 4]), (70, [2]), (71, [181, 0, 25]), (74, [42]), (75, [42]), (76, [180, 0, 25]), (79, [16, 48]), (81, [161, 0, 22]), (84, [42]), (85, [180, 0, 25]), (88, [16, 57]), (90, [163, 0, 13]), (93, [42]), (94, [180, 0, 25])] = true := by decide +kernel
theorem dX8_step_47 : decode cX8_step 47 = .ok (.aload_n 0, 1) := dk_42 (bs_at BX8_step_47 0 rfl)
theorem dX8_step_48 : decode cX8_step 48 = .ok (.getfield 19, 3) := dk_180 0 19 (bs_at BX8_step_47 1 rfl) rfl
theorem dX8_step_51 : decode cX8_step 51 = .ok (.aload_n 0, 1) := dk_42 (bs_at BX8_step_47 2 rfl)
theorem dX8_step_52 : decode cX8_step 52 = .ok (.getfield 15, 3) := dk_180 0 15 (bs_at BX8_step_47 3 rfl) rfl
theorem dX8_step_55 : decode cX8_step 55 = .ok (.if_icmp .ge 15, 3) := dk_162 0 15 (bs_at BX8_step_47 4 rfl) rfl
theorem dX8_step_58 : decode cX8_step 58 = .ok (.aload_n 0, 1) := dk_42 (bs_at BX8_step_47 5 rfl)
theorem dX8_step_59 : decode cX8_step 59 = .ok (.getfield 11, 3) := dk_180 0 11 (bs_at BX8_step_47 6 rfl) rfl
theorem dX8_step_62 : decode cX8_step 62 = .ok (.aload_n 0, 1) := dk_42 (bs_at BX8_step_47 7 rfl)
theorem dX8_step_63 : decode cX8_step 63 = .ok (.getfield 19, 3) := dk_180 0 19 (bs_at BX8_step_47 8 rfl) rfl
theorem dX8_step_66 : decode cX8_step 66 = .ok (.iaload, 1) := dk_46 (bs_at BX8_step_47 9 rfl)
theorem dX8_step_67 : decode cX8_step 67 = .ok (.goto 4, 3) := dk_167 0 4 (bs_at BX8_step_47 10 rfl) rfl
theorem dX8_step_70 : decode cX8_step 70 = .ok (.iconst (-1), 1) := dk_2 (bs_at BX8_step_47 11 rfl)
theorem dX8_step_71 : decode cX8_step 71 = .ok (.putfield 25, 3) := dk_181 0 25 (bs_at BX8_step_47 12 rfl) rfl
theorem dX8_step_74 : decode cX8_step 74 = .ok (.aload_n 0, 1) := dk_42 (bs_at BX8_step_47 13 rfl)
theorem dX8_step_75 : decode cX8_step 75 = .ok (.aload_n 0, 1) := dk_42 (bs_at BX8_step_47 14 rfl)
theorem dX8_step_76 : decode cX8_step 76 = .ok (.getfield 25, 3) := dk_180 0 25 (bs_at BX8_step_47 15 rfl) rfl
theorem dX8_step_79 : decode cX8_step 79 = .ok (.bipush 48, 2) := dk_16 48 (bs_at BX8_step_47 16 rfl) rfl
theorem dX8_step_81 : decode cX8_step 81 = .ok (.if_icmp .lt 22, 3) := dk_161 0 22 (bs_at BX8_step_47 17 rfl) rfl
theorem dX8_step_84 : decode cX8_step 84 = .ok (.aload_n 0, 1) := dk_42 (bs_at BX8_step_47 18 rfl)
theorem dX8_step_85 : decode cX8_step 85 = .ok (.getfield 25, 3) := dk_180 0 25 (bs_at BX8_step_47 19 rfl) rfl
theorem dX8_step_88 : decode cX8_step 88 = .ok (.bipush 57, 2) := dk_16 57 (bs_at BX8_step_47 20 rfl) rfl
theorem dX8_step_90 : decode cX8_step 90 = .ok (.if_icmp .gt 13, 3) := dk_163 0 13 (bs_at BX8_step_47 21 rfl) rfl
theorem dX8_step_93 : decode cX8_step 93 = .ok (.aload_n 0, 1) := dk_42 (bs_at BX8_step_47 22 rfl)
theorem dX8_step_94 : decode cX8_step 94 = .ok (.getfield 25, 3) := dk_180 0 25 (bs_at BX8_step_47 23 rfl) rfl
theorem BX8_step_97 : bsegs (ByteArray.data cX8_step |>.toList.drop 97) 97 [(97, [16, 48]), (99, [100]), (100, [167, 0, 4]), (103, [2]), (104, [181, 0, 28]), (107, [42]), (108, [180, 0, 25]), (111, [16, 97]), (113, [161, 0, 16]), (116, [42]), (117, [180, 0, 25]), (120, [16, 122]), (122, [163, 0, 7]), (125, [4]), (126, [167, 0, 4]), (129, [3]), (130, [60]), (131, [42]), (132, [42]), (133, [180, 0, 15]), (136, [42]), (137, [180, 0, 19]), (140, [4]), (141, [96])] = true := by decide +kernel
theorem dX8_step_97 : decode cX8_step 97 = .ok (.bipush 48, 2) := dk_16 48 (bs_at BX8_step_97 0 rfl) rfl
theorem dX8_step_99 : decode cX8_step 99 = .ok (.isub, 1) := dk_100 (bs_at BX8_step_97 1 rfl)
theorem dX8_step_100 : decode cX8_step 100 = .ok (.goto 4, 3) := dk_167 0 4 (bs_at BX8_step_97 2 rfl) rfl
theorem dX8_step_103 : decode cX8_step 103 = .ok (.iconst (-1), 1) := dk_2 (bs_at BX8_step_97 3 rfl)
theorem dX8_step_104 : decode cX8_step 104 = .ok (.putfield 28, 3) := dk_181 0 28 (bs_at BX8_step_97 4 rfl) rfl
theorem dX8_step_107 : decode cX8_step 107 = .ok (.aload_n 0, 1) := dk_42 (bs_at BX8_step_97 5 rfl)
theorem dX8_step_108 : decode cX8_step 108 = .ok (.getfield 25, 3) := dk_180 0 25 (bs_at BX8_step_97 6 rfl) rfl
theorem dX8_step_111 : decode cX8_step 111 = .ok (.bipush 97, 2) := dk_16 97 (bs_at BX8_step_97 7 rfl) rfl
theorem dX8_step_113 : decode cX8_step 113 = .ok (.if_icmp .lt 16, 3) := dk_161 0 16 (bs_at BX8_step_97 8 rfl) rfl
theorem dX8_step_116 : decode cX8_step 116 = .ok (.aload_n 0, 1) := dk_42 (bs_at BX8_step_97 9 rfl)
theorem dX8_step_117 : decode cX8_step 117 = .ok (.getfield 25, 3) := dk_180 0 25 (bs_at BX8_step_97 10 rfl) rfl
theorem dX8_step_120 : decode cX8_step 120 = .ok (.bipush 122, 2) := dk_16 122 (bs_at BX8_step_97 11 rfl) rfl
theorem dX8_step_122 : decode cX8_step 122 = .ok (.if_icmp .gt 7, 3) := dk_163 0 7 (bs_at BX8_step_97 12 rfl) rfl
theorem dX8_step_125 : decode cX8_step 125 = .ok (.iconst 1, 1) := dk_4 (bs_at BX8_step_97 13 rfl)
theorem dX8_step_126 : decode cX8_step 126 = .ok (.goto 4, 3) := dk_167 0 4 (bs_at BX8_step_97 14 rfl) rfl
theorem dX8_step_129 : decode cX8_step 129 = .ok (.iconst 0, 1) := dk_3 (bs_at BX8_step_97 15 rfl)
theorem dX8_step_130 : decode cX8_step 130 = .ok (.istore_n 1, 1) := dk_60 (bs_at BX8_step_97 16 rfl)
theorem dX8_step_131 : decode cX8_step 131 = .ok (.aload_n 0, 1) := dk_42 (bs_at BX8_step_97 17 rfl)
theorem dX8_step_132 : decode cX8_step 132 = .ok (.aload_n 0, 1) := dk_42 (bs_at BX8_step_97 18 rfl)
theorem dX8_step_133 : decode cX8_step 133 = .ok (.getfield 15, 3) := dk_180 0 15 (bs_at BX8_step_97 19 rfl) rfl
theorem dX8_step_136 : decode cX8_step 136 = .ok (.aload_n 0, 1) := dk_42 (bs_at BX8_step_97 20 rfl)
theorem dX8_step_137 : decode cX8_step 137 = .ok (.getfield 19, 3) := dk_180 0 19 (bs_at BX8_step_97 21 rfl) rfl
theorem dX8_step_140 : decode cX8_step 140 = .ok (.iconst 1, 1) := dk_4 (bs_at BX8_step_97 22 rfl)
theorem dX8_step_141 : decode cX8_step 141 = .ok (.iadd, 1) := dk_96 (bs_at BX8_step_97 23 rfl)
theorem BX8_step_142 : bsegs (ByteArray.data cX8_step |>.toList.drop 142) 142 [(142, [184, 0, 31]), (145, [181, 0, 22]), (148, [42]), (149, [180, 0, 22]), (152, [42]), (153, [180, 0, 15]), (156, [162, 0, 116]), (159, [42]), (160, [180, 0, 11]), (163, [42]), (164, [180, 0, 22]), (167, [46]), (168, [61]), (169, [42]), (170, [180, 0, 28]), (173, [2]), (174, [159, 0, 19]), (177, [28]), (178, [16, 48]), (180, [161, 0, 13]), (183, [28]), (184, [16, 57]), (186, [163, 0, 7]), (189, [4])] = true := by decide +kernel
theorem dX8_step_142 : decode cX8_step 142 = .ok (.invokestatic 31, 3) := dk_184 0 31 (bs_at BX8_step_142 0 rfl) rfl
theorem dX8_step_145 : decode cX8_step 145 = .ok (.putfield 22, 3) := dk_181 0 22 (bs_at BX8_step_142 1 rfl) rfl
theorem dX8_step_148 : decode cX8_step 148 = .ok (.aload_n 0, 1) := dk_42 (bs_at BX8_step_142 2 rfl)
theorem dX8_step_149 : decode cX8_step 149 = .ok (.getfield 22, 3) := dk_180 0 22 (bs_at BX8_step_142 3 rfl) rfl
theorem dX8_step_152 : decode cX8_step 152 = .ok (.aload_n 0, 1) := dk_42 (bs_at BX8_step_142 4 rfl)
theorem dX8_step_153 : decode cX8_step 153 = .ok (.getfield 15, 3) := dk_180 0 15 (bs_at BX8_step_142 5 rfl) rfl
theorem dX8_step_156 : decode cX8_step 156 = .ok (.if_icmp .ge 116, 3) := dk_162 0 116 (bs_at BX8_step_142 6 rfl) rfl
theorem dX8_step_159 : decode cX8_step 159 = .ok (.aload_n 0, 1) := dk_42 (bs_at BX8_step_142 7 rfl)
theorem dX8_step_160 : decode cX8_step 160 = .ok (.getfield 11, 3) := dk_180 0 11 (bs_at BX8_step_142 8 rfl) rfl
theorem dX8_step_163 : decode cX8_step 163 = .ok (.aload_n 0, 1) := dk_42 (bs_at BX8_step_142 9 rfl)
theorem dX8_step_164 : decode cX8_step 164 = .ok (.getfield 22, 3) := dk_180 0 22 (bs_at BX8_step_142 10 rfl) rfl
theorem dX8_step_167 : decode cX8_step 167 = .ok (.iaload, 1) := dk_46 (bs_at BX8_step_142 11 rfl)
theorem dX8_step_168 : decode cX8_step 168 = .ok (.istore_n 2, 1) := dk_61 (bs_at BX8_step_142 12 rfl)
theorem dX8_step_169 : decode cX8_step 169 = .ok (.aload_n 0, 1) := dk_42 (bs_at BX8_step_142 13 rfl)
theorem dX8_step_170 : decode cX8_step 170 = .ok (.getfield 28, 3) := dk_180 0 28 (bs_at BX8_step_142 14 rfl) rfl
theorem dX8_step_173 : decode cX8_step 173 = .ok (.iconst (-1), 1) := dk_2 (bs_at BX8_step_142 15 rfl)
theorem dX8_step_174 : decode cX8_step 174 = .ok (.if_icmp .eq 19, 3) := dk_159 0 19 (bs_at BX8_step_142 16 rfl) rfl
theorem dX8_step_177 : decode cX8_step 177 = .ok (.iload_n 2, 1) := dk_28 (bs_at BX8_step_142 17 rfl)
theorem dX8_step_178 : decode cX8_step 178 = .ok (.bipush 48, 2) := dk_16 48 (bs_at BX8_step_142 18 rfl) rfl
theorem dX8_step_180 : decode cX8_step 180 = .ok (.if_icmp .lt 13, 3) := dk_161 0 13 (bs_at BX8_step_142 19 rfl) rfl
theorem dX8_step_183 : decode cX8_step 183 = .ok (.iload_n 2, 1) := dk_28 (bs_at BX8_step_142 20 rfl)
theorem dX8_step_184 : decode cX8_step 184 = .ok (.bipush 57, 2) := dk_16 57 (bs_at BX8_step_142 21 rfl) rfl
theorem dX8_step_186 : decode cX8_step 186 = .ok (.if_icmp .gt 7, 3) := dk_163 0 7 (bs_at BX8_step_142 22 rfl) rfl
theorem dX8_step_189 : decode cX8_step 189 = .ok (.iconst 1, 1) := dk_4 (bs_at BX8_step_142 23 rfl)
theorem BX8_step_190 : bsegs (ByteArray.data cX8_step |>.toList.drop 190) 190 [(190, [167, 0, 4]), (193, [3]), (194, [62]), (195, [27]), (196, [153, 0, 19]), (199, [28]), (200, [16, 97]), (202, [161, 0, 13]), (205, [28]), (206, [16, 122]), (208, [163, 0, 7]), (211, [4]), (212, [167, 0, 4]), (215, [3]), (216, [54, 4]), (218, [29]), (219, [154, 0, 11]), (222, [21, 4]), (224, [154, 0, 6]), (227, [167, 0, 45]), (230, [42]), (231, [29]), (232, [153, 0, 23]), (235, [18, 37])] = true := by decide +kernel
theorem dX8_step_190 : decode cX8_step 190 = .ok (.goto 4, 3) := dk_167 0 4 (bs_at BX8_step_190 0 rfl) rfl
theorem dX8_step_193 : decode cX8_step 193 = .ok (.iconst 0, 1) := dk_3 (bs_at BX8_step_190 1 rfl)
theorem dX8_step_194 : decode cX8_step 194 = .ok (.istore_n 3, 1) := dk_62 (bs_at BX8_step_190 2 rfl)
theorem dX8_step_195 : decode cX8_step 195 = .ok (.iload_n 1, 1) := dk_27 (bs_at BX8_step_190 3 rfl)
theorem dX8_step_196 : decode cX8_step 196 = .ok (.ifCond .eq 19, 3) := dk_153 0 19 (bs_at BX8_step_190 4 rfl) rfl
theorem dX8_step_199 : decode cX8_step 199 = .ok (.iload_n 2, 1) := dk_28 (bs_at BX8_step_190 5 rfl)
theorem dX8_step_200 : decode cX8_step 200 = .ok (.bipush 97, 2) := dk_16 97 (bs_at BX8_step_190 6 rfl) rfl
theorem dX8_step_202 : decode cX8_step 202 = .ok (.if_icmp .lt 13, 3) := dk_161 0 13 (bs_at BX8_step_190 7 rfl) rfl
theorem dX8_step_205 : decode cX8_step 205 = .ok (.iload_n 2, 1) := dk_28 (bs_at BX8_step_190 8 rfl)
theorem dX8_step_206 : decode cX8_step 206 = .ok (.bipush 122, 2) := dk_16 122 (bs_at BX8_step_190 9 rfl) rfl
theorem dX8_step_208 : decode cX8_step 208 = .ok (.if_icmp .gt 7, 3) := dk_163 0 7 (bs_at BX8_step_190 10 rfl) rfl
theorem dX8_step_211 : decode cX8_step 211 = .ok (.iconst 1, 1) := dk_4 (bs_at BX8_step_190 11 rfl)
theorem dX8_step_212 : decode cX8_step 212 = .ok (.goto 4, 3) := dk_167 0 4 (bs_at BX8_step_190 12 rfl) rfl
theorem dX8_step_215 : decode cX8_step 215 = .ok (.iconst 0, 1) := dk_3 (bs_at BX8_step_190 13 rfl)
theorem dX8_step_216 : decode cX8_step 216 = .ok (.istore 4, 2) := dk_54 4 (bs_at BX8_step_190 14 rfl)
theorem dX8_step_218 : decode cX8_step 218 = .ok (.iload_n 3, 1) := dk_29 (bs_at BX8_step_190 15 rfl)
theorem dX8_step_219 : decode cX8_step 219 = .ok (.ifCond .ne 11, 3) := dk_154 0 11 (bs_at BX8_step_190 16 rfl) rfl
theorem dX8_step_222 : decode cX8_step 222 = .ok (.iload 4, 2) := dk_21 4 (bs_at BX8_step_190 17 rfl)
theorem dX8_step_224 : decode cX8_step 224 = .ok (.ifCond .ne 6, 3) := dk_154 0 6 (bs_at BX8_step_190 18 rfl) rfl
theorem dX8_step_227 : decode cX8_step 227 = .ok (.goto 45, 3) := dk_167 0 45 (bs_at BX8_step_190 19 rfl) rfl
theorem dX8_step_230 : decode cX8_step 230 = .ok (.aload_n 0, 1) := dk_42 (bs_at BX8_step_190 20 rfl)
theorem dX8_step_231 : decode cX8_step 231 = .ok (.iload_n 3, 1) := dk_29 (bs_at BX8_step_190 21 rfl)
theorem dX8_step_232 : decode cX8_step 232 = .ok (.ifCond .eq 23, 3) := dk_153 0 23 (bs_at BX8_step_190 22 rfl) rfl
theorem dX8_step_235 : decode cX8_step 235 = .ok (.ldc 37, 2) := dk_18 37 (bs_at BX8_step_190 23 rfl)
theorem BX8_step_237 : bsegs (ByteArray.data cX8_step |>.toList.drop 237) 237 [(237, [42]), (238, [180, 0, 28]), (241, [16, 10]), (243, [104]), (244, [28]), (245, [96]), (246, [16, 48]), (248, [100]), (249, [184, 0, 31]), (252, [167, 0, 4]), (255, [2]), (256, [181, 0, 28]), (259, [42]), (260, [89]), (261, [180, 0, 22]), (264, [4]), (265, [96]), (266, [181, 0, 22]), (269, [167, 255, 135]), (272, [177])] = true := by decide +kernel
theorem dX8_step_237 : decode cX8_step 237 = .ok (.aload_n 0, 1) := dk_42 (bs_at BX8_step_237 0 rfl)
theorem dX8_step_238 : decode cX8_step 238 = .ok (.getfield 28, 3) := dk_180 0 28 (bs_at BX8_step_237 1 rfl) rfl
theorem dX8_step_241 : decode cX8_step 241 = .ok (.bipush 10, 2) := dk_16 10 (bs_at BX8_step_237 2 rfl) rfl
theorem dX8_step_243 : decode cX8_step 243 = .ok (.imul, 1) := dk_104 (bs_at BX8_step_237 3 rfl)
theorem dX8_step_244 : decode cX8_step 244 = .ok (.iload_n 2, 1) := dk_28 (bs_at BX8_step_237 4 rfl)
theorem dX8_step_245 : decode cX8_step 245 = .ok (.iadd, 1) := dk_96 (bs_at BX8_step_237 5 rfl)
theorem dX8_step_246 : decode cX8_step 246 = .ok (.bipush 48, 2) := dk_16 48 (bs_at BX8_step_237 6 rfl) rfl
theorem dX8_step_248 : decode cX8_step 248 = .ok (.isub, 1) := dk_100 (bs_at BX8_step_237 7 rfl)
theorem dX8_step_249 : decode cX8_step 249 = .ok (.invokestatic 31, 3) := dk_184 0 31 (bs_at BX8_step_237 8 rfl) rfl
theorem dX8_step_252 : decode cX8_step 252 = .ok (.goto 4, 3) := dk_167 0 4 (bs_at BX8_step_237 9 rfl) rfl
theorem dX8_step_255 : decode cX8_step 255 = .ok (.iconst (-1), 1) := dk_2 (bs_at BX8_step_237 10 rfl)
theorem dX8_step_256 : decode cX8_step 256 = .ok (.putfield 28, 3) := dk_181 0 28 (bs_at BX8_step_237 11 rfl) rfl
theorem dX8_step_259 : decode cX8_step 259 = .ok (.aload_n 0, 1) := dk_42 (bs_at BX8_step_237 12 rfl)
theorem dX8_step_260 : decode cX8_step 260 = .ok (.dup, 1) := dk_89 (bs_at BX8_step_237 13 rfl)
theorem dX8_step_261 : decode cX8_step 261 = .ok (.getfield 22, 3) := dk_180 0 22 (bs_at BX8_step_237 14 rfl) rfl
theorem dX8_step_264 : decode cX8_step 264 = .ok (.iconst 1, 1) := dk_4 (bs_at BX8_step_237 15 rfl)
theorem dX8_step_265 : decode cX8_step 265 = .ok (.iadd, 1) := dk_96 (bs_at BX8_step_237 16 rfl)
theorem dX8_step_266 : decode cX8_step 266 = .ok (.putfield 22, 3) := dk_181 0 22 (bs_at BX8_step_237 17 rfl) rfl
theorem dX8_step_269 : decode cX8_step 269 = .ok (.goto (-121), 3) := dk_167 255 135 (bs_at BX8_step_237 18 rfl) rfl
theorem dX8_step_272 : decode cX8_step 272 = .ok (.return_, 1) := dk_177 (bs_at BX8_step_237 19 rfl)
set_option maxRecDepth 100000 in
noncomputable def E_w_take_j49 (v_363 : Int32) (f_364 : Nat → Int32) : Int32 × (Nat → Int32) :=
  ((v_363, f_364) : Int32 × (Nat → Int32))
set_option maxRecDepth 100000 in
noncomputable def E_w_take_l3 (x : Int32) (rec_398 : Int32 → Int32 → (Nat → Int32) → (Int32 × (Nat → Int32))) (v_362 : Int32) (v_363 : Int32) (f_364 : Nat → Int32) : Int32 × (Nat → Int32) :=
  if v_362 < 0 then (E_w_take_j49 v_363 f_364) else (if 400 ≤ v_363 then (E_w_take_j49 v_363 f_364) else (Lt (x >>> (v_362 &&& 31) : Int32) (fun x_410 => Lt (x_410 &&& 255 : Int32) (fun x_411 => Lt (upd f_364 (v_363 : Int32).toNatClampNeg x_411 : Nat → Int32) (fun f_412 => Lt (v_363 + 1 : Int32) (fun x_413 => Lt (v_362 + Int32.ofInt (-8) : Int32) (fun x_414 => rec_398 x_414 x_413 f_412)))))))
set_option maxRecDepth 100000 in
noncomputable def E_w_take (x : Int32) (ln : Int32) (f : Nat → Int32) : Int32 × (Nat → Int32) :=
  Lp (α := Int32 → Int32 → (Nat → Int32) → (Int32 × (Nat → Int32))) (E_w_take_l3 x) (fun _ _ _ => ((0, fun _ => 0) : Int32 × (Nat → Int32))) (((24 : Int32).toInt - (-9) : Int).toNat + 1) 24 ln f
set_option maxHeartbeats 4000000 in
set_option maxRecDepth 100000 in
theorem w_take (l : Launch) (D : va_G) (K : Nat → ClassId) (a0 : Nat) (x : Int32) (a1 : Nat) (ln : Int32) (p_2 : Value) (p_3 : Value) (p_4 : Value) (p_5 : Value) (f : Nat → Int32) (sz : Nat) (zln : 0 ≤ ln.toInt ∧ ln.toInt ≤ 400) : Met l yX8_take wsX8_take ({ frames := 0, cells := 0, slots := 0, locals := 0 }) (va_Pc [.ref a0, .int x] (Pre D K [(a0, .inr (8, [.ref a1, .int ln, p_2, p_3, p_4, p_5])), (a1, .inl (K 0, 400, .inl f))] sz)) (va_Qv (S := Su) (fun (u : Su) => (0 ≤ (u.2.2.2.1 0).toInt ∧ (u.2.2.2.1 0).toInt ≤ 400) ∧ (((u.2.2.2.1 0), (u.2.1 0)) = E_w_take x ln f) ∧ True) (fun u t => Wd D (va_A [(a0, .inr (8, [.ref a1, .int ln, p_2, p_3, p_4, p_5])), (a1, .inl (K 0, 400, .inl f))] sz) ((fun u => [(a0, .inr (8, [.ref a1, .int (u.2.2.2.1 0), p_2, p_3, p_4, p_5])), (a1, .inl (K 0, 400, .inl (u.2.1 0)))]) u) t) (va_A [(a0, .inr (8, [.ref a1, .int ln, p_2, p_3, p_4, p_5])), (a1, .inl (K 0, 400, .inl f))] sz)) 0 0 (va_A [(a0, .inr (8, [.ref a1, .int ln, p_2, p_3, p_4, p_5])), (a1, .inl (K 0, 400, .inl f))] sz) := by
  refine Met.ofW (cc := cX8_take) (maxL := 3) (ret := none) (by decide +kernel) rfl ?_
  intro p e s m args below meth c s₁ B hml hv
  obtain ⟨rfl, hsz, hP, hK, hD0, hN⟩ := hv
  have hx := B.exec
  have hb := B.bytes
  have hr := B.returns
  have hts := atoms_spec (ws := wsX8_take) B.pre
  have hown : s.vm.findClass RX8 = some m.cls := findClass_of_methodNamed B.named
  have hlocks := B.notSynchronized
  subst hsz
  have hD := hD0.self (sz := s.heap.size)
  generalize hAe : va_A [(a0, .inr (8, [.ref a1, .int ln, p_2, p_3, p_4, p_5])), (a1, .inl (K 0, 400, .inl f))] s.heap.size = A at hD ⊢
  have hA : ∀ q : Nat, s.heap.size ≤ q → A q := fun q h => by rw [← hAe]; exact Or.inr h
  clear hAe
  have hS : va_S A s.heap s.heap [] := va_S.rf
  replace hP : va_P D vwCl [(a0, .inr (8, [.ref a1, .int ln, p_2, p_3, p_4, p_5])), (a1, .inl (K 0, 400, .inl f))] s.heap := hP
  have hl := lv_entry [.ref a0, .int x] (n := 3) (Nat.le_of_ble_eq_true rfl)
  rw [lg_entry_eq]
  generalize (lg_sl [.ref a0, .int x] ++ List.replicate (3 - (lg_sl [.ref a0, .int x]).length) Slot.unset).toArray = ls at hl ⊢
  have hl : lv_has ls 3 [(0, .ref a0), (1, .int x)] := hl
  have hw8 : ∀ w ∈ wsX80, w ∈ wsX8_take := fun w h => (List.mem_cons_of_mem _ (List.mem_append_right _ h))
  generalize hQ : MQ below _ _ s _ _ _ = Q
  have hE := E_w_take.eq_def x ln f
  refine lv_bipush (v := 24) hx hb dX8_take_0 (by decide +kernel) ?_
  refine lv_istore_n (lv' := [(2, .int 24), (0, .ref a0), (1, .int x)]) hx hb dX8_take_2 rfl hl (by decide +kernel) rfl (fun ls hl => ?_)
  have lp_398 : ∀ (nn_ : Nat) (v_362 : Int32) (v_363 : Int32) (f_364 : Nat → Int32) (hv_362 : (-8) ≤ v_362.toInt ∧ v_362.toInt ≤ 24) (hv_363 : 0 ≤ v_363.toInt ∧ v_363.toInt ≤ 400) (hn : (v_362.toInt - (-9) : Int).toNat < nn_) (hE : E_w_take x ln f = Lp (α := Int32 → Int32 → (Nat → Int32) → (Int32 × (Nat → Int32))) (E_w_take_l3 x) (fun _ _ _ => ((0, fun _ => 0) : Int32 × (Nat → Int32))) nn_ v_362 v_363 f_364) (H : Heap) (locs : List Loc) (hP : va_P D vwCl [(a0, .inr (8, [.ref a1, .int v_363, p_2, p_3, p_4, p_5])), (a1, .inl (K 0, 400, .inl f_364))] H) (hD : va_D A [(a0, .inr (8, [.ref a1, .int v_363, p_2, p_3, p_4, p_5])), (a1, .inl (K 0, 400, .inl f_364))]) (hS : va_S A s.heap H locs) (ls : Array Slot) (hl : lv_has ls 3 [(2, .int v_362), (0, .ref a0), (1, .int x)]), W p l e ({ frames := 0, cells := 0, slots := 0, locals := 0 }) s m (([.ref a0, .int x] : List Value).toArray) below meth c H locs 0 0 Q (F0 m 3 ls []) := by
    clear hE hP hD hS hl
    intro nn_
    induction nn_ with
    | zero =>
      intro v_362 v_363 f_364 hv_362 hv_363 hn hE H locs hP hD hS ls hl
      exact absurd hn (Nat.not_lt_zero _)
    | succ nn_ ih_399 =>
      intro v_362 v_363 f_364 hv_362 hv_363 hn hE H locs hP hD hS ls hl
      replace hE : E_w_take x ln f = E_w_take_l3 x (Lp (α := Int32 → Int32 → (Nat → Int32) → (Int32 × (Nat → Int32))) (E_w_take_l3 x) (fun _ _ _ => ((0, fun _ => 0) : Int32 × (Nat → Int32))) nn_) v_362 v_363 f_364 := hE
      obtain ⟨rec_398, hrec_398⟩ : ∃ z9, z9 = Lp (α := Int32 → Int32 → (Nat → Int32) → (Int32 × (Nat → Int32))) (E_w_take_l3 x) (fun _ _ _ => ((0, fun _ => 0) : Int32 × (Nat → Int32))) nn_ := ⟨_, rfl⟩
      rw [← hrec_398] at hE
      replace hE := hE.trans (E_w_take_l3.eq_def _ _ _ _ _)
      refine lv_iload_n hx hb dX8_take_3 rfl (lv_at hl 0 rfl) ?_
      have j_407 : ∀ (hE : E_w_take x ln f = E_w_take_j49 v_363 f_364) (H : Heap) (locs : List Loc) (hP : va_P D vwCl [(a0, .inr (8, [.ref a1, .int v_363, p_2, p_3, p_4, p_5])), (a1, .inl (K 0, 400, .inl f_364))] H) (hD : va_D A [(a0, .inr (8, [.ref a1, .int v_363, p_2, p_3, p_4, p_5])), (a1, .inl (K 0, 400, .inl f_364))]) (hS : va_S A s.heap H locs) (ls : Array Slot) (hl : lv_has ls 3 []), W p l e ({ frames := 0, cells := 0, slots := 0, locals := 0 }) s m (([.ref a0, .int x] : List Value).toArray) below meth c H locs 0 0 Q (F0 m 49 ls []) := by
        clear hE hP hD hS hl
        intro hE H locs hP hD hS ls hl
        replace hE := hE.trans (E_w_take_j49.eq_def _ _)
        rw [← hQ]
        have hP9 := hP.sub (ws' := [(a0, .inr (8, [.ref a1, .int v_363, p_2, p_3, p_4, p_5])), (a1, .inl (K 0, 400, .inl f_364))]) [0, 1] rfl
        have hD9 := hD.sub (ws' := [(a0, .inr (8, [.ref a1, .int v_363, p_2, p_3, p_4, p_5])), (a1, .inl (K 0, 400, .inl f_364))]) [0, 1] (by decide +kernel) rfl
        exact W.vret hx hb hr (fun t ht hW => ⟨⟨((fun _ => 0, fun i => match i with | _ => f_364, fun _ => fun _ => 0, fun i => match i with | _ => v_363, fun _ => 0, fun _ => fun _ => none) : Su), rfl, ⟨(show 0 ≤ (v_363 : Int32).toInt ∧ (v_363 : Int32).toInt ≤ 400 by omega), hE.symm, trivial⟩, (⟨by rw [ht]; exact hP9, hD9⟩ : Wd D A _ t)⟩, hS.F ht⟩) hS.2.2 dX8_take_49
      refine lv_if_lt (tgt := 49) hx hb dX8_take_4 (by decide +kernel) (fun c_408 => ?_) (fun c_408 => ?_)
      · have c_408i := i_lt (x := v_362.toInt) (y := 0) rfl rfl c_408
        replace hE := hE.trans (if_pos c_408)
        exact j_407   hE _ _ hP hD hS ls (lv_sub hl [] rfl)
      · have c_408i := i_nlt (x := v_362.toInt) (y := 0) rfl rfl c_408
        replace hE := hE.trans (if_neg c_408)
        refine lv_aload_n hx hb dX8_take_7 rfl (lv_at hl 1 rfl) ?_
        refine va_get (ci := 8) (v := .int v_363) (C := RX8) (T := TX8) (N := 6) hx hb hts hw8 hown hK hP 0 rfl rfl 1 (by decide +kernel) (hts _ mm_X8_take_206) (fun _ h9 => h9) rfl dX8_take_8 ?_
        refine lv_sipush (v := 400) hx hb dX8_take_11 (by decide +kernel) ?_
        refine lv_icmp_ge (tgt := 49) hx hb dX8_take_14 (by decide +kernel) (fun c_409 => ?_) (fun c_409 => ?_)
        · have c_409i := i_le (x := 400) (y := v_363.toInt) rfl rfl c_409
          replace hE := hE.trans (if_pos c_409)
          exact j_407   hE _ _ hP hD hS ls (lv_sub hl [] rfl)
        · have c_409i := i_nle (x := 400) (y := v_363.toInt) rfl rfl c_409
          replace hE := hE.trans (if_neg c_409)
          refine lv_aload_n hx hb dX8_take_17 rfl (lv_at hl 1 rfl) ?_
          refine va_get (ci := 8) (v := .ref a1) (C := RX8) (T := TX8) (N := 6) hx hb hts hw8 hown hK hP 0 rfl rfl 0 (by decide +kernel) (hts _ mm_X8_take_205) (fun _ h9 => h9) rfl dX8_take_18 ?_
          refine lv_aload_n hx hb dX8_take_21 rfl (lv_at hl 1 rfl) ?_
          refine va_get (ci := 8) (v := .int v_363) (C := RX8) (T := TX8) (N := 6) hx hb hts hw8 hown hK hP 0 rfl rfl 1 (by decide +kernel) (hts _ mm_X8_take_206) (fun _ h9 => h9) rfl dX8_take_22 ?_
          refine lv_iload_n hx hb dX8_take_25 rfl (lv_at hl 2 rfl) ?_
          refine lv_iload_n hx hb dX8_take_26 rfl (lv_at hl 0 rfl) ?_
          refine lv_ishr hx hb dX8_take_27 ?_
          refine lv_topi (fun x_410 ex_410 => ?_)
          replace hE := hE.trans (Lt_in ex_410)
          refine lv_sipush (v := 255) hx hb dX8_take_28 (by decide +kernel) ?_
          refine lv_iand hx hb dX8_take_31 ?_
          refine lv_topi (fun x_411 ex_411 => ?_)
          replace hE := hE.trans (Lt_in ex_411)
          have hx_411 : 0 ≤ x_411.toInt ∧ x_411.toInt ≤ 255 := by rw [ex_411]; exact i_mask x_410 8 rfl (by decide +kernel)
          refine va_iast hx hb hK hP hD hS 1 0 rfl rfl (i_in rfl (by omega)) dX8_take_32 (fun H locs hP0 hD0 hS0 => ?_)
          clear hP hD hS
          have hP := hP0
          have hD := hD0
          have hS := hS0
          clear hP0 hD0 hS0
          generalize hf_412 : (upd f_364 (v_363 : Int32).toNatClampNeg x_411) = f_412 at hP hD
          replace hE := hE.trans (Lt_in hf_412.symm)
          replace hP : va_P D vwCl [(a0, .inr (8, [.ref a1, .int v_363, p_2, p_3, p_4, p_5])), (a1, .inl (K 0, 400, .inl f_412))] H := hP
          replace hD : va_D A [(a0, .inr (8, [.ref a1, .int v_363, p_2, p_3, p_4, p_5])), (a1, .inl (K 0, 400, .inl f_412))] := hD
          refine lv_aload_n hx hb dX8_take_33 rfl (lv_at hl 1 rfl) ?_
          refine lv_dup hx hb dX8_take_34 rfl ?_
          refine va_get (ci := 8) (v := .int v_363) (C := RX8) (T := TX8) (N := 6) hx hb hts hw8 hown hK hP 0 rfl rfl 1 (by decide +kernel) (hts _ mm_X8_take_206) (fun _ h9 => h9) rfl dX8_take_35 ?_
          refine lv_iconst (v := 1) hx hb dX8_take_38 (by decide +kernel) ?_
          refine lv_iadd hx hb dX8_take_39 ?_
          refine lv_topi (fun x_413 ex_413 => ?_)
          replace hE := hE.trans (Lt_in ex_413)
          have hx_413 : x_413.toInt = (v_363.toInt + 1) := by rw [ex_413]; exact i_add rfl (show (1 : Int32).toInt = 1 from rfl) (by omega)
          refine va_put (ci := 8) (v := .int x_413) (ty := .int) (C := RX8) (T := TX8) (N := 6) hx hb hts hw8 tyX8 tyX8_ok nmX8 hown hK hP hD hS 0 rfl rfl 1 (by decide +kernel) (hts _ mm_X8_take_206) (fun _ h9 => h9) rfl (by decide +kernel) (by first | rfl | decide) (by first | rfl | decide) (Nat.le_of_ble_eq_true rfl) dX8_take_40 (fun H locs hP0 hD0 hS0 => ?_)
          clear hP hD hS
          have hP := hP0
          have hD := hD0
          have hS := hS0
          clear hP0 hD0 hS0
          replace hP : va_P D vwCl [(a0, .inr (8, [.ref a1, .int x_413, p_2, p_3, p_4, p_5])), (a1, .inl (K 0, 400, .inl f_412))] H := hP
          replace hD : va_D A [(a0, .inr (8, [.ref a1, .int x_413, p_2, p_3, p_4, p_5])), (a1, .inl (K 0, 400, .inl f_412))] := hD
          obtain ⟨x_414, ex_414⟩ : ∃ y : Int32, y = v_362 + Int32.ofInt (-8) := ⟨_, rfl⟩
          replace hE := hE.trans (Lt_in ex_414)
          have hx_414 : x_414.toInt = (v_362.toInt + (-8)) := by rw [ex_414]; exact i_add rfl (show (Int32.ofInt (-8)).toInt = (-8) from rfl) (by omega)
          refine lv_iinc (v := x_414) (lv' := [(2, .int x_414), (0, .ref a0), (1, .int x)]) hx hb dX8_take_43 hl (k := 0) rfl (by rw [ex_414]) (by decide +kernel) rfl (fun ls hl => ?_)
          refine lv_goto (tgt := 3) hx hb dX8_take_46 (by decide +kernel) ?_
          exact ih_399 x_414 x_413 f_412 (by rw [hx_414]; omega) (by rw [hx_413]; omega) (by omega) (hE.trans (by rw [hrec_398])) _ _ hP hD hS ls (lv_sub hl [0, 1, 2] rfl)
  exact lp_398 (((24 : Int32).toInt - (-9) : Int).toNat + 1) 24 ln f (by decide +kernel) (by omega) (Nat.lt_succ_self _) hE _ _ hP hD hS ls (lv_sub hl [0, 1, 2] rfl)
set_option maxRecDepth 100000 in
noncomputable def E_w_byteAt (x : Int32) (ln : Int32) (f : Nat → Int32) : Int32 :=
  if x < 0 then (((-1) : Int32)) else (if ln ≤ x then (((-1) : Int32)) else (if 400 ≤ x then (((-1) : Int32)) else (Lt (f (x : Int32).toNatClampNeg : Int32) (fun x_72 => (x_72 : Int32)))))
set_option maxHeartbeats 4000000 in
set_option maxRecDepth 100000 in
theorem w_byteAt (l : Launch) (D : va_G) (K : Nat → ClassId) (a0 : Nat) (x : Int32) (a1 : Nat) (ln : Int32) (p_2 : Value) (p_3 : Value) (p_4 : Value) (p_5 : Value) (f : Nat → Int32) (sz : Nat) : Met l yX8_byteAt wsX8_byteAt ({ frames := 0, cells := 0, slots := 0, locals := 0 }) (va_Pc [.ref a0, .int x] (Pre D K [(a0, .inr (8, [.ref a1, .int ln, p_2, p_3, p_4, p_5])), (a1, .inl (K 0, 400, .inl f))] sz)) (vp_Si (fun r : Int32 => (r = E_w_byteAt x ln f) ∧ True)) 0 0 (fun _ => False) := by
  refine Met.ofW (cc := cX8_byteAt) (maxL := 2) (ret := (some .int)) (by decide +kernel) rfl ?_
  intro p e s m args below meth c s₁ B hml hv
  obtain ⟨rfl, hsz, hP, hK, hD0, hN⟩ := hv
  have hx := B.exec
  have hb := B.bytes
  have hr := B.returns
  have hts := atoms_spec (ws := wsX8_byteAt) B.pre
  have hown : s.vm.findClass RX8 = some m.cls := findClass_of_methodNamed B.named
  have hlocks := B.notSynchronized
  subst hsz
  have hD := hD0
  replace hP : va_P D vwCl [(a0, .inr (8, [.ref a1, .int ln, p_2, p_3, p_4, p_5])), (a1, .inl (K 0, 400, .inl f))] s.heap := hP
  have hl := lv_entry [.ref a0, .int x] (n := 2) (Nat.le_of_ble_eq_true rfl)
  rw [lg_entry_eq]
  generalize (lg_sl [.ref a0, .int x] ++ List.replicate (2 - (lg_sl [.ref a0, .int x]).length) Slot.unset).toArray = ls at hl ⊢
  have hl : lv_has ls 2 [(0, .ref a0), (1, .int x)] := hl
  have hw8 : ∀ w ∈ wsX80, w ∈ wsX8_byteAt := fun w h => (List.mem_cons_of_mem _ (List.mem_append_right _ h))
  generalize hQ : MQ below _ _ s _ _ _ = Q
  have hE := E_w_byteAt.eq_def x ln f
  refine lv_iload_n hx hb dX8_byteAt_0 rfl (lv_at hl 1 rfl) ?_
  refine lv_if_lt (tgt := 28) hx hb dX8_byteAt_1 (by decide +kernel) (fun c_69 => ?_) (fun c_69 => ?_)
  · have c_69i := i_lt (x := x.toInt) (y := 0) rfl rfl c_69
    replace hE := hE.trans (if_pos c_69)
    refine lv_iconst (v := (-1)) hx hb dX8_byteAt_28 (by decide +kernel) ?_
    rw [← hQ]
    exact W.iret (v := (-1)) hx hb hr (fun t ht hW => ⟨_, rfl, ⟨hE.symm, trivial⟩, ht⟩) (fun q hq => by cases hq) dX8_byteAt_29
  · have c_69i := i_nlt (x := x.toInt) (y := 0) rfl rfl c_69
    replace hE := hE.trans (if_neg c_69)
    refine lv_iload_n hx hb dX8_byteAt_4 rfl (lv_at hl 1 rfl) ?_
    refine lv_aload_n hx hb dX8_byteAt_5 rfl (lv_at hl 0 rfl) ?_
    refine va_get (ci := 8) (v := .int ln) (C := RX8) (T := TX8) (N := 6) hx hb hts hw8 hown hK hP 0 rfl rfl 1 (by decide +kernel) (hts _ mm_X8_byteAt_206) (fun _ h9 => h9) rfl dX8_byteAt_6 ?_
    refine lv_icmp_ge (tgt := 28) hx hb dX8_byteAt_9 (by decide +kernel) (fun c_70 => ?_) (fun c_70 => ?_)
    · have c_70i := i_le (x := ln.toInt) (y := x.toInt) rfl rfl c_70
      replace hE := hE.trans (if_pos c_70)
      refine lv_iconst (v := (-1)) hx hb dX8_byteAt_28 (by decide +kernel) ?_
      rw [← hQ]
      exact W.iret (v := (-1)) hx hb hr (fun t ht hW => ⟨_, rfl, ⟨hE.symm, trivial⟩, ht⟩) (fun q hq => by cases hq) dX8_byteAt_29
    · have c_70i := i_nle (x := ln.toInt) (y := x.toInt) rfl rfl c_70
      replace hE := hE.trans (if_neg c_70)
      refine lv_iload_n hx hb dX8_byteAt_12 rfl (lv_at hl 1 rfl) ?_
      refine lv_sipush (v := 400) hx hb dX8_byteAt_13 (by decide +kernel) ?_
      refine lv_icmp_ge (tgt := 28) hx hb dX8_byteAt_16 (by decide +kernel) (fun c_71 => ?_) (fun c_71 => ?_)
      · have c_71i := i_le (x := 400) (y := x.toInt) rfl rfl c_71
        replace hE := hE.trans (if_pos c_71)
        refine lv_iconst (v := (-1)) hx hb dX8_byteAt_28 (by decide +kernel) ?_
        rw [← hQ]
        exact W.iret (v := (-1)) hx hb hr (fun t ht hW => ⟨_, rfl, ⟨hE.symm, trivial⟩, ht⟩) (fun q hq => by cases hq) dX8_byteAt_29
      · have c_71i := i_nle (x := 400) (y := x.toInt) rfl rfl c_71
        replace hE := hE.trans (if_neg c_71)
        refine lv_aload_n hx hb dX8_byteAt_19 rfl (lv_at hl 0 rfl) ?_
        refine va_get (ci := 8) (v := .ref a1) (C := RX8) (T := TX8) (N := 6) hx hb hts hw8 hown hK hP 0 rfl rfl 0 (by decide +kernel) (hts _ mm_X8_byteAt_205) (fun _ h9 => h9) rfl dX8_byteAt_20 ?_
        refine lv_iload_n hx hb dX8_byteAt_23 rfl (lv_at hl 1 rfl) ?_
        refine va_iald hx hb hK hP 1 0 rfl rfl (i_in rfl (by omega)) dX8_byteAt_24 ?_
        refine lv_topi (fun x_72 ex_72 => ?_)
        replace hE := hE.trans (Lt_in ex_72)
        refine lv_goto (tgt := 29) hx hb dX8_byteAt_25 (by decide +kernel) ?_
        rw [← hQ]
        exact W.iret (v := x_72) hx hb hr (fun t ht hW => ⟨_, rfl, ⟨hE.symm, trivial⟩, ht⟩) (fun q hq => by cases hq) dX8_byteAt_29
set_option maxRecDepth 100000 in
noncomputable def E_w_step_j272 (v_5504 : Int32) (v_7141 : Int32) (v_7721 : Int32) (v_7722 : Int32) : Int32 × Int32 × Int32 × Int32 :=
  ((v_5504, v_7721, v_7141, v_7722) : Int32 × Int32 × Int32 × Int32)
set_option maxRecDepth 100000 in
noncomputable def E_w_step_j193 (v_5504 : Int32) (v_7141 : Int32) (v_7721 : Int32) (v_7722 : Int32) : Int32 × Int32 × Int32 × Int32 :=
  E_w_step_j272 v_5504 v_7141 v_7721 v_7722
set_option maxRecDepth 100000 in
noncomputable def E_w_step_l148 (ln : Int32) (f : Nat → Int32) (v_5504 : Int32) (v_7141 : Int32) (rec_7849 : Int32 → Int32 → (Int32 × Int32 × Int32 × Int32)) (v_7721 : Int32) (v_7722 : Int32) : Int32 × Int32 × Int32 × Int32 :=
  if ln ≤ v_7721 then (E_w_step_j272 v_5504 v_7141 v_7721 v_7722) else (Lt (f (v_7721 : Int32).toNatClampNeg : Int32) (fun x_7884 => if v_7722 = (-1) then (E_w_step_j193 v_5504 v_7141 v_7721 v_7722) else (if x_7884 < 48 then (E_w_step_j193 v_5504 v_7141 v_7721 v_7722) else (if 57 < x_7884 then (E_w_step_j193 v_5504 v_7141 v_7721 v_7722) else (Lt (v_7722 * 10 : Int32) (fun x_7909 => Lt (x_7909 + x_7884 : Int32) (fun x_7910 => Lt (x_7910 - 48 : Int32) (fun x_7911 => Lt (if (x_7911 : Int32) < (1000000 : Int32) then (x_7911 : Int32) else (1000000 : Int32) : Int32) (fun x_7912 => Lt (v_7721 + 1 : Int32) (fun x_7913 => rec_7849 x_7913 x_7912))))))))))
set_option maxRecDepth 100000 in
noncomputable def E_w_step_j129 (ln : Int32) (f : Nat → Int32) (v_5504 : Int32) (v_7141 : Int32) (v_7142 : Int32) : Int32 × Int32 × Int32 × Int32 :=
  Lt (v_5504 + 1 : Int32) (fun x_7529 => Lt (if (x_7529 : Int32) < (ln : Int32) then (x_7529 : Int32) else (ln : Int32) : Int32) (fun x_7530 => Lp (α := Int32 → Int32 → (Int32 × Int32 × Int32 × Int32)) (E_w_step_l148 ln f v_5504 v_7141) (fun _ _ => ((0, 0, 0, 0) : Int32 × Int32 × Int32 × Int32)) ((400 - (x_7530 : Int32).toInt : Int).toNat + 1) x_7530 v_7142))
set_option maxRecDepth 100000 in
noncomputable def E_w_step_j272a (v_5504 : Int32) (x_7917 : Int32) (v_8030 : Int32) : Int32 × Int32 × Int32 × Int32 :=
  ((v_5504, v_8030, x_7917, (-1)) : Int32 × Int32 × Int32 × Int32)
set_option maxRecDepth 100000 in
noncomputable def E_w_step_l148a (ln : Int32) (f : Nat → Int32) (v_5504 : Int32) (x_7917 : Int32) (rec_8136 : Int32 → (Int32 × Int32 × Int32 × Int32)) (v_8030 : Int32) : Int32 × Int32 × Int32 × Int32 :=
  if ln ≤ v_8030 then (E_w_step_j272a v_5504 x_7917 v_8030) else (Lt (f (v_8030 : Int32).toNatClampNeg : Int32) (fun x_8166 => if x_8166 < 97 then (E_w_step_j272a v_5504 x_7917 v_8030) else (if 122 < x_8166 then (E_w_step_j272a v_5504 x_7917 v_8030) else (Lt (v_8030 + 1 : Int32) (fun x_8190 => rec_8136 x_8190)))))
set_option maxRecDepth 100000 in
noncomputable def E_w_step_j46 (ln : Int32) (f : Nat → Int32) (v_5504 : Int32) : Int32 × Int32 × Int32 × Int32 :=
  if ln ≤ v_5504 then (E_w_step_j129 ln f v_5504 (-1) (-1)) else (Lt (f (v_5504 : Int32).toNatClampNeg : Int32) (fun x_7917 => if x_7917 < 48 then (if x_7917 < 97 then (E_w_step_j129 ln f v_5504 x_7917 (-1)) else (((0, 0, 0, 0) : Int32 × Int32 × Int32 × Int32))) else (if 57 < x_7917 then (if x_7917 < 97 then (E_w_step_j129 ln f v_5504 x_7917 (-1)) else (if 122 < x_7917 then (E_w_step_j129 ln f v_5504 x_7917 (-1)) else (Lt (v_5504 + 1 : Int32) (fun x_7923 => Lt (if (x_7923 : Int32) < (ln : Int32) then (x_7923 : Int32) else (ln : Int32) : Int32) (fun x_7924 => Lp (α := Int32 → (Int32 × Int32 × Int32 × Int32)) (E_w_step_l148a ln f v_5504 x_7917) (fun _ => ((0, 0, 0, 0) : Int32 × Int32 × Int32 × Int32)) ((400 - (x_7924 : Int32).toInt : Int).toNat + 1) x_7924))))) else (Lt (x_7917 - 48 : Int32) (fun x_8191 => if x_7917 < 97 then (E_w_step_j129 ln f v_5504 x_7917 x_8191) else (((0, 0, 0, 0) : Int32 × Int32 × Int32 × Int32)))))))
set_option maxRecDepth 100000 in
noncomputable def E_w_step_l8 (ln : Int32) (f : Nat → Int32) (rec_5524 : Int32 → (Int32 × Int32 × Int32 × Int32)) (v_5504 : Int32) : Int32 × Int32 × Int32 × Int32 :=
  if ln ≤ v_5504 then (E_w_step_j46 ln f v_5504) else (Lt (f (v_5504 : Int32).toNatClampNeg : Int32) (fun x_8194 => if x_8194 = 32 then (Lt (v_5504 + 1 : Int32) (fun x_8196 => rec_5524 x_8196)) else (E_w_step_j46 ln f v_5504)))
set_option maxRecDepth 100000 in
noncomputable def E_w_step (ln : Int32) (fr : Int32) (to : Int32) (fi : Int32) (nu : Int32) (f : Nat → Int32) : Int32 × Int32 × Int32 × Int32 :=
  Lp (α := Int32 → (Int32 × Int32 × Int32 × Int32)) (E_w_step_l8 ln f) (fun _ => ((0, 0, 0, 0) : Int32 × Int32 × Int32 × Int32)) ((400 - (to : Int32).toInt : Int).toNat + 1) to
set_option maxHeartbeats 4000000 in
set_option maxRecDepth 100000 in
theorem w_step (l : Launch) (D : va_G) (K : Nat → ClassId) (a0 : Nat) (a1 : Nat) (ln : Int32) (fr : Int32) (to : Int32) (fi : Int32) (nu : Int32) (f : Nat → Int32) (sz : Nat) (zln : 0 ≤ ln.toInt ∧ ln.toInt ≤ 400) (zto : 0 ≤ to.toInt ∧ to.toInt ≤ 400) : Met l yX8_step wsX8_step ({ frames := 1, cells := 0, slots := 0, locals := 14 }) (va_Pc [.ref a0] (Pre D K [(a0, .inr (8, [.ref a1, .int ln, .int fr, .int to, .int fi, .int nu])), (a1, .inl (K 0, 400, .inl f))] sz)) (va_Qv (S := Su) (fun (u : Su) => (0 ≤ (u.2.2.2.1 0).toInt ∧ (u.2.2.2.1 0).toInt ≤ 400) ∧ (0 ≤ (u.2.2.2.1 1).toInt ∧ (u.2.2.2.1 1).toInt ≤ 400) ∧ ((-1) ≤ (u.2.2.2.1 3).toInt ∧ (u.2.2.2.1 3).toInt ≤ 1000000) ∧ (((u.2.2.2.1 0), (u.2.2.2.1 1), (u.2.2.2.1 2), (u.2.2.2.1 3)) = E_w_step ln fr to fi nu f) ∧ True) (fun u t => Wd D (va_A [(a0, .inr (8, [.ref a1, .int ln, .int fr, .int to, .int fi, .int nu])), (a1, .inl (K 0, 400, .inl f))] sz) ((fun u => [(a0, .inr (8, [.ref a1, .int ln, .int (u.2.2.2.1 0), .int (u.2.2.2.1 1), .int (u.2.2.2.1 2), .int (u.2.2.2.1 3)])), (a1, .inl (K 0, 400, .inl f))]) u) t) (va_A [(a0, .inr (8, [.ref a1, .int ln, .int fr, .int to, .int fi, .int nu])), (a1, .inl (K 0, 400, .inl f))] sz)) 0 0 (va_A [(a0, .inr (8, [.ref a1, .int ln, .int fr, .int to, .int fi, .int nu])), (a1, .inl (K 0, 400, .inl f))] sz) := by
  refine Met.ofW (cc := cX8_step) (maxL := 5) (ret := none) (by decide +kernel) rfl ?_
  intro p e s m args below meth c s₁ B hml hv
  obtain ⟨rfl, hsz, hP, hK, hD0, hN⟩ := hv
  have hx := B.exec
  have hb := B.bytes
  have hr := B.returns
  have hts := atoms_spec (ws := wsX8_step) B.pre
  have hown : s.vm.findClass RX8 = some m.cls := findClass_of_methodNamed B.named
  have hlocks := B.notSynchronized
  subst hsz
  have hD := hD0.self (sz := s.heap.size)
  generalize hAe : va_A [(a0, .inr (8, [.ref a1, .int ln, .int fr, .int to, .int fi, .int nu])), (a1, .inl (K 0, 400, .inl f))] s.heap.size = A at hD ⊢
  have hA : ∀ q : Nat, s.heap.size ≤ q → A q := fun q h => by rw [← hAe]; exact Or.inr h
  clear hAe
  have hS : va_S A s.heap s.heap [] := va_S.rf
  replace hP : va_P D vwCl [(a0, .inr (8, [.ref a1, .int ln, .int fr, .int to, .int fi, .int nu])), (a1, .inl (K 0, 400, .inl f))] s.heap := hP
  have hl := lv_entry [.ref a0] (n := 5) (Nat.le_of_ble_eq_true rfl)
  rw [lg_entry_eq]
  generalize (lg_sl [.ref a0] ++ List.replicate (5 - (lg_sl [.ref a0]).length) Slot.unset).toArray = ls at hl ⊢
  have hl : lv_has ls 5 [(0, .ref a0)] := hl
  have hw8 : ∀ w ∈ wsX80, w ∈ wsX8_step := fun w h => (List.mem_cons_of_mem _ (List.mem_append_right _ h))
  generalize hQ : MQ below _ _ s _ _ _ = Q
  have hE := E_w_step.eq_def ln fr to fi nu f
  refine lv_aload_n hx hb dX8_step_0 rfl (lv_at hl 0 rfl) ?_
  refine lv_aload_n hx hb dX8_step_1 rfl (lv_at hl 0 rfl) ?_
  refine va_get (ci := 8) (v := .int to) (C := RX8) (T := TX8) (N := 6) hx hb hts hw8 hown hK hP 0 rfl rfl 3 (by decide +kernel) (hts _ mm_X8_step_208) (fun _ h9 => h9) rfl dX8_step_2 ?_
  refine va_put (ci := 8) (v := .int to) (ty := .int) (C := RX8) (T := TX8) (N := 6) hx hb hts hw8 tyX8 tyX8_ok nmX8 hown hK hP hD hS 0 rfl rfl 2 (by decide +kernel) (hts _ mm_X8_step_207) (fun _ h9 => h9) rfl (by decide +kernel) (by first | rfl | decide) (by first | rfl | decide) (Nat.le_of_ble_eq_true rfl) dX8_step_5 (fun H locs hP0 hD0 hS0 => ?_)
  clear hP hD hS
  have hP := hP0
  have hD := hD0
  have hS := hS0
  clear hP0 hD0 hS0
  replace hP : va_P D vwCl [(a0, .inr (8, [.ref a1, .int ln, .int to, .int to, .int fi, .int nu])), (a1, .inl (K 0, 400, .inl f))] H := hP
  replace hD : va_D A [(a0, .inr (8, [.ref a1, .int ln, .int to, .int to, .int fi, .int nu])), (a1, .inl (K 0, 400, .inl f))] := hD
  have lp_5524 : ∀ (nn_ : Nat) (v_5504 : Int32) (hv_5504 : 0 ≤ v_5504.toInt ∧ v_5504.toInt ≤ 400) (hn : (400 - v_5504.toInt : Int).toNat < nn_) (hE : E_w_step ln fr to fi nu f = Lp (α := Int32 → (Int32 × Int32 × Int32 × Int32)) (E_w_step_l8 ln f) (fun _ => ((0, 0, 0, 0) : Int32 × Int32 × Int32 × Int32)) nn_ v_5504) (H : Heap) (locs : List Loc) (hP : va_P D vwCl [(a0, .inr (8, [.ref a1, .int ln, .int v_5504, .int to, .int fi, .int nu])), (a1, .inl (K 0, 400, .inl f))] H) (hD : va_D A [(a0, .inr (8, [.ref a1, .int ln, .int v_5504, .int to, .int fi, .int nu])), (a1, .inl (K 0, 400, .inl f))]) (hS : va_S A s.heap H locs) (ls : Array Slot) (hl : lv_has ls 5 [(0, .ref a0)]), W p l e ({ frames := 1, cells := 0, slots := 0, locals := 14 }) s m (([.ref a0] : List Value).toArray) below meth c H locs 0 0 Q (F0 m 8 ls []) := by
    clear hE hP hD hS hl
    intro nn_
    induction nn_ with
    | zero =>
      intro v_5504 hv_5504 hn hE H locs hP hD hS ls hl
      exact absurd hn (Nat.not_lt_zero _)
    | succ nn_ ih_5525 =>
      intro v_5504 hv_5504 hn hE H locs hP hD hS ls hl
      replace hE : E_w_step ln fr to fi nu f = E_w_step_l8 ln f (Lp (α := Int32 → (Int32 × Int32 × Int32 × Int32)) (E_w_step_l8 ln f) (fun _ => ((0, 0, 0, 0) : Int32 × Int32 × Int32 × Int32)) nn_) v_5504 := hE
      obtain ⟨rec_5524, hrec_5524⟩ : ∃ z9, z9 = Lp (α := Int32 → (Int32 × Int32 × Int32 × Int32)) (E_w_step_l8 ln f) (fun _ => ((0, 0, 0, 0) : Int32 × Int32 × Int32 × Int32)) nn_ := ⟨_, rfl⟩
      rw [← hrec_5524] at hE
      replace hE := hE.trans (E_w_step_l8.eq_def _ _ _ _)
      refine lv_aload_n hx hb dX8_step_8 rfl (lv_at hl 0 rfl) ?_
      refine va_get (ci := 8) (v := .int v_5504) (C := RX8) (T := TX8) (N := 6) hx hb hts hw8 hown hK hP 0 rfl rfl 2 (by decide +kernel) (hts _ mm_X8_step_207) (fun _ h9 => h9) rfl dX8_step_9 ?_
      refine lv_aload_n hx hb dX8_step_12 rfl (lv_at hl 0 rfl) ?_
      refine va_get (ci := 8) (v := .int ln) (C := RX8) (T := TX8) (N := 6) hx hb hts hw8 hown hK hP 0 rfl rfl 1 (by decide +kernel) (hts _ mm_X8_step_206) (fun _ h9 => h9) rfl dX8_step_13 ?_
      have j_6861 : ∀ (hE : E_w_step ln fr to fi nu f = E_w_step_j46 ln f v_5504) (H : Heap) (locs : List Loc) (hP : va_P D vwCl [(a0, .inr (8, [.ref a1, .int ln, .int v_5504, .int to, .int fi, .int nu])), (a1, .inl (K 0, 400, .inl f))] H) (hD : va_D A [(a0, .inr (8, [.ref a1, .int ln, .int v_5504, .int to, .int fi, .int nu])), (a1, .inl (K 0, 400, .inl f))]) (hS : va_S A s.heap H locs) (ls : Array Slot) (hl : lv_has ls 5 [(0, .ref a0)]), W p l e ({ frames := 1, cells := 0, slots := 0, locals := 14 }) s m (([.ref a0] : List Value).toArray) below meth c H locs 0 0 Q (F0 m 46 ls []) := by
        clear hE hP hD hS hl
        intro hE H locs hP hD hS ls hl
        replace hE := hE.trans (E_w_step_j46.eq_def _ _ _)
        refine lv_aload_n hx hb dX8_step_46 rfl (lv_at hl 0 rfl) ?_
        refine lv_aload_n hx hb dX8_step_47 rfl (lv_at hl 0 rfl) ?_
        refine va_get (ci := 8) (v := .int v_5504) (C := RX8) (T := TX8) (N := 6) hx hb hts hw8 hown hK hP 0 rfl rfl 2 (by decide +kernel) (hts _ mm_X8_step_207) (fun _ h9 => h9) rfl dX8_step_48 ?_
        refine lv_aload_n hx hb dX8_step_51 rfl (lv_at hl 0 rfl) ?_
        refine va_get (ci := 8) (v := .int ln) (C := RX8) (T := TX8) (N := 6) hx hb hts hw8 hown hK hP 0 rfl rfl 1 (by decide +kernel) (hts _ mm_X8_step_206) (fun _ h9 => h9) rfl dX8_step_52 ?_
        have j_7528 : ∀ (v_7141 : Int32) (v_7142 : Int32) (hv_7142 : (-1) ≤ v_7142.toInt ∧ v_7142.toInt ≤ 9) (hE : E_w_step ln fr to fi nu f = E_w_step_j129 ln f v_5504 v_7141 v_7142) (H : Heap) (locs : List Loc) (hP : va_P D vwCl [(a0, .inr (8, [.ref a1, .int ln, .int v_5504, .int to, .int v_7141, .int v_7142])), (a1, .inl (K 0, 400, .inl f))] H) (hD : va_D A [(a0, .inr (8, [.ref a1, .int ln, .int v_5504, .int to, .int v_7141, .int v_7142])), (a1, .inl (K 0, 400, .inl f))]) (hS : va_S A s.heap H locs) (ls : Array Slot) (hl : lv_has ls 5 [(0, .ref a0)]), W p l e ({ frames := 1, cells := 0, slots := 0, locals := 14 }) s m (([.ref a0] : List Value).toArray) below meth c H locs 0 0 Q (F0 m 129 ls []) := by
          clear hE hP hD hS hl
          intro v_7141 v_7142 hv_7142 hE H locs hP hD hS ls hl
          replace hE := hE.trans (E_w_step_j129.eq_def _ _ _ _ _)
          refine lv_iconst (v := 0) hx hb dX8_step_129 (by decide +kernel) ?_
          refine lv_istore_n (lv' := [(1, .int 0), (0, .ref a0)]) hx hb dX8_step_130 rfl hl (by decide +kernel) rfl (fun ls hl => ?_)
          refine lv_aload_n hx hb dX8_step_131 rfl (lv_at hl 1 rfl) ?_
          refine lv_aload_n hx hb dX8_step_132 rfl (lv_at hl 1 rfl) ?_
          refine va_get (ci := 8) (v := .int ln) (C := RX8) (T := TX8) (N := 6) hx hb hts hw8 hown hK hP 0 rfl rfl 1 (by decide +kernel) (hts _ mm_X8_step_206) (fun _ h9 => h9) rfl dX8_step_133 ?_
          refine lv_aload_n hx hb dX8_step_136 rfl (lv_at hl 1 rfl) ?_
          refine va_get (ci := 8) (v := .int v_5504) (C := RX8) (T := TX8) (N := 6) hx hb hts hw8 hown hK hP 0 rfl rfl 2 (by decide +kernel) (hts _ mm_X8_step_207) (fun _ h9 => h9) rfl dX8_step_137 ?_
          refine lv_iconst (v := 1) hx hb dX8_step_140 (by decide +kernel) ?_
          refine lv_iadd hx hb dX8_step_141 ?_
          refine lv_topi (fun x_7529 ex_7529 => ?_)
          replace hE := hE.trans (Lt_in ex_7529)
          have hx_7529 : x_7529.toInt = (v_5504.toInt + 1) := by rw [ex_7529]; exact i_add rfl (show (1 : Int32).toInt = 1 from rfl) (by omega)
          refine va_mmin hx hb (hml.trans hl.1.symm) hown (hts _ mm_X8_step_473) (hts _ mm_X8_step_426) (hts _ mm_X8_step_157) (hts _ mm_X8_step_427) (Nat.le_of_ble_eq_true rfl) (Nat.le_of_ble_eq_true rfl) (Nat.le_of_ble_eq_true rfl) (Nat.le_of_ble_eq_true rfl) dX8_step_142 ?_
          refine lv_topi (fun x_7530 ex_7530 => ?_)
          replace hE := hE.trans (Lt_in ex_7530)
          have hx_7530 : (ln.toInt ≤ (v_5504.toInt + 1) ∧ x_7530.toInt = ln.toInt) ∨ ((v_5504.toInt + 1) < ln.toInt ∧ x_7530.toInt = (v_5504.toInt + 1)) := by rw [ex_7530]; exact i_min rfl hx_7529
          replace hx_7530 : x_7530.toInt ≤ ln.toInt ∧ x_7530.toInt ≤ (v_5504.toInt + 1) ∧ 0 ≤ x_7530.toInt ∧ x_7530.toInt ≤ 400 := by omega
          refine va_put (ci := 8) (v := .int x_7530) (ty := .int) (C := RX8) (T := TX8) (N := 6) hx hb hts hw8 tyX8 tyX8_ok nmX8 hown hK hP hD hS 0 rfl rfl 3 (by decide +kernel) (hts _ mm_X8_step_208) (fun _ h9 => h9) rfl (by decide +kernel) (by first | rfl | decide) (by first | rfl | decide) (Nat.le_of_ble_eq_true rfl) dX8_step_145 (fun H locs hP0 hD0 hS0 => ?_)
          clear hP hD hS
          have hP := hP0
          have hD := hD0
          have hS := hS0
          clear hP0 hD0 hS0
          replace hP : va_P D vwCl [(a0, .inr (8, [.ref a1, .int ln, .int v_5504, .int x_7530, .int v_7141, .int v_7142])), (a1, .inl (K 0, 400, .inl f))] H := hP
          replace hD : va_D A [(a0, .inr (8, [.ref a1, .int ln, .int v_5504, .int x_7530, .int v_7141, .int v_7142])), (a1, .inl (K 0, 400, .inl f))] := hD
          have lp_7849 : ∀ (nn_ : Nat) (v_7721 : Int32) (v_7722 : Int32) (hv_7721 : 0 ≤ v_7721.toInt ∧ v_7721.toInt ≤ 400) (hv_7722 : (-1) ≤ v_7722.toInt ∧ v_7722.toInt ≤ 1000000) (hn : (400 - v_7721.toInt : Int).toNat < nn_) (hE : E_w_step ln fr to fi nu f = Lp (α := Int32 → Int32 → (Int32 × Int32 × Int32 × Int32)) (E_w_step_l148 ln f v_5504 v_7141) (fun _ _ => ((0, 0, 0, 0) : Int32 × Int32 × Int32 × Int32)) nn_ v_7721 v_7722) (H : Heap) (locs : List Loc) (hP : va_P D vwCl [(a0, .inr (8, [.ref a1, .int ln, .int v_5504, .int v_7721, .int v_7141, .int v_7722])), (a1, .inl (K 0, 400, .inl f))] H) (hD : va_D A [(a0, .inr (8, [.ref a1, .int ln, .int v_5504, .int v_7721, .int v_7141, .int v_7722])), (a1, .inl (K 0, 400, .inl f))]) (hS : va_S A s.heap H locs) (ls : Array Slot) (hl : lv_has ls 5 [(1, .int 0), (0, .ref a0)]), W p l e ({ frames := 1, cells := 0, slots := 0, locals := 14 }) s m (([.ref a0] : List Value).toArray) below meth c H locs 0 0 Q (F0 m 148 ls []) := by
            clear hE hP hD hS hl
            intro nn_
            induction nn_ with
            | zero =>
              intro v_7721 v_7722 hv_7721 hv_7722 hn hE H locs hP hD hS ls hl
              exact absurd hn (Nat.not_lt_zero _)
            | succ nn_ ih_7850 =>
              intro v_7721 v_7722 hv_7721 hv_7722 hn hE H locs hP hD hS ls hl
              replace hE : E_w_step ln fr to fi nu f = E_w_step_l148 ln f v_5504 v_7141 (Lp (α := Int32 → Int32 → (Int32 × Int32 × Int32 × Int32)) (E_w_step_l148 ln f v_5504 v_7141) (fun _ _ => ((0, 0, 0, 0) : Int32 × Int32 × Int32 × Int32)) nn_) v_7721 v_7722 := hE
              obtain ⟨rec_7849, hrec_7849⟩ : ∃ z9, z9 = Lp (α := Int32 → Int32 → (Int32 × Int32 × Int32 × Int32)) (E_w_step_l148 ln f v_5504 v_7141) (fun _ _ => ((0, 0, 0, 0) : Int32 × Int32 × Int32 × Int32)) nn_ := ⟨_, rfl⟩
              rw [← hrec_7849] at hE
              replace hE := hE.trans (E_w_step_l148.eq_def _ _ _ _ _ _ _)
              refine lv_aload_n hx hb dX8_step_148 rfl (lv_at hl 1 rfl) ?_
              refine va_get (ci := 8) (v := .int v_7721) (C := RX8) (T := TX8) (N := 6) hx hb hts hw8 hown hK hP 0 rfl rfl 3 (by decide +kernel) (hts _ mm_X8_step_208) (fun _ h9 => h9) rfl dX8_step_149 ?_
              refine lv_aload_n hx hb dX8_step_152 rfl (lv_at hl 1 rfl) ?_
              refine va_get (ci := 8) (v := .int ln) (C := RX8) (T := TX8) (N := 6) hx hb hts hw8 hown hK hP 0 rfl rfl 1 (by decide +kernel) (hts _ mm_X8_step_206) (fun _ h9 => h9) rfl dX8_step_153 ?_
              have j_7882 : ∀ (hE : E_w_step ln fr to fi nu f = E_w_step_j272 v_5504 v_7141 v_7721 v_7722) (H : Heap) (locs : List Loc) (hP : va_P D vwCl [(a0, .inr (8, [.ref a1, .int ln, .int v_5504, .int v_7721, .int v_7141, .int v_7722])), (a1, .inl (K 0, 400, .inl f))] H) (hD : va_D A [(a0, .inr (8, [.ref a1, .int ln, .int v_5504, .int v_7721, .int v_7141, .int v_7722])), (a1, .inl (K 0, 400, .inl f))]) (hS : va_S A s.heap H locs) (ls : Array Slot) (hl : lv_has ls 5 []), W p l e ({ frames := 1, cells := 0, slots := 0, locals := 14 }) s m (([.ref a0] : List Value).toArray) below meth c H locs 0 0 Q (F0 m 272 ls []) := by
                clear hE hP hD hS hl
                intro hE H locs hP hD hS ls hl
                replace hE := hE.trans (E_w_step_j272.eq_def _ _ _ _)
                rw [← hQ]
                have hP9 := hP.sub (ws' := [(a0, .inr (8, [.ref a1, .int ln, .int v_5504, .int v_7721, .int v_7141, .int v_7722])), (a1, .inl (K 0, 400, .inl f))]) [0, 1] rfl
                have hD9 := hD.sub (ws' := [(a0, .inr (8, [.ref a1, .int ln, .int v_5504, .int v_7721, .int v_7141, .int v_7722])), (a1, .inl (K 0, 400, .inl f))]) [0, 1] (by decide +kernel) rfl
                exact W.vret hx hb hr (fun t ht hW => ⟨⟨((fun _ => 0, fun _ => fun _ => 0, fun _ => fun _ => 0, fun i => match i with | 0 => v_5504 | 1 => v_7721 | 2 => v_7141 | _ => v_7722, fun _ => 0, fun _ => fun _ => none) : Su), rfl, ⟨(show 0 ≤ (v_5504 : Int32).toInt ∧ (v_5504 : Int32).toInt ≤ 400 by omega), (show 0 ≤ (v_7721 : Int32).toInt ∧ (v_7721 : Int32).toInt ≤ 400 by omega), (show (-1) ≤ (v_7722 : Int32).toInt ∧ (v_7722 : Int32).toInt ≤ 1000000 by omega), hE.symm, trivial⟩, (⟨by rw [ht]; exact hP9, hD9⟩ : Wd D A _ t)⟩, hS.F ht⟩) hS.2.2 dX8_step_272
              refine lv_icmp_ge (tgt := 272) hx hb dX8_step_156 (by decide +kernel) (fun c_7883 => ?_) (fun c_7883 => ?_)
              · have c_7883i := i_le (x := ln.toInt) (y := v_7721.toInt) rfl rfl c_7883
                replace hE := hE.trans (if_pos c_7883)
                exact j_7882   hE _ _ hP hD hS ls (lv_sub hl [] rfl)
              · have c_7883i := i_nle (x := ln.toInt) (y := v_7721.toInt) rfl rfl c_7883
                replace hE := hE.trans (if_neg c_7883)
                refine lv_aload_n hx hb dX8_step_159 rfl (lv_at hl 1 rfl) ?_
                refine va_get (ci := 8) (v := .ref a1) (C := RX8) (T := TX8) (N := 6) hx hb hts hw8 hown hK hP 0 rfl rfl 0 (by decide +kernel) (hts _ mm_X8_step_205) (fun _ h9 => h9) rfl dX8_step_160 ?_
                refine lv_aload_n hx hb dX8_step_163 rfl (lv_at hl 1 rfl) ?_
                refine va_get (ci := 8) (v := .int v_7721) (C := RX8) (T := TX8) (N := 6) hx hb hts hw8 hown hK hP 0 rfl rfl 3 (by decide +kernel) (hts _ mm_X8_step_208) (fun _ h9 => h9) rfl dX8_step_164 ?_
                refine va_iald hx hb hK hP 1 0 rfl rfl (i_in rfl (by omega)) dX8_step_167 ?_
                refine lv_topi (fun x_7884 ex_7884 => ?_)
                replace hE := hE.trans (Lt_in ex_7884)
                refine lv_istore_n (lv' := [(2, .int x_7884), (1, .int 0), (0, .ref a0)]) hx hb dX8_step_168 rfl hl (by decide +kernel) rfl (fun ls hl => ?_)
                refine lv_aload_n hx hb dX8_step_169 rfl (lv_at hl 2 rfl) ?_
                refine va_get (ci := 8) (v := .int v_7722) (C := RX8) (T := TX8) (N := 6) hx hb hts hw8 hown hK hP 0 rfl rfl 5 (by decide +kernel) (hts _ mm_X8_step_210) (fun _ h9 => h9) rfl dX8_step_170 ?_
                refine lv_iconst (v := (-1)) hx hb dX8_step_173 (by decide +kernel) ?_
                have j_7899 : ∀ (hE : E_w_step ln fr to fi nu f = E_w_step_j193 v_5504 v_7141 v_7721 v_7722) (H : Heap) (locs : List Loc) (hP : va_P D vwCl [(a0, .inr (8, [.ref a1, .int ln, .int v_5504, .int v_7721, .int v_7141, .int v_7722])), (a1, .inl (K 0, 400, .inl f))] H) (hD : va_D A [(a0, .inr (8, [.ref a1, .int ln, .int v_5504, .int v_7721, .int v_7141, .int v_7722])), (a1, .inl (K 0, 400, .inl f))]) (hS : va_S A s.heap H locs) (ls : Array Slot) (hl : lv_has ls 5 [(2, .int x_7884), (1, .int 0), (0, .ref a0)]), W p l e ({ frames := 1, cells := 0, slots := 0, locals := 14 }) s m (([.ref a0] : List Value).toArray) below meth c H locs 0 0 Q (F0 m 193 ls []) := by
                  clear hE hP hD hS hl
                  intro hE H locs hP hD hS ls hl
                  replace hE := hE.trans (E_w_step_j193.eq_def _ _ _ _)
                  refine lv_iconst (v := 0) hx hb dX8_step_193 (by decide +kernel) ?_
                  refine lv_istore_n (lv' := [(3, .int 0), (2, .int x_7884), (1, .int 0), (0, .ref a0)]) hx hb dX8_step_194 rfl hl (by decide +kernel) rfl (fun ls hl => ?_)
                  refine lv_iload_n hx hb dX8_step_195 rfl (lv_at hl 2 rfl) ?_
                  refine lv_if_eq (tgt := 215) hx hb dX8_step_196 (by decide +kernel) (fun c_7900 => ?_) (fun c_7900 => absurd (by decide +kernel) c_7900)
                  refine lv_iconst (v := 0) hx hb dX8_step_215 (by decide +kernel) ?_
                  refine lv_istore (lv' := [(4, .int 0), (3, .int 0), (2, .int x_7884), (1, .int 0), (0, .ref a0)]) hx hb dX8_step_216 hl (by decide +kernel) rfl (fun ls hl => ?_)
                  refine lv_iload_n hx hb dX8_step_218 rfl (lv_at hl 1 rfl) ?_
                  refine lv_if_ne (tgt := 230) hx hb dX8_step_219 (by decide +kernel) (fun c_7901 => absurd (by decide +kernel) c_7901) (fun c_7901 => ?_)
                  refine lv_iload hx hb dX8_step_222 (lv_at hl 0 rfl) ?_
                  refine lv_if_ne (tgt := 230) hx hb dX8_step_224 (by decide +kernel) (fun c_7902 => absurd (by decide +kernel) c_7902) (fun c_7902 => ?_)
                  refine lv_goto (tgt := 272) hx hb dX8_step_227 (by decide +kernel) ?_
                  exact j_7882   hE _ _ hP hD hS ls (lv_sub hl [] rfl)
                refine lv_icmp_eq (tgt := 193) hx hb dX8_step_174 (by decide +kernel) (fun c_7903 => ?_) (fun c_7903 => ?_)
                · have c_7903i := i_eq (x := v_7722.toInt) (y := (-1)) rfl rfl c_7903
                  replace hE := hE.trans (if_pos c_7903)
                  exact j_7899   hE _ _ hP hD hS ls (lv_sub hl [0, 1, 2] rfl)
                · have c_7903i := i_ne (x := v_7722.toInt) (y := (-1)) rfl rfl c_7903
                  replace hE := hE.trans (if_neg c_7903)
                  refine lv_iload_n hx hb dX8_step_177 rfl (lv_at hl 0 rfl) ?_
                  refine lv_bipush (v := 48) hx hb dX8_step_178 (by decide +kernel) ?_
                  refine lv_icmp_lt (tgt := 193) hx hb dX8_step_180 (by decide +kernel) (fun c_7904 => ?_) (fun c_7904 => ?_)
                  · have c_7904i := i_lt (x := x_7884.toInt) (y := 48) rfl rfl c_7904
                    replace hE := hE.trans (if_pos c_7904)
                    exact j_7899   hE _ _ hP hD hS ls (lv_sub hl [0, 1, 2] rfl)
                  · have c_7904i := i_nlt (x := x_7884.toInt) (y := 48) rfl rfl c_7904
                    replace hE := hE.trans (if_neg c_7904)
                    refine lv_iload_n hx hb dX8_step_183 rfl (lv_at hl 0 rfl) ?_
                    refine lv_bipush (v := 57) hx hb dX8_step_184 (by decide +kernel) ?_
                    refine lv_icmp_gt (tgt := 193) hx hb dX8_step_186 (by decide +kernel) (fun c_7905 => ?_) (fun c_7905 => ?_)
                    · have c_7905i := i_lt (x := 57) (y := x_7884.toInt) rfl rfl c_7905
                      replace hE := hE.trans (if_pos c_7905)
                      exact j_7899   hE _ _ hP hD hS ls (lv_sub hl [0, 1, 2] rfl)
                    · have c_7905i := i_nlt (x := 57) (y := x_7884.toInt) rfl rfl c_7905
                      replace hE := hE.trans (if_neg c_7905)
                      refine lv_iconst (v := 1) hx hb dX8_step_189 (by decide +kernel) ?_
                      refine lv_goto (tgt := 194) hx hb dX8_step_190 (by decide +kernel) ?_
                      refine lv_istore_n (lv' := [(3, .int 1), (2, .int x_7884), (1, .int 0), (0, .ref a0)]) hx hb dX8_step_194 rfl hl (by decide +kernel) rfl (fun ls hl => ?_)
                      refine lv_iload_n hx hb dX8_step_195 rfl (lv_at hl 2 rfl) ?_
                      refine lv_if_eq (tgt := 215) hx hb dX8_step_196 (by decide +kernel) (fun c_7906 => ?_) (fun c_7906 => absurd (by decide +kernel) c_7906)
                      refine lv_iconst (v := 0) hx hb dX8_step_215 (by decide +kernel) ?_
                      refine lv_istore (lv' := [(4, .int 0), (3, .int 1), (2, .int x_7884), (1, .int 0), (0, .ref a0)]) hx hb dX8_step_216 hl (by decide +kernel) rfl (fun ls hl => ?_)
                      refine lv_iload_n hx hb dX8_step_218 rfl (lv_at hl 1 rfl) ?_
                      refine lv_if_ne (tgt := 230) hx hb dX8_step_219 (by decide +kernel) (fun c_7907 => ?_) (fun c_7907 => absurd c_7907 (by decide +kernel))
                      refine lv_aload_n hx hb dX8_step_230 rfl (lv_at hl 4 rfl) ?_
                      refine lv_iload_n hx hb dX8_step_231 rfl (lv_at hl 1 rfl) ?_
                      refine lv_if_eq (tgt := 255) hx hb dX8_step_232 (by decide +kernel) (fun c_7908 => absurd c_7908 (by decide +kernel)) (fun c_7908 => ?_)
                      refine lv_ldc (v := 1000000) hx hb hown (hts _ mm_X8_step_474) dX8_step_235 ?_
                      refine lv_aload_n hx hb dX8_step_237 rfl (lv_at hl 4 rfl) ?_
                      refine va_get (ci := 8) (v := .int v_7722) (C := RX8) (T := TX8) (N := 6) hx hb hts hw8 hown hK hP 0 rfl rfl 5 (by decide +kernel) (hts _ mm_X8_step_210) (fun _ h9 => h9) rfl dX8_step_238 ?_
                      refine lv_bipush (v := 10) hx hb dX8_step_241 (by decide +kernel) ?_
                      refine lv_imul hx hb dX8_step_243 ?_
                      refine lv_topi (fun x_7909 ex_7909 => ?_)
                      replace hE := hE.trans (Lt_in ex_7909)
                      have hx_7909 : x_7909.toInt = (v_7722.toInt * 10) := by rw [ex_7909]; exact i_mul rfl (show (10 : Int32).toInt = 10 from rfl) (by omega)
                      refine lv_iload_n hx hb dX8_step_244 rfl (lv_at hl 2 rfl) ?_
                      refine lv_iadd hx hb dX8_step_245 ?_
                      refine lv_topi (fun x_7910 ex_7910 => ?_)
                      replace hE := hE.trans (Lt_in ex_7910)
                      have hx_7910 : x_7910.toInt = ((v_7722.toInt * 10) + x_7884.toInt) := by rw [ex_7910]; exact i_add hx_7909 rfl (by omega)
                      refine lv_bipush (v := 48) hx hb dX8_step_246 (by decide +kernel) ?_
                      refine lv_isub hx hb dX8_step_248 ?_
                      refine lv_topi (fun x_7911 ex_7911 => ?_)
                      replace hE := hE.trans (Lt_in ex_7911)
                      have hx_7911 : x_7911.toInt = (((v_7722.toInt * 10) + x_7884.toInt) - 48) := by rw [ex_7911]; exact i_sub hx_7910 (show (48 : Int32).toInt = 48 from rfl) (by omega)
                      refine va_mmin hx hb (hml.trans hl.1.symm) hown (hts _ mm_X8_step_473) (hts _ mm_X8_step_426) (hts _ mm_X8_step_157) (hts _ mm_X8_step_427) (Nat.le_of_ble_eq_true rfl) (Nat.le_of_ble_eq_true rfl) (Nat.le_of_ble_eq_true rfl) (Nat.le_of_ble_eq_true rfl) dX8_step_249 ?_
                      refine lv_topi (fun x_7912 ex_7912 => ?_)
                      replace hE := hE.trans (Lt_in ex_7912)
                      have hx_7912 : (1000000 ≤ (((v_7722.toInt * 10) + x_7884.toInt) - 48) ∧ x_7912.toInt = 1000000) ∨ ((((v_7722.toInt * 10) + x_7884.toInt) - 48) < 1000000 ∧ x_7912.toInt = (((v_7722.toInt * 10) + x_7884.toInt) - 48)) := by rw [ex_7912]; exact i_min (show (1000000 : Int32).toInt = 1000000 from rfl) hx_7911
                      replace hx_7912 : x_7912.toInt ≤ (((v_7722.toInt * 10) + x_7884.toInt) - 48) ∧ 0 ≤ x_7912.toInt ∧ x_7912.toInt ≤ 1000000 := by omega
                      refine lv_goto (tgt := 256) hx hb dX8_step_252 (by decide +kernel) ?_
                      refine va_put (ci := 8) (v := .int x_7912) (ty := .int) (C := RX8) (T := TX8) (N := 6) hx hb hts hw8 tyX8 tyX8_ok nmX8 hown hK hP hD hS 0 rfl rfl 5 (by decide +kernel) (hts _ mm_X8_step_210) (fun _ h9 => h9) rfl (by decide +kernel) (by first | rfl | decide) (by first | rfl | decide) (Nat.le_of_ble_eq_true rfl) dX8_step_256 (fun H locs hP0 hD0 hS0 => ?_)
                      clear hP hD hS
                      have hP := hP0
                      have hD := hD0
                      have hS := hS0
                      clear hP0 hD0 hS0
                      replace hP : va_P D vwCl [(a0, .inr (8, [.ref a1, .int ln, .int v_5504, .int v_7721, .int v_7141, .int x_7912])), (a1, .inl (K 0, 400, .inl f))] H := hP
                      replace hD : va_D A [(a0, .inr (8, [.ref a1, .int ln, .int v_5504, .int v_7721, .int v_7141, .int x_7912])), (a1, .inl (K 0, 400, .inl f))] := hD
                      refine lv_aload_n hx hb dX8_step_259 rfl (lv_at hl 4 rfl) ?_
                      refine lv_dup hx hb dX8_step_260 rfl ?_
                      refine va_get (ci := 8) (v := .int v_7721) (C := RX8) (T := TX8) (N := 6) hx hb hts hw8 hown hK hP 0 rfl rfl 3 (by decide +kernel) (hts _ mm_X8_step_208) (fun _ h9 => h9) rfl dX8_step_261 ?_
                      refine lv_iconst (v := 1) hx hb dX8_step_264 (by decide +kernel) ?_
                      refine lv_iadd hx hb dX8_step_265 ?_
                      refine lv_topi (fun x_7913 ex_7913 => ?_)
                      replace hE := hE.trans (Lt_in ex_7913)
                      have hx_7913 : x_7913.toInt = (v_7721.toInt + 1) := by rw [ex_7913]; exact i_add rfl (show (1 : Int32).toInt = 1 from rfl) (by omega)
                      refine va_put (ci := 8) (v := .int x_7913) (ty := .int) (C := RX8) (T := TX8) (N := 6) hx hb hts hw8 tyX8 tyX8_ok nmX8 hown hK hP hD hS 0 rfl rfl 3 (by decide +kernel) (hts _ mm_X8_step_208) (fun _ h9 => h9) rfl (by decide +kernel) (by first | rfl | decide) (by first | rfl | decide) (Nat.le_of_ble_eq_true rfl) dX8_step_266 (fun H locs hP0 hD0 hS0 => ?_)
                      clear hP hD hS
                      have hP := hP0
                      have hD := hD0
                      have hS := hS0
                      clear hP0 hD0 hS0
                      replace hP : va_P D vwCl [(a0, .inr (8, [.ref a1, .int ln, .int v_5504, .int x_7913, .int v_7141, .int x_7912])), (a1, .inl (K 0, 400, .inl f))] H := hP
                      replace hD : va_D A [(a0, .inr (8, [.ref a1, .int ln, .int v_5504, .int x_7913, .int v_7141, .int x_7912])), (a1, .inl (K 0, 400, .inl f))] := hD
                      refine lv_goto (tgt := 148) hx hb dX8_step_269 (by decide +kernel) ?_
                      exact ih_7850 x_7913 x_7912 (by rw [hx_7913]; omega) (by omega) (by omega) (hE.trans (by rw [hrec_7849])) _ _ hP hD hS ls (lv_sub hl [3, 4] rfl)
          exact lp_7849 ((400 - (x_7530 : Int32).toInt : Int).toNat + 1) x_7530 v_7142 (by omega) (by omega) (Nat.lt_succ_self _) hE _ _ hP hD hS ls (lv_sub hl [0, 1] rfl)
        refine lv_icmp_ge (tgt := 70) hx hb dX8_step_55 (by decide +kernel) (fun c_7914 => ?_) (fun c_7914 => ?_)
        · have c_7914i := i_le (x := ln.toInt) (y := v_5504.toInt) rfl rfl c_7914
          replace hE := hE.trans (if_pos c_7914)
          refine lv_iconst (v := (-1)) hx hb dX8_step_70 (by decide +kernel) ?_
          refine va_put (ci := 8) (v := .int (-1)) (ty := .int) (C := RX8) (T := TX8) (N := 6) hx hb hts hw8 tyX8 tyX8_ok nmX8 hown hK hP hD hS 0 rfl rfl 4 (by decide +kernel) (hts _ mm_X8_step_209) (fun _ h9 => h9) rfl (by decide +kernel) (by first | rfl | decide) (by first | rfl | decide) (Nat.le_of_ble_eq_true rfl) dX8_step_71 (fun H locs hP0 hD0 hS0 => ?_)
          clear hP hD hS
          have hP := hP0
          have hD := hD0
          have hS := hS0
          clear hP0 hD0 hS0
          replace hP : va_P D vwCl [(a0, .inr (8, [.ref a1, .int ln, .int v_5504, .int to, .int (-1), .int nu])), (a1, .inl (K 0, 400, .inl f))] H := hP
          replace hD : va_D A [(a0, .inr (8, [.ref a1, .int ln, .int v_5504, .int to, .int (-1), .int nu])), (a1, .inl (K 0, 400, .inl f))] := hD
          refine lv_aload_n hx hb dX8_step_74 rfl (lv_at hl 0 rfl) ?_
          refine lv_aload_n hx hb dX8_step_75 rfl (lv_at hl 0 rfl) ?_
          refine va_get (ci := 8) (v := .int (-1)) (C := RX8) (T := TX8) (N := 6) hx hb hts hw8 hown hK hP 0 rfl rfl 4 (by decide +kernel) (hts _ mm_X8_step_209) (fun _ h9 => h9) rfl dX8_step_76 ?_
          refine lv_bipush (v := 48) hx hb dX8_step_79 (by decide +kernel) ?_
          refine lv_icmp_lt (tgt := 103) hx hb dX8_step_81 (by decide +kernel) (fun c_7915 => ?_) (fun c_7915 => absurd (by decide +kernel) c_7915)
          refine lv_iconst (v := (-1)) hx hb dX8_step_103 (by decide +kernel) ?_
          refine va_put (ci := 8) (v := .int (-1)) (ty := .int) (C := RX8) (T := TX8) (N := 6) hx hb hts hw8 tyX8 tyX8_ok nmX8 hown hK hP hD hS 0 rfl rfl 5 (by decide +kernel) (hts _ mm_X8_step_210) (fun _ h9 => h9) rfl (by decide +kernel) (by first | rfl | decide) (by first | rfl | decide) (Nat.le_of_ble_eq_true rfl) dX8_step_104 (fun H locs hP0 hD0 hS0 => ?_)
          clear hP hD hS
          have hP := hP0
          have hD := hD0
          have hS := hS0
          clear hP0 hD0 hS0
          replace hP : va_P D vwCl [(a0, .inr (8, [.ref a1, .int ln, .int v_5504, .int to, .int (-1), .int (-1)])), (a1, .inl (K 0, 400, .inl f))] H := hP
          replace hD : va_D A [(a0, .inr (8, [.ref a1, .int ln, .int v_5504, .int to, .int (-1), .int (-1)])), (a1, .inl (K 0, 400, .inl f))] := hD
          refine lv_aload_n hx hb dX8_step_107 rfl (lv_at hl 0 rfl) ?_
          refine va_get (ci := 8) (v := .int (-1)) (C := RX8) (T := TX8) (N := 6) hx hb hts hw8 hown hK hP 0 rfl rfl 4 (by decide +kernel) (hts _ mm_X8_step_209) (fun _ h9 => h9) rfl dX8_step_108 ?_
          refine lv_bipush (v := 97) hx hb dX8_step_111 (by decide +kernel) ?_
          refine lv_icmp_lt (tgt := 129) hx hb dX8_step_113 (by decide +kernel) (fun c_7916 => ?_) (fun c_7916 => absurd (by decide +kernel) c_7916)
          exact j_7528 (-1) (-1) (by decide +kernel) hE _ _ hP hD hS ls (lv_sub hl [0] rfl)
        · have c_7914i := i_nle (x := ln.toInt) (y := v_5504.toInt) rfl rfl c_7914
          replace hE := hE.trans (if_neg c_7914)
          refine lv_aload_n hx hb dX8_step_58 rfl (lv_at hl 0 rfl) ?_
          refine va_get (ci := 8) (v := .ref a1) (C := RX8) (T := TX8) (N := 6) hx hb hts hw8 hown hK hP 0 rfl rfl 0 (by decide +kernel) (hts _ mm_X8_step_205) (fun _ h9 => h9) rfl dX8_step_59 ?_
          refine lv_aload_n hx hb dX8_step_62 rfl (lv_at hl 0 rfl) ?_
          refine va_get (ci := 8) (v := .int v_5504) (C := RX8) (T := TX8) (N := 6) hx hb hts hw8 hown hK hP 0 rfl rfl 2 (by decide +kernel) (hts _ mm_X8_step_207) (fun _ h9 => h9) rfl dX8_step_63 ?_
          refine va_iald hx hb hK hP 1 0 rfl rfl (i_in rfl (by omega)) dX8_step_66 ?_
          refine lv_topi (fun x_7917 ex_7917 => ?_)
          replace hE := hE.trans (Lt_in ex_7917)
          refine lv_goto (tgt := 71) hx hb dX8_step_67 (by decide +kernel) ?_
          refine va_put (ci := 8) (v := .int x_7917) (ty := .int) (C := RX8) (T := TX8) (N := 6) hx hb hts hw8 tyX8 tyX8_ok nmX8 hown hK hP hD hS 0 rfl rfl 4 (by decide +kernel) (hts _ mm_X8_step_209) (fun _ h9 => h9) rfl (by decide +kernel) (by first | rfl | decide) (by first | rfl | decide) (Nat.le_of_ble_eq_true rfl) dX8_step_71 (fun H locs hP0 hD0 hS0 => ?_)
          clear hP hD hS
          have hP := hP0
          have hD := hD0
          have hS := hS0
          clear hP0 hD0 hS0
          replace hP : va_P D vwCl [(a0, .inr (8, [.ref a1, .int ln, .int v_5504, .int to, .int x_7917, .int nu])), (a1, .inl (K 0, 400, .inl f))] H := hP
          replace hD : va_D A [(a0, .inr (8, [.ref a1, .int ln, .int v_5504, .int to, .int x_7917, .int nu])), (a1, .inl (K 0, 400, .inl f))] := hD
          refine lv_aload_n hx hb dX8_step_74 rfl (lv_at hl 0 rfl) ?_
          refine lv_aload_n hx hb dX8_step_75 rfl (lv_at hl 0 rfl) ?_
          refine va_get (ci := 8) (v := .int x_7917) (C := RX8) (T := TX8) (N := 6) hx hb hts hw8 hown hK hP 0 rfl rfl 4 (by decide +kernel) (hts _ mm_X8_step_209) (fun _ h9 => h9) rfl dX8_step_76 ?_
          refine lv_bipush (v := 48) hx hb dX8_step_79 (by decide +kernel) ?_
          refine lv_icmp_lt (tgt := 103) hx hb dX8_step_81 (by decide +kernel) (fun c_7918 => ?_) (fun c_7918 => ?_)
          · have c_7918i := i_lt (x := x_7917.toInt) (y := 48) rfl rfl c_7918
            replace hE := hE.trans (if_pos c_7918)
            refine lv_iconst (v := (-1)) hx hb dX8_step_103 (by decide +kernel) ?_
            refine va_put (ci := 8) (v := .int (-1)) (ty := .int) (C := RX8) (T := TX8) (N := 6) hx hb hts hw8 tyX8 tyX8_ok nmX8 hown hK hP hD hS 0 rfl rfl 5 (by decide +kernel) (hts _ mm_X8_step_210) (fun _ h9 => h9) rfl (by decide +kernel) (by first | rfl | decide) (by first | rfl | decide) (Nat.le_of_ble_eq_true rfl) dX8_step_104 (fun H locs hP0 hD0 hS0 => ?_)
            clear hP hD hS
            have hP := hP0
            have hD := hD0
            have hS := hS0
            clear hP0 hD0 hS0
            replace hP : va_P D vwCl [(a0, .inr (8, [.ref a1, .int ln, .int v_5504, .int to, .int x_7917, .int (-1)])), (a1, .inl (K 0, 400, .inl f))] H := hP
            replace hD : va_D A [(a0, .inr (8, [.ref a1, .int ln, .int v_5504, .int to, .int x_7917, .int (-1)])), (a1, .inl (K 0, 400, .inl f))] := hD
            refine lv_aload_n hx hb dX8_step_107 rfl (lv_at hl 0 rfl) ?_
            refine va_get (ci := 8) (v := .int x_7917) (C := RX8) (T := TX8) (N := 6) hx hb hts hw8 hown hK hP 0 rfl rfl 4 (by decide +kernel) (hts _ mm_X8_step_209) (fun _ h9 => h9) rfl dX8_step_108 ?_
            refine lv_bipush (v := 97) hx hb dX8_step_111 (by decide +kernel) ?_
            refine lv_icmp_lt (tgt := 129) hx hb dX8_step_113 (by decide +kernel) (fun c_7919 => ?_) (fun c_7919 => ?_)
            · have c_7919i := i_lt (x := x_7917.toInt) (y := 97) rfl rfl c_7919
              replace hE := hE.trans (if_pos c_7919)
              exact j_7528 x_7917 (-1) (by decide +kernel) hE _ _ hP hD hS ls (lv_sub hl [0] rfl)
            · have c_7919i := i_nlt (x := x_7917.toInt) (y := 97) rfl rfl c_7919
              exfalso; omega
          · have c_7918i := i_nlt (x := x_7917.toInt) (y := 48) rfl rfl c_7918
            replace hE := hE.trans (if_neg c_7918)
            refine lv_aload_n hx hb dX8_step_84 rfl (lv_at hl 0 rfl) ?_
            refine va_get (ci := 8) (v := .int x_7917) (C := RX8) (T := TX8) (N := 6) hx hb hts hw8 hown hK hP 0 rfl rfl 4 (by decide +kernel) (hts _ mm_X8_step_209) (fun _ h9 => h9) rfl dX8_step_85 ?_
            refine lv_bipush (v := 57) hx hb dX8_step_88 (by decide +kernel) ?_
            refine lv_icmp_gt (tgt := 103) hx hb dX8_step_90 (by decide +kernel) (fun c_7920 => ?_) (fun c_7920 => ?_)
            · have c_7920i := i_lt (x := 57) (y := x_7917.toInt) rfl rfl c_7920
              replace hE := hE.trans (if_pos c_7920)
              refine lv_iconst (v := (-1)) hx hb dX8_step_103 (by decide +kernel) ?_
              refine va_put (ci := 8) (v := .int (-1)) (ty := .int) (C := RX8) (T := TX8) (N := 6) hx hb hts hw8 tyX8 tyX8_ok nmX8 hown hK hP hD hS 0 rfl rfl 5 (by decide +kernel) (hts _ mm_X8_step_210) (fun _ h9 => h9) rfl (by decide +kernel) (by first | rfl | decide) (by first | rfl | decide) (Nat.le_of_ble_eq_true rfl) dX8_step_104 (fun H locs hP0 hD0 hS0 => ?_)
              clear hP hD hS
              have hP := hP0
              have hD := hD0
              have hS := hS0
              clear hP0 hD0 hS0
              replace hP : va_P D vwCl [(a0, .inr (8, [.ref a1, .int ln, .int v_5504, .int to, .int x_7917, .int (-1)])), (a1, .inl (K 0, 400, .inl f))] H := hP
              replace hD : va_D A [(a0, .inr (8, [.ref a1, .int ln, .int v_5504, .int to, .int x_7917, .int (-1)])), (a1, .inl (K 0, 400, .inl f))] := hD
              refine lv_aload_n hx hb dX8_step_107 rfl (lv_at hl 0 rfl) ?_
              refine va_get (ci := 8) (v := .int x_7917) (C := RX8) (T := TX8) (N := 6) hx hb hts hw8 hown hK hP 0 rfl rfl 4 (by decide +kernel) (hts _ mm_X8_step_209) (fun _ h9 => h9) rfl dX8_step_108 ?_
              refine lv_bipush (v := 97) hx hb dX8_step_111 (by decide +kernel) ?_
              refine lv_icmp_lt (tgt := 129) hx hb dX8_step_113 (by decide +kernel) (fun c_7921 => ?_) (fun c_7921 => ?_)
              · have c_7921i := i_lt (x := x_7917.toInt) (y := 97) rfl rfl c_7921
                replace hE := hE.trans (if_pos c_7921)
                exact j_7528 x_7917 (-1) (by decide +kernel) hE _ _ hP hD hS ls (lv_sub hl [0] rfl)
              · have c_7921i := i_nlt (x := x_7917.toInt) (y := 97) rfl rfl c_7921
                replace hE := hE.trans (if_neg c_7921)
                refine lv_aload_n hx hb dX8_step_116 rfl (lv_at hl 0 rfl) ?_
                refine va_get (ci := 8) (v := .int x_7917) (C := RX8) (T := TX8) (N := 6) hx hb hts hw8 hown hK hP 0 rfl rfl 4 (by decide +kernel) (hts _ mm_X8_step_209) (fun _ h9 => h9) rfl dX8_step_117 ?_
                refine lv_bipush (v := 122) hx hb dX8_step_120 (by decide +kernel) ?_
                refine lv_icmp_gt (tgt := 129) hx hb dX8_step_122 (by decide +kernel) (fun c_7922 => ?_) (fun c_7922 => ?_)
                · have c_7922i := i_lt (x := 122) (y := x_7917.toInt) rfl rfl c_7922
                  replace hE := hE.trans (if_pos c_7922)
                  exact j_7528 x_7917 (-1) (by decide +kernel) hE _ _ hP hD hS ls (lv_sub hl [0] rfl)
                · have c_7922i := i_nlt (x := 122) (y := x_7917.toInt) rfl rfl c_7922
                  replace hE := hE.trans (if_neg c_7922)
                  refine lv_iconst (v := 1) hx hb dX8_step_125 (by decide +kernel) ?_
                  refine lv_goto (tgt := 130) hx hb dX8_step_126 (by decide +kernel) ?_
                  refine lv_istore_n (lv' := [(1, .int 1), (0, .ref a0)]) hx hb dX8_step_130 rfl hl (by decide +kernel) rfl (fun ls hl => ?_)
                  refine lv_aload_n hx hb dX8_step_131 rfl (lv_at hl 1 rfl) ?_
                  refine lv_aload_n hx hb dX8_step_132 rfl (lv_at hl 1 rfl) ?_
                  refine va_get (ci := 8) (v := .int ln) (C := RX8) (T := TX8) (N := 6) hx hb hts hw8 hown hK hP 0 rfl rfl 1 (by decide +kernel) (hts _ mm_X8_step_206) (fun _ h9 => h9) rfl dX8_step_133 ?_
                  refine lv_aload_n hx hb dX8_step_136 rfl (lv_at hl 1 rfl) ?_
                  refine va_get (ci := 8) (v := .int v_5504) (C := RX8) (T := TX8) (N := 6) hx hb hts hw8 hown hK hP 0 rfl rfl 2 (by decide +kernel) (hts _ mm_X8_step_207) (fun _ h9 => h9) rfl dX8_step_137 ?_
                  refine lv_iconst (v := 1) hx hb dX8_step_140 (by decide +kernel) ?_
                  refine lv_iadd hx hb dX8_step_141 ?_
                  refine lv_topi (fun x_7923 ex_7923 => ?_)
                  replace hE := hE.trans (Lt_in ex_7923)
                  have hx_7923 : x_7923.toInt = (v_5504.toInt + 1) := by rw [ex_7923]; exact i_add rfl (show (1 : Int32).toInt = 1 from rfl) (by omega)
                  refine va_mmin hx hb (hml.trans hl.1.symm) hown (hts _ mm_X8_step_473) (hts _ mm_X8_step_426) (hts _ mm_X8_step_157) (hts _ mm_X8_step_427) (Nat.le_of_ble_eq_true rfl) (Nat.le_of_ble_eq_true rfl) (Nat.le_of_ble_eq_true rfl) (Nat.le_of_ble_eq_true rfl) dX8_step_142 ?_
                  refine lv_topi (fun x_7924 ex_7924 => ?_)
                  replace hE := hE.trans (Lt_in ex_7924)
                  have hx_7924 : (ln.toInt ≤ (v_5504.toInt + 1) ∧ x_7924.toInt = ln.toInt) ∨ ((v_5504.toInt + 1) < ln.toInt ∧ x_7924.toInt = (v_5504.toInt + 1)) := by rw [ex_7924]; exact i_min rfl hx_7923
                  replace hx_7924 : x_7924.toInt ≤ ln.toInt ∧ x_7924.toInt ≤ (v_5504.toInt + 1) ∧ 1 ≤ x_7924.toInt ∧ x_7924.toInt ≤ 400 := by omega
                  refine va_put (ci := 8) (v := .int x_7924) (ty := .int) (C := RX8) (T := TX8) (N := 6) hx hb hts hw8 tyX8 tyX8_ok nmX8 hown hK hP hD hS 0 rfl rfl 3 (by decide +kernel) (hts _ mm_X8_step_208) (fun _ h9 => h9) rfl (by decide +kernel) (by first | rfl | decide) (by first | rfl | decide) (Nat.le_of_ble_eq_true rfl) dX8_step_145 (fun H locs hP0 hD0 hS0 => ?_)
                  clear hP hD hS
                  have hP := hP0
                  have hD := hD0
                  have hS := hS0
                  clear hP0 hD0 hS0
                  replace hP : va_P D vwCl [(a0, .inr (8, [.ref a1, .int ln, .int v_5504, .int x_7924, .int x_7917, .int (-1)])), (a1, .inl (K 0, 400, .inl f))] H := hP
                  replace hD : va_D A [(a0, .inr (8, [.ref a1, .int ln, .int v_5504, .int x_7924, .int x_7917, .int (-1)])), (a1, .inl (K 0, 400, .inl f))] := hD
                  have lp_8136 : ∀ (nn_ : Nat) (v_8030 : Int32) (hv_8030 : 1 ≤ v_8030.toInt ∧ v_8030.toInt ≤ 400) (hn : (400 - v_8030.toInt : Int).toNat < nn_) (hE : E_w_step ln fr to fi nu f = Lp (α := Int32 → (Int32 × Int32 × Int32 × Int32)) (E_w_step_l148a ln f v_5504 x_7917) (fun _ => ((0, 0, 0, 0) : Int32 × Int32 × Int32 × Int32)) nn_ v_8030) (H : Heap) (locs : List Loc) (hP : va_P D vwCl [(a0, .inr (8, [.ref a1, .int ln, .int v_5504, .int v_8030, .int x_7917, .int (-1)])), (a1, .inl (K 0, 400, .inl f))] H) (hD : va_D A [(a0, .inr (8, [.ref a1, .int ln, .int v_5504, .int v_8030, .int x_7917, .int (-1)])), (a1, .inl (K 0, 400, .inl f))]) (hS : va_S A s.heap H locs) (ls : Array Slot) (hl : lv_has ls 5 [(1, .int 1), (0, .ref a0)]), W p l e ({ frames := 1, cells := 0, slots := 0, locals := 14 }) s m (([.ref a0] : List Value).toArray) below meth c H locs 0 0 Q (F0 m 148 ls []) := by
                    clear hE hP hD hS hl
                    intro nn_
                    induction nn_ with
                    | zero =>
                      intro v_8030 hv_8030 hn hE H locs hP hD hS ls hl
                      exact absurd hn (Nat.not_lt_zero _)
                    | succ nn_ ih_8137 =>
                      intro v_8030 hv_8030 hn hE H locs hP hD hS ls hl
                      replace hE : E_w_step ln fr to fi nu f = E_w_step_l148a ln f v_5504 x_7917 (Lp (α := Int32 → (Int32 × Int32 × Int32 × Int32)) (E_w_step_l148a ln f v_5504 x_7917) (fun _ => ((0, 0, 0, 0) : Int32 × Int32 × Int32 × Int32)) nn_) v_8030 := hE
                      obtain ⟨rec_8136, hrec_8136⟩ : ∃ z9, z9 = Lp (α := Int32 → (Int32 × Int32 × Int32 × Int32)) (E_w_step_l148a ln f v_5504 x_7917) (fun _ => ((0, 0, 0, 0) : Int32 × Int32 × Int32 × Int32)) nn_ := ⟨_, rfl⟩
                      rw [← hrec_8136] at hE
                      replace hE := hE.trans (E_w_step_l148a.eq_def _ _ _ _ _ _)
                      refine lv_aload_n hx hb dX8_step_148 rfl (lv_at hl 1 rfl) ?_
                      refine va_get (ci := 8) (v := .int v_8030) (C := RX8) (T := TX8) (N := 6) hx hb hts hw8 hown hK hP 0 rfl rfl 3 (by decide +kernel) (hts _ mm_X8_step_208) (fun _ h9 => h9) rfl dX8_step_149 ?_
                      refine lv_aload_n hx hb dX8_step_152 rfl (lv_at hl 1 rfl) ?_
                      refine va_get (ci := 8) (v := .int ln) (C := RX8) (T := TX8) (N := 6) hx hb hts hw8 hown hK hP 0 rfl rfl 1 (by decide +kernel) (hts _ mm_X8_step_206) (fun _ h9 => h9) rfl dX8_step_153 ?_
                      have j_8164 : ∀ (hE : E_w_step ln fr to fi nu f = E_w_step_j272a v_5504 x_7917 v_8030) (H : Heap) (locs : List Loc) (hP : va_P D vwCl [(a0, .inr (8, [.ref a1, .int ln, .int v_5504, .int v_8030, .int x_7917, .int (-1)])), (a1, .inl (K 0, 400, .inl f))] H) (hD : va_D A [(a0, .inr (8, [.ref a1, .int ln, .int v_5504, .int v_8030, .int x_7917, .int (-1)])), (a1, .inl (K 0, 400, .inl f))]) (hS : va_S A s.heap H locs) (ls : Array Slot) (hl : lv_has ls 5 []), W p l e ({ frames := 1, cells := 0, slots := 0, locals := 14 }) s m (([.ref a0] : List Value).toArray) below meth c H locs 0 0 Q (F0 m 272 ls []) := by
                        clear hE hP hD hS hl
                        intro hE H locs hP hD hS ls hl
                        replace hE := hE.trans (E_w_step_j272a.eq_def _ _ _)
                        rw [← hQ]
                        have hP9 := hP.sub (ws' := [(a0, .inr (8, [.ref a1, .int ln, .int v_5504, .int v_8030, .int x_7917, .int (-1)])), (a1, .inl (K 0, 400, .inl f))]) [0, 1] rfl
                        have hD9 := hD.sub (ws' := [(a0, .inr (8, [.ref a1, .int ln, .int v_5504, .int v_8030, .int x_7917, .int (-1)])), (a1, .inl (K 0, 400, .inl f))]) [0, 1] (by decide +kernel) rfl
                        exact W.vret hx hb hr (fun t ht hW => ⟨⟨((fun _ => 0, fun _ => fun _ => 0, fun _ => fun _ => 0, fun i => match i with | 0 => v_5504 | 1 => v_8030 | 2 => x_7917 | _ => (-1), fun _ => 0, fun _ => fun _ => none) : Su), rfl, ⟨(show 0 ≤ (v_5504 : Int32).toInt ∧ (v_5504 : Int32).toInt ≤ 400 by omega), (show 0 ≤ (v_8030 : Int32).toInt ∧ (v_8030 : Int32).toInt ≤ 400 by omega), (show (-1) ≤ ((-1) : Int32).toInt ∧ ((-1) : Int32).toInt ≤ 1000000 by decide), hE.symm, trivial⟩, (⟨by rw [ht]; exact hP9, hD9⟩ : Wd D A _ t)⟩, hS.F ht⟩) hS.2.2 dX8_step_272
                      refine lv_icmp_ge (tgt := 272) hx hb dX8_step_156 (by decide +kernel) (fun c_8165 => ?_) (fun c_8165 => ?_)
                      · have c_8165i := i_le (x := ln.toInt) (y := v_8030.toInt) rfl rfl c_8165
                        replace hE := hE.trans (if_pos c_8165)
                        exact j_8164   hE _ _ hP hD hS ls (lv_sub hl [] rfl)
                      · have c_8165i := i_nle (x := ln.toInt) (y := v_8030.toInt) rfl rfl c_8165
                        replace hE := hE.trans (if_neg c_8165)
                        refine lv_aload_n hx hb dX8_step_159 rfl (lv_at hl 1 rfl) ?_
                        refine va_get (ci := 8) (v := .ref a1) (C := RX8) (T := TX8) (N := 6) hx hb hts hw8 hown hK hP 0 rfl rfl 0 (by decide +kernel) (hts _ mm_X8_step_205) (fun _ h9 => h9) rfl dX8_step_160 ?_
                        refine lv_aload_n hx hb dX8_step_163 rfl (lv_at hl 1 rfl) ?_
                        refine va_get (ci := 8) (v := .int v_8030) (C := RX8) (T := TX8) (N := 6) hx hb hts hw8 hown hK hP 0 rfl rfl 3 (by decide +kernel) (hts _ mm_X8_step_208) (fun _ h9 => h9) rfl dX8_step_164 ?_
                        refine va_iald hx hb hK hP 1 0 rfl rfl (i_in rfl (by omega)) dX8_step_167 ?_
                        refine lv_topi (fun x_8166 ex_8166 => ?_)
                        replace hE := hE.trans (Lt_in ex_8166)
                        refine lv_istore_n (lv' := [(2, .int x_8166), (1, .int 1), (0, .ref a0)]) hx hb dX8_step_168 rfl hl (by decide +kernel) rfl (fun ls hl => ?_)
                        refine lv_aload_n hx hb dX8_step_169 rfl (lv_at hl 2 rfl) ?_
                        refine va_get (ci := 8) (v := .int (-1)) (C := RX8) (T := TX8) (N := 6) hx hb hts hw8 hown hK hP 0 rfl rfl 5 (by decide +kernel) (hts _ mm_X8_step_210) (fun _ h9 => h9) rfl dX8_step_170 ?_
                        refine lv_iconst (v := (-1)) hx hb dX8_step_173 (by decide +kernel) ?_
                        refine lv_icmp_eq (tgt := 193) hx hb dX8_step_174 (by decide +kernel) (fun c_8179 => ?_) (fun c_8179 => absurd (by decide +kernel) c_8179)
                        refine lv_iconst (v := 0) hx hb dX8_step_193 (by decide +kernel) ?_
                        refine lv_istore_n (lv' := [(3, .int 0), (2, .int x_8166), (1, .int 1), (0, .ref a0)]) hx hb dX8_step_194 rfl hl (by decide +kernel) rfl (fun ls hl => ?_)
                        refine lv_iload_n hx hb dX8_step_195 rfl (lv_at hl 2 rfl) ?_
                        refine lv_if_eq (tgt := 215) hx hb dX8_step_196 (by decide +kernel) (fun c_8180 => absurd c_8180 (by decide +kernel)) (fun c_8180 => ?_)
                        refine lv_iload_n hx hb dX8_step_199 rfl (lv_at hl 1 rfl) ?_
                        refine lv_bipush (v := 97) hx hb dX8_step_200 (by decide +kernel) ?_
                        refine lv_icmp_lt (tgt := 215) hx hb dX8_step_202 (by decide +kernel) (fun c_8181 => ?_) (fun c_8181 => ?_)
                        · have c_8181i := i_lt (x := x_8166.toInt) (y := 97) rfl rfl c_8181
                          replace hE := hE.trans (if_pos c_8181)
                          refine lv_iconst (v := 0) hx hb dX8_step_215 (by decide +kernel) ?_
                          refine lv_istore (lv' := [(4, .int 0), (3, .int 0), (2, .int x_8166), (1, .int 1), (0, .ref a0)]) hx hb dX8_step_216 hl (by decide +kernel) rfl (fun ls hl => ?_)
                          refine lv_iload_n hx hb dX8_step_218 rfl (lv_at hl 1 rfl) ?_
                          refine lv_if_ne (tgt := 230) hx hb dX8_step_219 (by decide +kernel) (fun c_8182 => absurd (by decide +kernel) c_8182) (fun c_8182 => ?_)
                          refine lv_iload hx hb dX8_step_222 (lv_at hl 0 rfl) ?_
                          refine lv_if_ne (tgt := 230) hx hb dX8_step_224 (by decide +kernel) (fun c_8183 => absurd (by decide +kernel) c_8183) (fun c_8183 => ?_)
                          refine lv_goto (tgt := 272) hx hb dX8_step_227 (by decide +kernel) ?_
                          exact j_8164   hE _ _ hP hD hS ls (lv_sub hl [] rfl)
                        · have c_8181i := i_nlt (x := x_8166.toInt) (y := 97) rfl rfl c_8181
                          replace hE := hE.trans (if_neg c_8181)
                          refine lv_iload_n hx hb dX8_step_205 rfl (lv_at hl 1 rfl) ?_
                          refine lv_bipush (v := 122) hx hb dX8_step_206 (by decide +kernel) ?_
                          refine lv_icmp_gt (tgt := 215) hx hb dX8_step_208 (by decide +kernel) (fun c_8184 => ?_) (fun c_8184 => ?_)
                          · have c_8184i := i_lt (x := 122) (y := x_8166.toInt) rfl rfl c_8184
                            replace hE := hE.trans (if_pos c_8184)
                            refine lv_iconst (v := 0) hx hb dX8_step_215 (by decide +kernel) ?_
                            refine lv_istore (lv' := [(4, .int 0), (3, .int 0), (2, .int x_8166), (1, .int 1), (0, .ref a0)]) hx hb dX8_step_216 hl (by decide +kernel) rfl (fun ls hl => ?_)
                            refine lv_iload_n hx hb dX8_step_218 rfl (lv_at hl 1 rfl) ?_
                            refine lv_if_ne (tgt := 230) hx hb dX8_step_219 (by decide +kernel) (fun c_8185 => absurd (by decide +kernel) c_8185) (fun c_8185 => ?_)
                            refine lv_iload hx hb dX8_step_222 (lv_at hl 0 rfl) ?_
                            refine lv_if_ne (tgt := 230) hx hb dX8_step_224 (by decide +kernel) (fun c_8186 => absurd (by decide +kernel) c_8186) (fun c_8186 => ?_)
                            refine lv_goto (tgt := 272) hx hb dX8_step_227 (by decide +kernel) ?_
                            exact j_8164   hE _ _ hP hD hS ls (lv_sub hl [] rfl)
                          · have c_8184i := i_nlt (x := 122) (y := x_8166.toInt) rfl rfl c_8184
                            replace hE := hE.trans (if_neg c_8184)
                            refine lv_iconst (v := 1) hx hb dX8_step_211 (by decide +kernel) ?_
                            refine lv_goto (tgt := 216) hx hb dX8_step_212 (by decide +kernel) ?_
                            refine lv_istore (lv' := [(4, .int 1), (3, .int 0), (2, .int x_8166), (1, .int 1), (0, .ref a0)]) hx hb dX8_step_216 hl (by decide +kernel) rfl (fun ls hl => ?_)
                            refine lv_iload_n hx hb dX8_step_218 rfl (lv_at hl 1 rfl) ?_
                            refine lv_if_ne (tgt := 230) hx hb dX8_step_219 (by decide +kernel) (fun c_8187 => absurd (by decide +kernel) c_8187) (fun c_8187 => ?_)
                            refine lv_iload hx hb dX8_step_222 (lv_at hl 0 rfl) ?_
                            refine lv_if_ne (tgt := 230) hx hb dX8_step_224 (by decide +kernel) (fun c_8188 => ?_) (fun c_8188 => absurd c_8188 (by decide +kernel))
                            refine lv_aload_n hx hb dX8_step_230 rfl (lv_at hl 4 rfl) ?_
                            refine lv_iload_n hx hb dX8_step_231 rfl (lv_at hl 1 rfl) ?_
                            refine lv_if_eq (tgt := 255) hx hb dX8_step_232 (by decide +kernel) (fun c_8189 => ?_) (fun c_8189 => absurd (by decide +kernel) c_8189)
                            refine lv_iconst (v := (-1)) hx hb dX8_step_255 (by decide +kernel) ?_
                            refine va_put (ci := 8) (v := .int (-1)) (ty := .int) (C := RX8) (T := TX8) (N := 6) hx hb hts hw8 tyX8 tyX8_ok nmX8 hown hK hP hD hS 0 rfl rfl 5 (by decide +kernel) (hts _ mm_X8_step_210) (fun _ h9 => h9) rfl (by decide +kernel) (by first | rfl | decide) (by first | rfl | decide) (Nat.le_of_ble_eq_true rfl) dX8_step_256 (fun H locs hP0 hD0 hS0 => ?_)
                            clear hP hD hS
                            have hP := hP0
                            have hD := hD0
                            have hS := hS0
                            clear hP0 hD0 hS0
                            replace hP : va_P D vwCl [(a0, .inr (8, [.ref a1, .int ln, .int v_5504, .int v_8030, .int x_7917, .int (-1)])), (a1, .inl (K 0, 400, .inl f))] H := hP
                            replace hD : va_D A [(a0, .inr (8, [.ref a1, .int ln, .int v_5504, .int v_8030, .int x_7917, .int (-1)])), (a1, .inl (K 0, 400, .inl f))] := hD
                            refine lv_aload_n hx hb dX8_step_259 rfl (lv_at hl 4 rfl) ?_
                            refine lv_dup hx hb dX8_step_260 rfl ?_
                            refine va_get (ci := 8) (v := .int v_8030) (C := RX8) (T := TX8) (N := 6) hx hb hts hw8 hown hK hP 0 rfl rfl 3 (by decide +kernel) (hts _ mm_X8_step_208) (fun _ h9 => h9) rfl dX8_step_261 ?_
                            refine lv_iconst (v := 1) hx hb dX8_step_264 (by decide +kernel) ?_
                            refine lv_iadd hx hb dX8_step_265 ?_
                            refine lv_topi (fun x_8190 ex_8190 => ?_)
                            replace hE := hE.trans (Lt_in ex_8190)
                            have hx_8190 : x_8190.toInt = (v_8030.toInt + 1) := by rw [ex_8190]; exact i_add rfl (show (1 : Int32).toInt = 1 from rfl) (by omega)
                            refine va_put (ci := 8) (v := .int x_8190) (ty := .int) (C := RX8) (T := TX8) (N := 6) hx hb hts hw8 tyX8 tyX8_ok nmX8 hown hK hP hD hS 0 rfl rfl 3 (by decide +kernel) (hts _ mm_X8_step_208) (fun _ h9 => h9) rfl (by decide +kernel) (by first | rfl | decide) (by first | rfl | decide) (Nat.le_of_ble_eq_true rfl) dX8_step_266 (fun H locs hP0 hD0 hS0 => ?_)
                            clear hP hD hS
                            have hP := hP0
                            have hD := hD0
                            have hS := hS0
                            clear hP0 hD0 hS0
                            replace hP : va_P D vwCl [(a0, .inr (8, [.ref a1, .int ln, .int v_5504, .int x_8190, .int x_7917, .int (-1)])), (a1, .inl (K 0, 400, .inl f))] H := hP
                            replace hD : va_D A [(a0, .inr (8, [.ref a1, .int ln, .int v_5504, .int x_8190, .int x_7917, .int (-1)])), (a1, .inl (K 0, 400, .inl f))] := hD
                            refine lv_goto (tgt := 148) hx hb dX8_step_269 (by decide +kernel) ?_
                            exact ih_8137 x_8190 (by rw [hx_8190]; omega) (by omega) (hE.trans (by rw [hrec_8136])) _ _ hP hD hS ls (lv_sub hl [3, 4] rfl)
                  exact lp_8136 ((400 - (x_7924 : Int32).toInt : Int).toNat + 1) x_7924 (by omega) (Nat.lt_succ_self _) hE _ _ hP hD hS ls (lv_sub hl [0, 1] rfl)
            · have c_7920i := i_nlt (x := 57) (y := x_7917.toInt) rfl rfl c_7920
              replace hE := hE.trans (if_neg c_7920)
              refine lv_aload_n hx hb dX8_step_93 rfl (lv_at hl 0 rfl) ?_
              refine va_get (ci := 8) (v := .int x_7917) (C := RX8) (T := TX8) (N := 6) hx hb hts hw8 hown hK hP 0 rfl rfl 4 (by decide +kernel) (hts _ mm_X8_step_209) (fun _ h9 => h9) rfl dX8_step_94 ?_
              refine lv_bipush (v := 48) hx hb dX8_step_97 (by decide +kernel) ?_
              refine lv_isub hx hb dX8_step_99 ?_
              refine lv_topi (fun x_8191 ex_8191 => ?_)
              replace hE := hE.trans (Lt_in ex_8191)
              have hx_8191 : x_8191.toInt = (x_7917.toInt - 48) := by rw [ex_8191]; exact i_sub rfl (show (48 : Int32).toInt = 48 from rfl) (by omega)
              refine lv_goto (tgt := 104) hx hb dX8_step_100 (by decide +kernel) ?_
              refine va_put (ci := 8) (v := .int x_8191) (ty := .int) (C := RX8) (T := TX8) (N := 6) hx hb hts hw8 tyX8 tyX8_ok nmX8 hown hK hP hD hS 0 rfl rfl 5 (by decide +kernel) (hts _ mm_X8_step_210) (fun _ h9 => h9) rfl (by decide +kernel) (by first | rfl | decide) (by first | rfl | decide) (Nat.le_of_ble_eq_true rfl) dX8_step_104 (fun H locs hP0 hD0 hS0 => ?_)
              clear hP hD hS
              have hP := hP0
              have hD := hD0
              have hS := hS0
              clear hP0 hD0 hS0
              replace hP : va_P D vwCl [(a0, .inr (8, [.ref a1, .int ln, .int v_5504, .int to, .int x_7917, .int x_8191])), (a1, .inl (K 0, 400, .inl f))] H := hP
              replace hD : va_D A [(a0, .inr (8, [.ref a1, .int ln, .int v_5504, .int to, .int x_7917, .int x_8191])), (a1, .inl (K 0, 400, .inl f))] := hD
              refine lv_aload_n hx hb dX8_step_107 rfl (lv_at hl 0 rfl) ?_
              refine va_get (ci := 8) (v := .int x_7917) (C := RX8) (T := TX8) (N := 6) hx hb hts hw8 hown hK hP 0 rfl rfl 4 (by decide +kernel) (hts _ mm_X8_step_209) (fun _ h9 => h9) rfl dX8_step_108 ?_
              refine lv_bipush (v := 97) hx hb dX8_step_111 (by decide +kernel) ?_
              refine lv_icmp_lt (tgt := 129) hx hb dX8_step_113 (by decide +kernel) (fun c_8192 => ?_) (fun c_8192 => ?_)
              · have c_8192i := i_lt (x := x_7917.toInt) (y := 97) rfl rfl c_8192
                replace hE := hE.trans (if_pos c_8192)
                exact j_7528 x_7917 x_8191 (by rw [hx_8191]; omega) hE _ _ hP hD hS ls (lv_sub hl [0] rfl)
              · have c_8192i := i_nlt (x := x_7917.toInt) (y := 97) rfl rfl c_8192
                exfalso; omega
      refine lv_icmp_ge (tgt := 46) hx hb dX8_step_16 (by decide +kernel) (fun c_8193 => ?_) (fun c_8193 => ?_)
      · have c_8193i := i_le (x := ln.toInt) (y := v_5504.toInt) rfl rfl c_8193
        replace hE := hE.trans (if_pos c_8193)
        exact j_6861   hE _ _ hP hD hS ls (lv_sub hl [0] rfl)
      · have c_8193i := i_nle (x := ln.toInt) (y := v_5504.toInt) rfl rfl c_8193
        replace hE := hE.trans (if_neg c_8193)
        refine lv_aload_n hx hb dX8_step_19 rfl (lv_at hl 0 rfl) ?_
        refine va_get (ci := 8) (v := .ref a1) (C := RX8) (T := TX8) (N := 6) hx hb hts hw8 hown hK hP 0 rfl rfl 0 (by decide +kernel) (hts _ mm_X8_step_205) (fun _ h9 => h9) rfl dX8_step_20 ?_
        refine lv_aload_n hx hb dX8_step_23 rfl (lv_at hl 0 rfl) ?_
        refine va_get (ci := 8) (v := .int v_5504) (C := RX8) (T := TX8) (N := 6) hx hb hts hw8 hown hK hP 0 rfl rfl 2 (by decide +kernel) (hts _ mm_X8_step_207) (fun _ h9 => h9) rfl dX8_step_24 ?_
        refine va_iald hx hb hK hP 1 0 rfl rfl (i_in rfl (by omega)) dX8_step_27 ?_
        refine lv_topi (fun x_8194 ex_8194 => ?_)
        replace hE := hE.trans (Lt_in ex_8194)
        refine lv_bipush (v := 32) hx hb dX8_step_28 (by decide +kernel) ?_
        refine lv_icmp_ne (tgt := 46) hx hb dX8_step_30 (by decide +kernel) (fun c_8195 => ?_) (fun c_8195 => ?_)
        · have c_8195i := i_ne (x := x_8194.toInt) (y := 32) rfl rfl c_8195
          replace hE := hE.trans (if_neg c_8195)
          exact j_6861   hE _ _ hP hD hS ls (lv_sub hl [0] rfl)
        · have c_8195i := i_eq (x := x_8194.toInt) (y := 32) rfl rfl c_8195
          replace hE := hE.trans (if_pos c_8195)
          refine lv_aload_n hx hb dX8_step_33 rfl (lv_at hl 0 rfl) ?_
          refine lv_dup hx hb dX8_step_34 rfl ?_
          refine va_get (ci := 8) (v := .int v_5504) (C := RX8) (T := TX8) (N := 6) hx hb hts hw8 hown hK hP 0 rfl rfl 2 (by decide +kernel) (hts _ mm_X8_step_207) (fun _ h9 => h9) rfl dX8_step_35 ?_
          refine lv_iconst (v := 1) hx hb dX8_step_38 (by decide +kernel) ?_
          refine lv_iadd hx hb dX8_step_39 ?_
          refine lv_topi (fun x_8196 ex_8196 => ?_)
          replace hE := hE.trans (Lt_in ex_8196)
          have hx_8196 : x_8196.toInt = (v_5504.toInt + 1) := by rw [ex_8196]; exact i_add rfl (show (1 : Int32).toInt = 1 from rfl) (by omega)
          refine va_put (ci := 8) (v := .int x_8196) (ty := .int) (C := RX8) (T := TX8) (N := 6) hx hb hts hw8 tyX8 tyX8_ok nmX8 hown hK hP hD hS 0 rfl rfl 2 (by decide +kernel) (hts _ mm_X8_step_207) (fun _ h9 => h9) rfl (by decide +kernel) (by first | rfl | decide) (by first | rfl | decide) (Nat.le_of_ble_eq_true rfl) dX8_step_40 (fun H locs hP0 hD0 hS0 => ?_)
          clear hP hD hS
          have hP := hP0
          have hD := hD0
          have hS := hS0
          clear hP0 hD0 hS0
          replace hP : va_P D vwCl [(a0, .inr (8, [.ref a1, .int ln, .int x_8196, .int to, .int fi, .int nu])), (a1, .inl (K 0, 400, .inl f))] H := hP
          replace hD : va_D A [(a0, .inr (8, [.ref a1, .int ln, .int x_8196, .int to, .int fi, .int nu])), (a1, .inl (K 0, 400, .inl f))] := hD
          refine lv_goto (tgt := 8) hx hb dX8_step_43 (by decide +kernel) ?_
          exact ih_5525 x_8196 (by rw [hx_8196]; omega) (by omega) (hE.trans (by rw [hrec_5524])) _ _ hP hD hS ls (lv_sub hl [0] rfl)
  exact lp_5524 ((400 - (to : Int32).toInt : Int).toNat + 1) to (by omega) (Nat.lt_succ_self _) hE _ _ hP hD hS ls (lv_sub hl [0] rfl)
