theorem BX12_days_0 : bsegs (ByteArray.data cX12_days |>.toList.drop 0) 0 [(0, [42]), (1, [3]), (2, [181, 0, 158]), (5, [27]), (6, [133]), (7, [9]), (8, [20, 1, 12]), (11, [184, 0, 178]), (14, [153, 0, 15]), (17, [28]), (18, [133]), (19, [10]), (20, [20, 2, 50]), (23, [184, 0, 178]), (26, [154, 0, 9]), (29, [42]), (30, [2]), (31, [182, 0, 171]), (34, [172]), (35, [42]), (36, [16, 16]), (38, [182, 0, 167]), (41, [42]), (42, [27])] = true := by decide +kernel
theorem dX12_days_0 : decode cX12_days 0 = .ok (.aload_n 0, 1) := dk_42 (bs_at BX12_days_0 0 rfl)
theorem dX12_days_1 : decode cX12_days 1 = .ok (.iconst 0, 1) := dk_3 (bs_at BX12_days_0 1 rfl)
theorem dX12_days_2 : decode cX12_days 2 = .ok (.putfield 158, 3) := dk_181 0 158 (bs_at BX12_days_0 2 rfl) rfl
theorem dX12_days_5 : decode cX12_days 5 = .ok (.iload_n 1, 1) := dk_27 (bs_at BX12_days_0 3 rfl)
theorem dX12_days_6 : decode cX12_days 6 = .ok (.i2l, 1) := dk_133 (bs_at BX12_days_0 4 rfl)
theorem dX12_days_7 : decode cX12_days 7 = .ok (.lconst 0, 1) := dk_9 (bs_at BX12_days_0 5 rfl)
theorem dX12_days_8 : decode cX12_days 8 = .ok (.ldc2_w 268, 3) := dk_20 1 12 (bs_at BX12_days_0 6 rfl) rfl
theorem dX12_days_11 : decode cX12_days 11 = .ok (.invokestatic 178, 3) := dk_184 0 178 (bs_at BX12_days_0 7 rfl) rfl
theorem dX12_days_14 : decode cX12_days 14 = .ok (.ifCond .eq 15, 3) := dk_153 0 15 (bs_at BX12_days_0 8 rfl) rfl
theorem dX12_days_17 : decode cX12_days 17 = .ok (.iload_n 2, 1) := dk_28 (bs_at BX12_days_0 9 rfl)
theorem dX12_days_18 : decode cX12_days 18 = .ok (.i2l, 1) := dk_133 (bs_at BX12_days_0 10 rfl)
theorem dX12_days_19 : decode cX12_days 19 = .ok (.lconst 1, 1) := dk_10 (bs_at BX12_days_0 11 rfl)
theorem dX12_days_20 : decode cX12_days 20 = .ok (.ldc2_w 562, 3) := dk_20 2 50 (bs_at BX12_days_0 12 rfl) rfl
theorem dX12_days_23 : decode cX12_days 23 = .ok (.invokestatic 178, 3) := dk_184 0 178 (bs_at BX12_days_0 13 rfl) rfl
theorem dX12_days_26 : decode cX12_days 26 = .ok (.ifCond .ne 9, 3) := dk_154 0 9 (bs_at BX12_days_0 14 rfl) rfl
theorem dX12_days_29 : decode cX12_days 29 = .ok (.aload_n 0, 1) := dk_42 (bs_at BX12_days_0 15 rfl)
theorem dX12_days_30 : decode cX12_days 30 = .ok (.iconst (-1), 1) := dk_2 (bs_at BX12_days_0 16 rfl)
theorem dX12_days_31 : decode cX12_days 31 = .ok (.invokevirtual 171, 3) := dk_182 0 171 (bs_at BX12_days_0 17 rfl) rfl
theorem dX12_days_34 : decode cX12_days 34 = .ok (.ireturn, 1) := dk_172 (bs_at BX12_days_0 18 rfl)
theorem dX12_days_35 : decode cX12_days 35 = .ok (.aload_n 0, 1) := dk_42 (bs_at BX12_days_0 19 rfl)
theorem dX12_days_36 : decode cX12_days 36 = .ok (.bipush 16, 2) := dk_16 16 (bs_at BX12_days_0 20 rfl) rfl
theorem dX12_days_38 : decode cX12_days 38 = .ok (.invokevirtual 167, 3) := dk_182 0 167 (bs_at BX12_days_0 21 rfl) rfl
theorem dX12_days_41 : decode cX12_days 41 = .ok (.aload_n 0, 1) := dk_42 (bs_at BX12_days_0 22 rfl)
theorem dX12_days_42 : decode cX12_days 42 = .ok (.iload_n 1, 1) := dk_27 (bs_at BX12_days_0 23 rfl)
theorem BX12_days_43 : bsegs (ByteArray.data cX12_days |>.toList.drop 43) 43 [(43, [133]), (44, [181, 2, 41]), (47, [42]), (48, [180, 0, 13]), (51, [16, 10]), (53, [46]), (54, [62]), (55, [3]), (56, [54, 4]), (58, [3]), (59, [54, 5]), (61, [21, 5]), (63, [28]), (64, [162, 0, 69]), (67, [42]), (68, [182, 1, 211]), (71, [153, 0, 62]), (74, [42]), (75, [180, 0, 13]), (78, [3]), (79, [46]), (80, [158, 0, 30]), (83, [42]), (84, [42])] = true := by decide +kernel
theorem dX12_days_43 : decode cX12_days 43 = .ok (.i2l, 1) := dk_133 (bs_at BX12_days_43 0 rfl)
theorem dX12_days_44 : decode cX12_days 44 = .ok (.putfield 553, 3) := dk_181 2 41 (bs_at BX12_days_43 1 rfl) rfl
theorem dX12_days_47 : decode cX12_days 47 = .ok (.aload_n 0, 1) := dk_42 (bs_at BX12_days_43 2 rfl)
theorem dX12_days_48 : decode cX12_days 48 = .ok (.getfield 13, 3) := dk_180 0 13 (bs_at BX12_days_43 3 rfl) rfl
theorem dX12_days_51 : decode cX12_days 51 = .ok (.bipush 10, 2) := dk_16 10 (bs_at BX12_days_43 4 rfl) rfl
theorem dX12_days_53 : decode cX12_days 53 = .ok (.iaload, 1) := dk_46 (bs_at BX12_days_43 5 rfl)
theorem dX12_days_54 : decode cX12_days 54 = .ok (.istore_n 3, 1) := dk_62 (bs_at BX12_days_43 6 rfl)
theorem dX12_days_55 : decode cX12_days 55 = .ok (.iconst 0, 1) := dk_3 (bs_at BX12_days_43 7 rfl)
theorem dX12_days_56 : decode cX12_days 56 = .ok (.istore 4, 2) := dk_54 4 (bs_at BX12_days_43 8 rfl)
theorem dX12_days_58 : decode cX12_days 58 = .ok (.iconst 0, 1) := dk_3 (bs_at BX12_days_43 9 rfl)
theorem dX12_days_59 : decode cX12_days 59 = .ok (.istore 5, 2) := dk_54 5 (bs_at BX12_days_43 10 rfl)
theorem dX12_days_61 : decode cX12_days 61 = .ok (.iload 5, 2) := dk_21 5 (bs_at BX12_days_43 11 rfl)
theorem dX12_days_63 : decode cX12_days 63 = .ok (.iload_n 2, 1) := dk_28 (bs_at BX12_days_43 12 rfl)
theorem dX12_days_64 : decode cX12_days 64 = .ok (.if_icmp .ge 69, 3) := dk_162 0 69 (bs_at BX12_days_43 13 rfl) rfl
theorem dX12_days_67 : decode cX12_days 67 = .ok (.aload_n 0, 1) := dk_42 (bs_at BX12_days_43 14 rfl)
theorem dX12_days_68 : decode cX12_days 68 = .ok (.invokevirtual 467, 3) := dk_182 1 211 (bs_at BX12_days_43 15 rfl) rfl
theorem dX12_days_71 : decode cX12_days 71 = .ok (.ifCond .eq 62, 3) := dk_153 0 62 (bs_at BX12_days_43 16 rfl) rfl
theorem dX12_days_74 : decode cX12_days 74 = .ok (.aload_n 0, 1) := dk_42 (bs_at BX12_days_43 17 rfl)
theorem dX12_days_75 : decode cX12_days 75 = .ok (.getfield 13, 3) := dk_180 0 13 (bs_at BX12_days_43 18 rfl) rfl
theorem dX12_days_78 : decode cX12_days 78 = .ok (.iconst 0, 1) := dk_3 (bs_at BX12_days_43 19 rfl)
theorem dX12_days_79 : decode cX12_days 79 = .ok (.iaload, 1) := dk_46 (bs_at BX12_days_43 20 rfl)
theorem dX12_days_80 : decode cX12_days 80 = .ok (.ifCond .le 30, 3) := dk_158 0 30 (bs_at BX12_days_43 21 rfl) rfl
theorem dX12_days_83 : decode cX12_days 83 = .ok (.aload_n 0, 1) := dk_42 (bs_at BX12_days_43 22 rfl)
theorem dX12_days_84 : decode cX12_days 84 = .ok (.aload_n 0, 1) := dk_42 (bs_at BX12_days_43 23 rfl)
theorem BX12_days_85 : bsegs (ByteArray.data cX12_days |>.toList.drop 85) 85 [(85, [180, 0, 13]), (88, [3]), (89, [46]), (90, [182, 2, 52]), (93, [54, 6]), (95, [42]), (96, [21, 6]), (98, [182, 1, 189]), (101, [153, 0, 9]), (104, [42]), (105, [21, 6]), (107, [182, 1, 195]), (110, [21, 4]), (112, [42]), (113, [182, 1, 214]), (116, [153, 0, 7]), (119, [4]), (120, [167, 0, 4]), (123, [3]), (124, [96]), (125, [54, 4]), (127, [132, 5, 1]), (130, [167, 255, 187]), (133, [42])] = true := by decide +kernel
theorem dX12_days_85 : decode cX12_days 85 = .ok (.getfield 13, 3) := dk_180 0 13 (bs_at BX12_days_85 0 rfl) rfl
theorem dX12_days_88 : decode cX12_days 88 = .ok (.iconst 0, 1) := dk_3 (bs_at BX12_days_85 1 rfl)
theorem dX12_days_89 : decode cX12_days 89 = .ok (.iaload, 1) := dk_46 (bs_at BX12_days_85 2 rfl)
theorem dX12_days_90 : decode cX12_days 90 = .ok (.invokevirtual 564, 3) := dk_182 2 52 (bs_at BX12_days_85 3 rfl) rfl
theorem dX12_days_93 : decode cX12_days 93 = .ok (.istore 6, 2) := dk_54 6 (bs_at BX12_days_85 4 rfl)
theorem dX12_days_95 : decode cX12_days 95 = .ok (.aload_n 0, 1) := dk_42 (bs_at BX12_days_85 5 rfl)
theorem dX12_days_96 : decode cX12_days 96 = .ok (.iload 6, 2) := dk_21 6 (bs_at BX12_days_85 6 rfl)
theorem dX12_days_98 : decode cX12_days 98 = .ok (.invokevirtual 445, 3) := dk_182 1 189 (bs_at BX12_days_85 7 rfl) rfl
theorem dX12_days_101 : decode cX12_days 101 = .ok (.ifCond .eq 9, 3) := dk_153 0 9 (bs_at BX12_days_85 8 rfl) rfl
theorem dX12_days_104 : decode cX12_days 104 = .ok (.aload_n 0, 1) := dk_42 (bs_at BX12_days_85 9 rfl)
theorem dX12_days_105 : decode cX12_days 105 = .ok (.iload 6, 2) := dk_21 6 (bs_at BX12_days_85 10 rfl)
theorem dX12_days_107 : decode cX12_days 107 = .ok (.invokevirtual 451, 3) := dk_182 1 195 (bs_at BX12_days_85 11 rfl) rfl
theorem dX12_days_110 : decode cX12_days 110 = .ok (.iload 4, 2) := dk_21 4 (bs_at BX12_days_85 12 rfl)
theorem dX12_days_112 : decode cX12_days 112 = .ok (.aload_n 0, 1) := dk_42 (bs_at BX12_days_85 13 rfl)
theorem dX12_days_113 : decode cX12_days 113 = .ok (.invokevirtual 470, 3) := dk_182 1 214 (bs_at BX12_days_85 14 rfl) rfl
theorem dX12_days_116 : decode cX12_days 116 = .ok (.ifCond .eq 7, 3) := dk_153 0 7 (bs_at BX12_days_85 15 rfl) rfl
theorem dX12_days_119 : decode cX12_days 119 = .ok (.iconst 1, 1) := dk_4 (bs_at BX12_days_85 16 rfl)
theorem dX12_days_120 : decode cX12_days 120 = .ok (.goto 4, 3) := dk_167 0 4 (bs_at BX12_days_85 17 rfl) rfl
theorem dX12_days_123 : decode cX12_days 123 = .ok (.iconst 0, 1) := dk_3 (bs_at BX12_days_85 18 rfl)
theorem dX12_days_124 : decode cX12_days 124 = .ok (.iadd, 1) := dk_96 (bs_at BX12_days_85 19 rfl)
theorem dX12_days_125 : decode cX12_days 125 = .ok (.istore 4, 2) := dk_54 4 (bs_at BX12_days_85 20 rfl)
theorem dX12_days_127 : decode cX12_days 127 = .ok (.iinc 5 1, 3) := dk_132 5 1 (bs_at BX12_days_85 21 rfl) rfl
theorem dX12_days_130 : decode cX12_days 130 = .ok (.goto (-69), 3) := dk_167 255 187 (bs_at BX12_days_85 22 rfl) rfl
theorem dX12_days_133 : decode cX12_days 133 = .ok (.aload_n 0, 1) := dk_42 (bs_at BX12_days_85 23 rfl)
theorem BX12_days_134 : bsegs (ByteArray.data cX12_days |>.toList.drop 134) 134 [(134, [42]), (135, [180, 0, 13]), (138, [3]), (139, [46]), (140, [181, 0, 155]), (143, [3]), (144, [54, 5]), (146, [21, 5]), (148, [42]), (149, [180, 0, 155]), (152, [162, 0, 49]), (155, [42]), (156, [180, 0, 152]), (159, [5]), (160, [21, 5]), (162, [104]), (163, [42]), (164, [180, 0, 13]), (167, [16, 11]), (169, [21, 5]), (171, [96]), (172, [46]), (173, [79]), (174, [42])] = true := by decide +kernel
theorem dX12_days_134 : decode cX12_days 134 = .ok (.aload_n 0, 1) := dk_42 (bs_at BX12_days_134 0 rfl)
theorem dX12_days_135 : decode cX12_days 135 = .ok (.getfield 13, 3) := dk_180 0 13 (bs_at BX12_days_134 1 rfl) rfl
theorem dX12_days_138 : decode cX12_days 138 = .ok (.iconst 0, 1) := dk_3 (bs_at BX12_days_134 2 rfl)
theorem dX12_days_139 : decode cX12_days 139 = .ok (.iaload, 1) := dk_46 (bs_at BX12_days_134 3 rfl)
theorem dX12_days_140 : decode cX12_days 140 = .ok (.putfield 155, 3) := dk_181 0 155 (bs_at BX12_days_134 4 rfl) rfl
theorem dX12_days_143 : decode cX12_days 143 = .ok (.iconst 0, 1) := dk_3 (bs_at BX12_days_134 5 rfl)
theorem dX12_days_144 : decode cX12_days 144 = .ok (.istore 5, 2) := dk_54 5 (bs_at BX12_days_134 6 rfl)
theorem dX12_days_146 : decode cX12_days 146 = .ok (.iload 5, 2) := dk_21 5 (bs_at BX12_days_134 7 rfl)
theorem dX12_days_148 : decode cX12_days 148 = .ok (.aload_n 0, 1) := dk_42 (bs_at BX12_days_134 8 rfl)
theorem dX12_days_149 : decode cX12_days 149 = .ok (.getfield 155, 3) := dk_180 0 155 (bs_at BX12_days_134 9 rfl) rfl
theorem dX12_days_152 : decode cX12_days 152 = .ok (.if_icmp .ge 49, 3) := dk_162 0 49 (bs_at BX12_days_134 10 rfl) rfl
theorem dX12_days_155 : decode cX12_days 155 = .ok (.aload_n 0, 1) := dk_42 (bs_at BX12_days_134 11 rfl)
theorem dX12_days_156 : decode cX12_days 156 = .ok (.getfield 152, 3) := dk_180 0 152 (bs_at BX12_days_134 12 rfl) rfl
theorem dX12_days_159 : decode cX12_days 159 = .ok (.iconst 2, 1) := dk_5 (bs_at BX12_days_134 13 rfl)
theorem dX12_days_160 : decode cX12_days 160 = .ok (.iload 5, 2) := dk_21 5 (bs_at BX12_days_134 14 rfl)
theorem dX12_days_162 : decode cX12_days 162 = .ok (.imul, 1) := dk_104 (bs_at BX12_days_134 15 rfl)
theorem dX12_days_163 : decode cX12_days 163 = .ok (.aload_n 0, 1) := dk_42 (bs_at BX12_days_134 16 rfl)
theorem dX12_days_164 : decode cX12_days 164 = .ok (.getfield 13, 3) := dk_180 0 13 (bs_at BX12_days_134 17 rfl) rfl
theorem dX12_days_167 : decode cX12_days 167 = .ok (.bipush 11, 2) := dk_16 11 (bs_at BX12_days_134 18 rfl) rfl
theorem dX12_days_169 : decode cX12_days 169 = .ok (.iload 5, 2) := dk_21 5 (bs_at BX12_days_134 19 rfl)
theorem dX12_days_171 : decode cX12_days 171 = .ok (.iadd, 1) := dk_96 (bs_at BX12_days_134 20 rfl)
theorem dX12_days_172 : decode cX12_days 172 = .ok (.iaload, 1) := dk_46 (bs_at BX12_days_134 21 rfl)
theorem dX12_days_173 : decode cX12_days 173 = .ok (.iastore, 1) := dk_79 (bs_at BX12_days_134 22 rfl)
theorem dX12_days_174 : decode cX12_days 174 = .ok (.aload_n 0, 1) := dk_42 (bs_at BX12_days_134 23 rfl)
theorem BX12_days_175 : bsegs (ByteArray.data cX12_days |>.toList.drop 175) 175 [(175, [180, 0, 152]), (178, [5]), (179, [21, 5]), (181, [104]), (182, [4]), (183, [96]), (184, [42]), (185, [180, 0, 13]), (188, [16, 19]), (190, [21, 5]), (192, [96]), (193, [46]), (194, [79]), (195, [132, 5, 1]), (198, [167, 255, 204]), (201, [42]), (202, [42]), (203, [180, 0, 13]), (206, [16, 10]), (208, [46]), (209, [29]), (210, [100]), (211, [181, 2, 55]), (214, [42])] = true := by decide +kernel
theorem dX12_days_175 : decode cX12_days 175 = .ok (.getfield 152, 3) := dk_180 0 152 (bs_at BX12_days_175 0 rfl) rfl
theorem dX12_days_178 : decode cX12_days 178 = .ok (.iconst 2, 1) := dk_5 (bs_at BX12_days_175 1 rfl)
theorem dX12_days_179 : decode cX12_days 179 = .ok (.iload 5, 2) := dk_21 5 (bs_at BX12_days_175 2 rfl)
theorem dX12_days_181 : decode cX12_days 181 = .ok (.imul, 1) := dk_104 (bs_at BX12_days_175 3 rfl)
theorem dX12_days_182 : decode cX12_days 182 = .ok (.iconst 1, 1) := dk_4 (bs_at BX12_days_175 4 rfl)
theorem dX12_days_183 : decode cX12_days 183 = .ok (.iadd, 1) := dk_96 (bs_at BX12_days_175 5 rfl)
theorem dX12_days_184 : decode cX12_days 184 = .ok (.aload_n 0, 1) := dk_42 (bs_at BX12_days_175 6 rfl)
theorem dX12_days_185 : decode cX12_days 185 = .ok (.getfield 13, 3) := dk_180 0 13 (bs_at BX12_days_175 7 rfl) rfl
theorem dX12_days_188 : decode cX12_days 188 = .ok (.bipush 19, 2) := dk_16 19 (bs_at BX12_days_175 8 rfl) rfl
theorem dX12_days_190 : decode cX12_days 190 = .ok (.iload 5, 2) := dk_21 5 (bs_at BX12_days_175 9 rfl)
theorem dX12_days_192 : decode cX12_days 192 = .ok (.iadd, 1) := dk_96 (bs_at BX12_days_175 10 rfl)
theorem dX12_days_193 : decode cX12_days 193 = .ok (.iaload, 1) := dk_46 (bs_at BX12_days_175 11 rfl)
theorem dX12_days_194 : decode cX12_days 194 = .ok (.iastore, 1) := dk_79 (bs_at BX12_days_175 12 rfl)
theorem dX12_days_195 : decode cX12_days 195 = .ok (.iinc 5 1, 3) := dk_132 5 1 (bs_at BX12_days_175 13 rfl) rfl
theorem dX12_days_198 : decode cX12_days 198 = .ok (.goto (-52), 3) := dk_167 255 204 (bs_at BX12_days_175 14 rfl) rfl
theorem dX12_days_201 : decode cX12_days 201 = .ok (.aload_n 0, 1) := dk_42 (bs_at BX12_days_175 15 rfl)
theorem dX12_days_202 : decode cX12_days 202 = .ok (.aload_n 0, 1) := dk_42 (bs_at BX12_days_175 16 rfl)
theorem dX12_days_203 : decode cX12_days 203 = .ok (.getfield 13, 3) := dk_180 0 13 (bs_at BX12_days_175 17 rfl) rfl
theorem dX12_days_206 : decode cX12_days 206 = .ok (.bipush 10, 2) := dk_16 10 (bs_at BX12_days_175 18 rfl) rfl
theorem dX12_days_208 : decode cX12_days 208 = .ok (.iaload, 1) := dk_46 (bs_at BX12_days_175 19 rfl)
theorem dX12_days_209 : decode cX12_days 209 = .ok (.iload_n 3, 1) := dk_29 (bs_at BX12_days_175 20 rfl)
theorem dX12_days_210 : decode cX12_days 210 = .ok (.isub, 1) := dk_100 (bs_at BX12_days_175 21 rfl)
theorem dX12_days_211 : decode cX12_days 211 = .ok (.putfield 567, 3) := dk_181 2 55 (bs_at BX12_days_175 22 rfl) rfl
theorem dX12_days_214 : decode cX12_days 214 = .ok (.aload_n 0, 1) := dk_42 (bs_at BX12_days_175 23 rfl)
theorem BX12_days_215 : bsegs (ByteArray.data cX12_days |>.toList.drop 215) 215 [(215, [16, 16]), (217, [182, 0, 175]), (220, [42]), (221, [21, 4]), (223, [182, 0, 171]), (226, [172])] = true := by decide +kernel
theorem dX12_days_215 : decode cX12_days 215 = .ok (.bipush 16, 2) := dk_16 16 (bs_at BX12_days_215 0 rfl) rfl
theorem dX12_days_217 : decode cX12_days 217 = .ok (.invokevirtual 175, 3) := dk_182 0 175 (bs_at BX12_days_215 1 rfl) rfl
theorem dX12_days_220 : decode cX12_days 220 = .ok (.aload_n 0, 1) := dk_42 (bs_at BX12_days_215 2 rfl)
theorem dX12_days_221 : decode cX12_days 221 = .ok (.iload 4, 2) := dk_21 4 (bs_at BX12_days_215 3 rfl)
theorem dX12_days_223 : decode cX12_days 223 = .ok (.invokevirtual 171, 3) := dk_182 0 171 (bs_at BX12_days_215 4 rfl) rfl
theorem dX12_days_226 : decode cX12_days 226 = .ok (.ireturn, 1) := dk_172 (bs_at BX12_days_215 5 rfl)
theorem ggX12_days_X12_tell : GoodIn wsX12_days wsX12_tell := gi_ch ch_X12_days ch_X12_tell (by decide +kernel)
theorem gX12_days_X12_tell : GoodIn wsX12_days (wsV RX12 171 RX12 yX12_tell wsX12_tell) := gi_ch ch_X12_days (ch_v [955, 956, 74, 156] rfl ch_X12_tell) (by decide +kernel)
theorem ggX12_days_X12_in : GoodIn wsX12_days wsX12_in := gi_ch ch_X12_days ch_X12_in (by decide +kernel)
theorem gX12_days_X12_in : GoodIn wsX12_days (va_wsS RX12 178 yX12_in wsX12_in) := gi_ch ch_X12_days (ch_s [965, 966, 156] rfl ch_X12_in) (by decide +kernel)
theorem ggX12_days_X12_keepAll : GoodIn wsX12_days wsX12_keepAll := gi_ch ch_X12_days ch_X12_keepAll (by decide +kernel)
theorem gX12_days_X12_keepAll : GoodIn wsX12_days (wsV RX12 167 RX12 yX12_keepAll wsX12_keepAll) := gi_ch ch_X12_days (ch_v [1208, 1209, 119, 156] rfl ch_X12_keepAll) (by decide +kernel)
theorem ggX12_days_X12_putBack : GoodIn wsX12_days wsX12_putBack := gi_ch ch_X12_days ch_X12_putBack (by decide +kernel)
theorem gX12_days_X12_putBack : GoodIn wsX12_days (wsV RX12 175 RX12 yX12_putBack wsX12_putBack) := gi_ch ch_X12_days (ch_v [958, 959, 75, 156] rfl ch_X12_putBack) (by decide +kernel)
theorem ggX12_days_X12_canPass : GoodIn wsX12_days wsX12_canPass := gi_ch ch_X12_days ch_X12_canPass (by decide +kernel)
theorem gX12_days_X12_canPass : GoodIn wsX12_days (wsV RX12 467 RX12 yX12_canPass wsX12_canPass) := gi_ch ch_X12_days (ch_v [1238, 1239, 125, 156] rfl ch_X12_canPass) (by decide +kernel)
theorem ggX12_days_X12_passIt : GoodIn wsX12_days wsX12_passIt := gi_ch ch_X12_days ch_X12_passIt (by decide +kernel)
theorem gX12_days_X12_passIt : GoodIn wsX12_days (wsV RX12 470 RX12 yX12_passIt wsX12_passIt) := gi_ch ch_X12_days (ch_v [1241, 1242, 126, 156] rfl ch_X12_passIt) (by decide +kernel)
theorem ggX12_days_X12_draw : GoodIn wsX12_days wsX12_draw := gi_ch ch_X12_days ch_X12_draw (by decide +kernel)
theorem gX12_days_X12_draw : GoodIn wsX12_days (wsV RX12 564 RX12 yX12_draw wsX12_draw) := gi_ch ch_X12_days (ch_v [1357, 1358, 143, 156] rfl ch_X12_draw) (by decide +kernel)
theorem ggX12_days_X12_canStoke : GoodIn wsX12_days wsX12_canStoke := gi_ch ch_X12_days ch_X12_canStoke (by decide +kernel)
theorem gX12_days_X12_canStoke : GoodIn wsX12_days (wsV RX12 445 RX12 yX12_canStoke wsX12_canStoke) := gi_ch ch_X12_days (ch_v [1202, 1203, 117, 156] rfl ch_X12_canStoke) (by decide +kernel)
theorem ggX12_days_X12_stokeIt : GoodIn wsX12_days wsX12_stokeIt := gi_ch ch_X12_days ch_X12_stokeIt (by decide +kernel)
theorem gX12_days_X12_stokeIt : GoodIn wsX12_days (wsV RX12 451 RX12 yX12_stokeIt wsX12_stokeIt) := gi_ch ch_X12_days (ch_v [1211, 1212, 120, 156] rfl ch_X12_stokeIt) (by decide +kernel)
