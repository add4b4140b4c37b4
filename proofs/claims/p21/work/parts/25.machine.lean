theorem dX3_combine_4 : decode cX3_combine 4 = .ok (.tableswitch 177 3 9 #[44, 53, 62, 71, 107, 143, 160], 44) := by decide +kernel
theorem BX3_combine_0 : bsegs (ByteArray.data cX3_combine |>.toList.drop 0) 0 [(0, [9]), (1, [55, 6]), (3, [27]), (48, [32]), (49, [22, 4]), (51, [97]), (52, [55, 6]), (54, [167, 0, 141]), (57, [32]), (58, [22, 4]), (60, [101]), (61, [55, 6]), (63, [167, 0, 132]), (66, [32]), (67, [22, 4]), (69, [105]), (70, [55, 6]), (72, [167, 0, 123]), (75, [42]), (76, [22, 4]), (78, [9]), (79, [148]), (80, [154, 0, 7]), (83, [4])] = true := by decide +kernel
theorem dX3_combine_0 : decode cX3_combine 0 = .ok (.lconst 0, 1) := dk_9 (bs_at BX3_combine_0 0 rfl)
theorem dX3_combine_1 : decode cX3_combine 1 = .ok (.lstore 6, 2) := dk_55 6 (bs_at BX3_combine_0 1 rfl)
theorem dX3_combine_3 : decode cX3_combine 3 = .ok (.iload_n 1, 1) := dk_27 (bs_at BX3_combine_0 2 rfl)
theorem dX3_combine_48 : decode cX3_combine 48 = .ok (.lload_n 2, 1) := dk_32 (bs_at BX3_combine_0 3 rfl)
theorem dX3_combine_49 : decode cX3_combine 49 = .ok (.lload 4, 2) := dk_22 4 (bs_at BX3_combine_0 4 rfl)
theorem dX3_combine_51 : decode cX3_combine 51 = .ok (.ladd, 1) := dk_97 (bs_at BX3_combine_0 5 rfl)
theorem dX3_combine_52 : decode cX3_combine 52 = .ok (.lstore 6, 2) := dk_55 6 (bs_at BX3_combine_0 6 rfl)
theorem dX3_combine_54 : decode cX3_combine 54 = .ok (.goto 141, 3) := dk_167 0 141 (bs_at BX3_combine_0 7 rfl) rfl
theorem dX3_combine_57 : decode cX3_combine 57 = .ok (.lload_n 2, 1) := dk_32 (bs_at BX3_combine_0 8 rfl)
theorem dX3_combine_58 : decode cX3_combine 58 = .ok (.lload 4, 2) := dk_22 4 (bs_at BX3_combine_0 9 rfl)
theorem dX3_combine_60 : decode cX3_combine 60 = .ok (.lsub, 1) := dk_101 (bs_at BX3_combine_0 10 rfl)
theorem dX3_combine_61 : decode cX3_combine 61 = .ok (.lstore 6, 2) := dk_55 6 (bs_at BX3_combine_0 11 rfl)
theorem dX3_combine_63 : decode cX3_combine 63 = .ok (.goto 132, 3) := dk_167 0 132 (bs_at BX3_combine_0 12 rfl) rfl
theorem dX3_combine_66 : decode cX3_combine 66 = .ok (.lload_n 2, 1) := dk_32 (bs_at BX3_combine_0 13 rfl)
theorem dX3_combine_67 : decode cX3_combine 67 = .ok (.lload 4, 2) := dk_22 4 (bs_at BX3_combine_0 14 rfl)
theorem dX3_combine_69 : decode cX3_combine 69 = .ok (.lmul, 1) := dk_105 (bs_at BX3_combine_0 15 rfl)
theorem dX3_combine_70 : decode cX3_combine 70 = .ok (.lstore 6, 2) := dk_55 6 (bs_at BX3_combine_0 16 rfl)
theorem dX3_combine_72 : decode cX3_combine 72 = .ok (.goto 123, 3) := dk_167 0 123 (bs_at BX3_combine_0 17 rfl) rfl
theorem dX3_combine_75 : decode cX3_combine 75 = .ok (.aload_n 0, 1) := dk_42 (bs_at BX3_combine_0 18 rfl)
theorem dX3_combine_76 : decode cX3_combine 76 = .ok (.lload 4, 2) := dk_22 4 (bs_at BX3_combine_0 19 rfl)
theorem dX3_combine_78 : decode cX3_combine 78 = .ok (.lconst 0, 1) := dk_9 (bs_at BX3_combine_0 20 rfl)
theorem dX3_combine_79 : decode cX3_combine 79 = .ok (.lcmp, 1) := dk_148 (bs_at BX3_combine_0 21 rfl)
theorem dX3_combine_80 : decode cX3_combine 80 = .ok (.ifCond .ne 7, 3) := dk_154 0 7 (bs_at BX3_combine_0 22 rfl) rfl
theorem dX3_combine_83 : decode cX3_combine 83 = .ok (.iconst 1, 1) := dk_4 (bs_at BX3_combine_0 23 rfl)
theorem BX3_combine_84 : bsegs (ByteArray.data cX3_combine |>.toList.drop 84) 84 [(84, [167, 0, 4]), (87, [3]), (88, [181, 0, 13]), (91, [22, 4]), (93, [9]), (94, [148]), (95, [154, 0, 7]), (98, [9]), (99, [167, 0, 7]), (102, [32]), (103, [22, 4]), (105, [109]), (106, [55, 6]), (108, [167, 0, 87]), (111, [42]), (112, [22, 4]), (114, [9]), (115, [148]), (116, [154, 0, 7]), (119, [4]), (120, [167, 0, 4]), (123, [3]), (124, [181, 0, 13]), (127, [22, 4])] = true := by decide +kernel
theorem dX3_combine_84 : decode cX3_combine 84 = .ok (.goto 4, 3) := dk_167 0 4 (bs_at BX3_combine_84 0 rfl) rfl
theorem dX3_combine_87 : decode cX3_combine 87 = .ok (.iconst 0, 1) := dk_3 (bs_at BX3_combine_84 1 rfl)
theorem dX3_combine_88 : decode cX3_combine 88 = .ok (.putfield 13, 3) := dk_181 0 13 (bs_at BX3_combine_84 2 rfl) rfl
theorem dX3_combine_91 : decode cX3_combine 91 = .ok (.lload 4, 2) := dk_22 4 (bs_at BX3_combine_84 3 rfl)
theorem dX3_combine_93 : decode cX3_combine 93 = .ok (.lconst 0, 1) := dk_9 (bs_at BX3_combine_84 4 rfl)
theorem dX3_combine_94 : decode cX3_combine 94 = .ok (.lcmp, 1) := dk_148 (bs_at BX3_combine_84 5 rfl)
theorem dX3_combine_95 : decode cX3_combine 95 = .ok (.ifCond .ne 7, 3) := dk_154 0 7 (bs_at BX3_combine_84 6 rfl) rfl
theorem dX3_combine_98 : decode cX3_combine 98 = .ok (.lconst 0, 1) := dk_9 (bs_at BX3_combine_84 7 rfl)
theorem dX3_combine_99 : decode cX3_combine 99 = .ok (.goto 7, 3) := dk_167 0 7 (bs_at BX3_combine_84 8 rfl) rfl
theorem dX3_combine_102 : decode cX3_combine 102 = .ok (.lload_n 2, 1) := dk_32 (bs_at BX3_combine_84 9 rfl)
theorem dX3_combine_103 : decode cX3_combine 103 = .ok (.lload 4, 2) := dk_22 4 (bs_at BX3_combine_84 10 rfl)
theorem dX3_combine_105 : decode cX3_combine 105 = .ok (.ldiv, 1) := dk_109 (bs_at BX3_combine_84 11 rfl)
theorem dX3_combine_106 : decode cX3_combine 106 = .ok (.lstore 6, 2) := dk_55 6 (bs_at BX3_combine_84 12 rfl)
theorem dX3_combine_108 : decode cX3_combine 108 = .ok (.goto 87, 3) := dk_167 0 87 (bs_at BX3_combine_84 13 rfl) rfl
theorem dX3_combine_111 : decode cX3_combine 111 = .ok (.aload_n 0, 1) := dk_42 (bs_at BX3_combine_84 14 rfl)
theorem dX3_combine_112 : decode cX3_combine 112 = .ok (.lload 4, 2) := dk_22 4 (bs_at BX3_combine_84 15 rfl)
theorem dX3_combine_114 : decode cX3_combine 114 = .ok (.lconst 0, 1) := dk_9 (bs_at BX3_combine_84 16 rfl)
theorem dX3_combine_115 : decode cX3_combine 115 = .ok (.lcmp, 1) := dk_148 (bs_at BX3_combine_84 17 rfl)
theorem dX3_combine_116 : decode cX3_combine 116 = .ok (.ifCond .ne 7, 3) := dk_154 0 7 (bs_at BX3_combine_84 18 rfl) rfl
theorem dX3_combine_119 : decode cX3_combine 119 = .ok (.iconst 1, 1) := dk_4 (bs_at BX3_combine_84 19 rfl)
theorem dX3_combine_120 : decode cX3_combine 120 = .ok (.goto 4, 3) := dk_167 0 4 (bs_at BX3_combine_84 20 rfl) rfl
theorem dX3_combine_123 : decode cX3_combine 123 = .ok (.iconst 0, 1) := dk_3 (bs_at BX3_combine_84 21 rfl)
theorem dX3_combine_124 : decode cX3_combine 124 = .ok (.putfield 13, 3) := dk_181 0 13 (bs_at BX3_combine_84 22 rfl) rfl
theorem dX3_combine_127 : decode cX3_combine 127 = .ok (.lload 4, 2) := dk_22 4 (bs_at BX3_combine_84 23 rfl)
theorem BX3_combine_129 : bsegs (ByteArray.data cX3_combine |>.toList.drop 129) 129 [(129, [9]), (130, [148]), (131, [154, 0, 7]), (134, [9]), (135, [167, 0, 7]), (138, [32]), (139, [22, 4]), (141, [113]), (142, [55, 6]), (144, [167, 0, 51]), (147, [32]), (148, [22, 4]), (150, [148]), (151, [156, 0, 7]), (154, [10]), (155, [167, 0, 4]), (158, [9]), (159, [55, 6]), (161, [167, 0, 34]), (164, [32]), (165, [22, 4]), (167, [148]), (168, [158, 0, 7]), (171, [10])] = true := by decide +kernel
theorem dX3_combine_129 : decode cX3_combine 129 = .ok (.lconst 0, 1) := dk_9 (bs_at BX3_combine_129 0 rfl)
theorem dX3_combine_130 : decode cX3_combine 130 = .ok (.lcmp, 1) := dk_148 (bs_at BX3_combine_129 1 rfl)
theorem dX3_combine_131 : decode cX3_combine 131 = .ok (.ifCond .ne 7, 3) := dk_154 0 7 (bs_at BX3_combine_129 2 rfl) rfl
theorem dX3_combine_134 : decode cX3_combine 134 = .ok (.lconst 0, 1) := dk_9 (bs_at BX3_combine_129 3 rfl)
theorem dX3_combine_135 : decode cX3_combine 135 = .ok (.goto 7, 3) := dk_167 0 7 (bs_at BX3_combine_129 4 rfl) rfl
theorem dX3_combine_138 : decode cX3_combine 138 = .ok (.lload_n 2, 1) := dk_32 (bs_at BX3_combine_129 5 rfl)
theorem dX3_combine_139 : decode cX3_combine 139 = .ok (.lload 4, 2) := dk_22 4 (bs_at BX3_combine_129 6 rfl)
theorem dX3_combine_141 : decode cX3_combine 141 = .ok (.lrem, 1) := dk_113 (bs_at BX3_combine_129 7 rfl)
theorem dX3_combine_142 : decode cX3_combine 142 = .ok (.lstore 6, 2) := dk_55 6 (bs_at BX3_combine_129 8 rfl)
theorem dX3_combine_144 : decode cX3_combine 144 = .ok (.goto 51, 3) := dk_167 0 51 (bs_at BX3_combine_129 9 rfl) rfl
theorem dX3_combine_147 : decode cX3_combine 147 = .ok (.lload_n 2, 1) := dk_32 (bs_at BX3_combine_129 10 rfl)
theorem dX3_combine_148 : decode cX3_combine 148 = .ok (.lload 4, 2) := dk_22 4 (bs_at BX3_combine_129 11 rfl)
theorem dX3_combine_150 : decode cX3_combine 150 = .ok (.lcmp, 1) := dk_148 (bs_at BX3_combine_129 12 rfl)
theorem dX3_combine_151 : decode cX3_combine 151 = .ok (.ifCond .ge 7, 3) := dk_156 0 7 (bs_at BX3_combine_129 13 rfl) rfl
theorem dX3_combine_154 : decode cX3_combine 154 = .ok (.lconst 1, 1) := dk_10 (bs_at BX3_combine_129 14 rfl)
theorem dX3_combine_155 : decode cX3_combine 155 = .ok (.goto 4, 3) := dk_167 0 4 (bs_at BX3_combine_129 15 rfl) rfl
theorem dX3_combine_158 : decode cX3_combine 158 = .ok (.lconst 0, 1) := dk_9 (bs_at BX3_combine_129 16 rfl)
theorem dX3_combine_159 : decode cX3_combine 159 = .ok (.lstore 6, 2) := dk_55 6 (bs_at BX3_combine_129 17 rfl)
theorem dX3_combine_161 : decode cX3_combine 161 = .ok (.goto 34, 3) := dk_167 0 34 (bs_at BX3_combine_129 18 rfl) rfl
theorem dX3_combine_164 : decode cX3_combine 164 = .ok (.lload_n 2, 1) := dk_32 (bs_at BX3_combine_129 19 rfl)
theorem dX3_combine_165 : decode cX3_combine 165 = .ok (.lload 4, 2) := dk_22 4 (bs_at BX3_combine_129 20 rfl)
theorem dX3_combine_167 : decode cX3_combine 167 = .ok (.lcmp, 1) := dk_148 (bs_at BX3_combine_129 21 rfl)
theorem dX3_combine_168 : decode cX3_combine 168 = .ok (.ifCond .le 7, 3) := dk_158 0 7 (bs_at BX3_combine_129 22 rfl) rfl
theorem dX3_combine_171 : decode cX3_combine 171 = .ok (.lconst 1, 1) := dk_10 (bs_at BX3_combine_129 23 rfl)
theorem BX3_combine_172 : bsegs (ByteArray.data cX3_combine |>.toList.drop 172) 172 [(172, [167, 0, 4]), (175, [9]), (176, [55, 6]), (178, [167, 0, 17]), (181, [32]), (182, [22, 4]), (184, [148]), (185, [154, 0, 7]), (188, [10]), (189, [167, 0, 4]), (192, [9]), (193, [55, 6]), (195, [42]), (196, [42]), (197, [180, 0, 13]), (200, [154, 0, 21]), (203, [22, 6]), (205, [20, 0, 29]), (208, [148]), (209, [157, 0, 12]), (212, [22, 6]), (214, [20, 0, 31]), (217, [148]), (218, [156, 0, 7])] = true := by decide +kernel
theorem dX3_combine_172 : decode cX3_combine 172 = .ok (.goto 4, 3) := dk_167 0 4 (bs_at BX3_combine_172 0 rfl) rfl
theorem dX3_combine_175 : decode cX3_combine 175 = .ok (.lconst 0, 1) := dk_9 (bs_at BX3_combine_172 1 rfl)
theorem dX3_combine_176 : decode cX3_combine 176 = .ok (.lstore 6, 2) := dk_55 6 (bs_at BX3_combine_172 2 rfl)
theorem dX3_combine_178 : decode cX3_combine 178 = .ok (.goto 17, 3) := dk_167 0 17 (bs_at BX3_combine_172 3 rfl) rfl
theorem dX3_combine_181 : decode cX3_combine 181 = .ok (.lload_n 2, 1) := dk_32 (bs_at BX3_combine_172 4 rfl)
theorem dX3_combine_182 : decode cX3_combine 182 = .ok (.lload 4, 2) := dk_22 4 (bs_at BX3_combine_172 5 rfl)
theorem dX3_combine_184 : decode cX3_combine 184 = .ok (.lcmp, 1) := dk_148 (bs_at BX3_combine_172 6 rfl)
theorem dX3_combine_185 : decode cX3_combine 185 = .ok (.ifCond .ne 7, 3) := dk_154 0 7 (bs_at BX3_combine_172 7 rfl) rfl
theorem dX3_combine_188 : decode cX3_combine 188 = .ok (.lconst 1, 1) := dk_10 (bs_at BX3_combine_172 8 rfl)
theorem dX3_combine_189 : decode cX3_combine 189 = .ok (.goto 4, 3) := dk_167 0 4 (bs_at BX3_combine_172 9 rfl) rfl
theorem dX3_combine_192 : decode cX3_combine 192 = .ok (.lconst 0, 1) := dk_9 (bs_at BX3_combine_172 10 rfl)
theorem dX3_combine_193 : decode cX3_combine 193 = .ok (.lstore 6, 2) := dk_55 6 (bs_at BX3_combine_172 11 rfl)
theorem dX3_combine_195 : decode cX3_combine 195 = .ok (.aload_n 0, 1) := dk_42 (bs_at BX3_combine_172 12 rfl)
theorem dX3_combine_196 : decode cX3_combine 196 = .ok (.aload_n 0, 1) := dk_42 (bs_at BX3_combine_172 13 rfl)
theorem dX3_combine_197 : decode cX3_combine 197 = .ok (.getfield 13, 3) := dk_180 0 13 (bs_at BX3_combine_172 14 rfl) rfl
theorem dX3_combine_200 : decode cX3_combine 200 = .ok (.ifCond .ne 21, 3) := dk_154 0 21 (bs_at BX3_combine_172 15 rfl) rfl
theorem dX3_combine_203 : decode cX3_combine 203 = .ok (.lload 6, 2) := dk_22 6 (bs_at BX3_combine_172 16 rfl)
theorem dX3_combine_205 : decode cX3_combine 205 = .ok (.ldc2_w 29, 3) := dk_20 0 29 (bs_at BX3_combine_172 17 rfl) rfl
theorem dX3_combine_208 : decode cX3_combine 208 = .ok (.lcmp, 1) := dk_148 (bs_at BX3_combine_172 18 rfl)
theorem dX3_combine_209 : decode cX3_combine 209 = .ok (.ifCond .gt 12, 3) := dk_157 0 12 (bs_at BX3_combine_172 19 rfl) rfl
theorem dX3_combine_212 : decode cX3_combine 212 = .ok (.lload 6, 2) := dk_22 6 (bs_at BX3_combine_172 20 rfl)
theorem dX3_combine_214 : decode cX3_combine 214 = .ok (.ldc2_w 31, 3) := dk_20 0 31 (bs_at BX3_combine_172 21 rfl) rfl
theorem dX3_combine_217 : decode cX3_combine 217 = .ok (.lcmp, 1) := dk_148 (bs_at BX3_combine_172 22 rfl)
theorem dX3_combine_218 : decode cX3_combine 218 = .ok (.ifCond .ge 7, 3) := dk_156 0 7 (bs_at BX3_combine_172 23 rfl) rfl
theorem BX3_combine_221 : bsegs (ByteArray.data cX3_combine |>.toList.drop 221) 221 [(221, [4]), (222, [167, 0, 4]), (225, [3]), (226, [181, 0, 13]), (229, [42]), (230, [180, 0, 13]), (233, [153, 0, 7]), (236, [3]), (237, [167, 0, 6]), (240, [22, 6]), (242, [136]), (243, [172])] = true := by decide +kernel
theorem dX3_combine_221 : decode cX3_combine 221 = .ok (.iconst 1, 1) := dk_4 (bs_at BX3_combine_221 0 rfl)
theorem dX3_combine_222 : decode cX3_combine 222 = .ok (.goto 4, 3) := dk_167 0 4 (bs_at BX3_combine_221 1 rfl) rfl
theorem dX3_combine_225 : decode cX3_combine 225 = .ok (.iconst 0, 1) := dk_3 (bs_at BX3_combine_221 2 rfl)
theorem dX3_combine_226 : decode cX3_combine 226 = .ok (.putfield 13, 3) := dk_181 0 13 (bs_at BX3_combine_221 3 rfl) rfl
theorem dX3_combine_229 : decode cX3_combine 229 = .ok (.aload_n 0, 1) := dk_42 (bs_at BX3_combine_221 4 rfl)
theorem dX3_combine_230 : decode cX3_combine 230 = .ok (.getfield 13, 3) := dk_180 0 13 (bs_at BX3_combine_221 5 rfl) rfl
theorem dX3_combine_233 : decode cX3_combine 233 = .ok (.ifCond .eq 7, 3) := dk_153 0 7 (bs_at BX3_combine_221 6 rfl) rfl
theorem dX3_combine_236 : decode cX3_combine 236 = .ok (.iconst 0, 1) := dk_3 (bs_at BX3_combine_221 7 rfl)
theorem dX3_combine_237 : decode cX3_combine 237 = .ok (.goto 6, 3) := dk_167 0 6 (bs_at BX3_combine_221 8 rfl) rfl
theorem dX3_combine_240 : decode cX3_combine 240 = .ok (.lload 6, 2) := dk_22 6 (bs_at BX3_combine_221 9 rfl)
theorem dX3_combine_242 : decode cX3_combine 242 = .ok (.l2i, 1) := dk_136 (bs_at BX3_combine_221 10 rfl)
theorem dX3_combine_243 : decode cX3_combine 243 = .ok (.ireturn, 1) := dk_172 (bs_at BX3_combine_221 11 rfl)
theorem BX3_run_0 : bsegs (ByteArray.data cX3_run |>.toList.drop 0) 0 [(0, [42]), (1, [28]), (2, [156, 0, 7]), (5, [4]), (6, [167, 0, 4]), (9, [3]), (10, [181, 0, 13]), (13, [3]), (14, [54, 4]), (16, [28]), (17, [54, 5]), (19, [28]), (20, [54, 6]), (22, [42]), (23, [180, 0, 13]), (26, [154, 1, 54]), (29, [21, 6]), (31, [155, 1, 49]), (34, [21, 6]), (36, [4]), (37, [96]), (38, [43]), (39, [190]), (40, [162, 1, 40])] = true := by decide +kernel
theorem dX3_run_0 : decode cX3_run 0 = .ok (.aload_n 0, 1) := dk_42 (bs_at BX3_run_0 0 rfl)
theorem dX3_run_1 : decode cX3_run 1 = .ok (.iload_n 2, 1) := dk_28 (bs_at BX3_run_0 1 rfl)
theorem dX3_run_2 : decode cX3_run 2 = .ok (.ifCond .ge 7, 3) := dk_156 0 7 (bs_at BX3_run_0 2 rfl) rfl
theorem dX3_run_5 : decode cX3_run 5 = .ok (.iconst 1, 1) := dk_4 (bs_at BX3_run_0 3 rfl)
theorem dX3_run_6 : decode cX3_run 6 = .ok (.goto 4, 3) := dk_167 0 4 (bs_at BX3_run_0 4 rfl) rfl
theorem dX3_run_9 : decode cX3_run 9 = .ok (.iconst 0, 1) := dk_3 (bs_at BX3_run_0 5 rfl)
theorem dX3_run_10 : decode cX3_run 10 = .ok (.putfield 13, 3) := dk_181 0 13 (bs_at BX3_run_0 6 rfl) rfl
theorem dX3_run_13 : decode cX3_run 13 = .ok (.iconst 0, 1) := dk_3 (bs_at BX3_run_0 7 rfl)
theorem dX3_run_14 : decode cX3_run 14 = .ok (.istore 4, 2) := dk_54 4 (bs_at BX3_run_0 8 rfl)
theorem dX3_run_16 : decode cX3_run 16 = .ok (.iload_n 2, 1) := dk_28 (bs_at BX3_run_0 9 rfl)
theorem dX3_run_17 : decode cX3_run 17 = .ok (.istore 5, 2) := dk_54 5 (bs_at BX3_run_0 10 rfl)
theorem dX3_run_19 : decode cX3_run 19 = .ok (.iload_n 2, 1) := dk_28 (bs_at BX3_run_0 11 rfl)
theorem dX3_run_20 : decode cX3_run 20 = .ok (.istore 6, 2) := dk_54 6 (bs_at BX3_run_0 12 rfl)
theorem dX3_run_22 : decode cX3_run 22 = .ok (.aload_n 0, 1) := dk_42 (bs_at BX3_run_0 13 rfl)
theorem dX3_run_23 : decode cX3_run 23 = .ok (.getfield 13, 3) := dk_180 0 13 (bs_at BX3_run_0 14 rfl) rfl
theorem dX3_run_26 : decode cX3_run 26 = .ok (.ifCond .ne 310, 3) := dk_154 1 54 (bs_at BX3_run_0 15 rfl) rfl
theorem dX3_run_29 : decode cX3_run 29 = .ok (.iload 6, 2) := dk_21 6 (bs_at BX3_run_0 16 rfl)
theorem dX3_run_31 : decode cX3_run 31 = .ok (.ifCond .lt 305, 3) := dk_155 1 49 (bs_at BX3_run_0 17 rfl) rfl
theorem dX3_run_34 : decode cX3_run 34 = .ok (.iload 6, 2) := dk_21 6 (bs_at BX3_run_0 18 rfl)
theorem dX3_run_36 : decode cX3_run 36 = .ok (.iconst 1, 1) := dk_4 (bs_at BX3_run_0 19 rfl)
theorem dX3_run_37 : decode cX3_run 37 = .ok (.iadd, 1) := dk_96 (bs_at BX3_run_0 20 rfl)
theorem dX3_run_38 : decode cX3_run 38 = .ok (.aload_n 1, 1) := dk_43 (bs_at BX3_run_0 21 rfl)
theorem dX3_run_39 : decode cX3_run 39 = .ok (.arraylength, 1) := dk_190 (bs_at BX3_run_0 22 rfl)
theorem dX3_run_40 : decode cX3_run 40 = .ok (.if_icmp .ge 296, 3) := dk_162 1 40 (bs_at BX3_run_0 23 rfl) rfl
theorem BX3_run_43 : bsegs (ByteArray.data cX3_run |>.toList.drop 43) 43 [(43, [43]), (44, [21, 6]), (46, [46]), (47, [54, 7]), (49, [43]), (50, [21, 6]), (52, [4]), (53, [96]), (54, [46]), (55, [54, 8]), (57, [21, 6]), (59, [5]), (60, [96]), (61, [54, 5]), (63, [21, 7]), (65, [154, 0, 6]), (68, [167, 1, 12]), (71, [21, 7]), (73, [4]), (74, [159, 0, 9]), (77, [21, 7]), (79, [5]), (80, [160, 0, 87]), (83, [21, 7])] = true := by decide +kernel
theorem dX3_run_43 : decode cX3_run 43 = .ok (.aload_n 1, 1) := dk_43 (bs_at BX3_run_43 0 rfl)
theorem dX3_run_44 : decode cX3_run 44 = .ok (.iload 6, 2) := dk_21 6 (bs_at BX3_run_43 1 rfl)
theorem dX3_run_46 : decode cX3_run 46 = .ok (.iaload, 1) := dk_46 (bs_at BX3_run_43 2 rfl)
theorem dX3_run_47 : decode cX3_run 47 = .ok (.istore 7, 2) := dk_54 7 (bs_at BX3_run_43 3 rfl)
theorem dX3_run_49 : decode cX3_run 49 = .ok (.aload_n 1, 1) := dk_43 (bs_at BX3_run_43 4 rfl)
theorem dX3_run_50 : decode cX3_run 50 = .ok (.iload 6, 2) := dk_21 6 (bs_at BX3_run_43 5 rfl)
theorem dX3_run_52 : decode cX3_run 52 = .ok (.iconst 1, 1) := dk_4 (bs_at BX3_run_43 6 rfl)
theorem dX3_run_53 : decode cX3_run 53 = .ok (.iadd, 1) := dk_96 (bs_at BX3_run_43 7 rfl)
theorem dX3_run_54 : decode cX3_run 54 = .ok (.iaload, 1) := dk_46 (bs_at BX3_run_43 8 rfl)
theorem dX3_run_55 : decode cX3_run 55 = .ok (.istore 8, 2) := dk_54 8 (bs_at BX3_run_43 9 rfl)
theorem dX3_run_57 : decode cX3_run 57 = .ok (.iload 6, 2) := dk_21 6 (bs_at BX3_run_43 10 rfl)
theorem dX3_run_59 : decode cX3_run 59 = .ok (.iconst 2, 1) := dk_5 (bs_at BX3_run_43 11 rfl)
theorem dX3_run_60 : decode cX3_run 60 = .ok (.iadd, 1) := dk_96 (bs_at BX3_run_43 12 rfl)
theorem dX3_run_61 : decode cX3_run 61 = .ok (.istore 5, 2) := dk_54 5 (bs_at BX3_run_43 13 rfl)
theorem dX3_run_63 : decode cX3_run 63 = .ok (.iload 7, 2) := dk_21 7 (bs_at BX3_run_43 14 rfl)
theorem dX3_run_65 : decode cX3_run 65 = .ok (.ifCond .ne 6, 3) := dk_154 0 6 (bs_at BX3_run_43 15 rfl) rfl
theorem dX3_run_68 : decode cX3_run 68 = .ok (.goto 268, 3) := dk_167 1 12 (bs_at BX3_run_43 16 rfl) rfl
theorem dX3_run_71 : decode cX3_run 71 = .ok (.iload 7, 2) := dk_21 7 (bs_at BX3_run_43 17 rfl)
theorem dX3_run_73 : decode cX3_run 73 = .ok (.iconst 1, 1) := dk_4 (bs_at BX3_run_43 18 rfl)
theorem dX3_run_74 : decode cX3_run 74 = .ok (.if_icmp .eq 9, 3) := dk_159 0 9 (bs_at BX3_run_43 19 rfl) rfl
theorem dX3_run_77 : decode cX3_run 77 = .ok (.iload 7, 2) := dk_21 7 (bs_at BX3_run_43 20 rfl)
theorem dX3_run_79 : decode cX3_run 79 = .ok (.iconst 2, 1) := dk_5 (bs_at BX3_run_43 21 rfl)
theorem dX3_run_80 : decode cX3_run 80 = .ok (.if_icmp .ne 87, 3) := dk_160 0 87 (bs_at BX3_run_43 22 rfl) rfl
theorem dX3_run_83 : decode cX3_run 83 = .ok (.iload 7, 2) := dk_21 7 (bs_at BX3_run_43 23 rfl)
theorem BX3_run_85 : bsegs (ByteArray.data cX3_run |>.toList.drop 85) 85 [(85, [4]), (86, [159, 0, 15]), (89, [21, 8]), (91, [155, 0, 14]), (94, [21, 8]), (96, [45]), (97, [190]), (98, [162, 0, 7]), (101, [4]), (102, [167, 0, 4]), (105, [3]), (106, [54, 9]), (108, [42]), (109, [21, 9]), (111, [153, 0, 13]), (114, [21, 4]), (116, [42]), (117, [180, 0, 7]), (120, [190]), (121, [161, 0, 7]), (124, [4]), (125, [167, 0, 4]), (128, [3]), (129, [181, 0, 13])] = true := by decide +kernel
theorem dX3_run_85 : decode cX3_run 85 = .ok (.iconst 1, 1) := dk_4 (bs_at BX3_run_85 0 rfl)
theorem dX3_run_86 : decode cX3_run 86 = .ok (.if_icmp .eq 15, 3) := dk_159 0 15 (bs_at BX3_run_85 1 rfl) rfl
theorem dX3_run_89 : decode cX3_run 89 = .ok (.iload 8, 2) := dk_21 8 (bs_at BX3_run_85 2 rfl)
theorem dX3_run_91 : decode cX3_run 91 = .ok (.ifCond .lt 14, 3) := dk_155 0 14 (bs_at BX3_run_85 3 rfl) rfl
theorem dX3_run_94 : decode cX3_run 94 = .ok (.iload 8, 2) := dk_21 8 (bs_at BX3_run_85 4 rfl)
theorem dX3_run_96 : decode cX3_run 96 = .ok (.aload_n 3, 1) := dk_45 (bs_at BX3_run_85 5 rfl)
theorem dX3_run_97 : decode cX3_run 97 = .ok (.arraylength, 1) := dk_190 (bs_at BX3_run_85 6 rfl)
theorem dX3_run_98 : decode cX3_run 98 = .ok (.if_icmp .ge 7, 3) := dk_162 0 7 (bs_at BX3_run_85 7 rfl) rfl
theorem dX3_run_101 : decode cX3_run 101 = .ok (.iconst 1, 1) := dk_4 (bs_at BX3_run_85 8 rfl)
theorem dX3_run_102 : decode cX3_run 102 = .ok (.goto 4, 3) := dk_167 0 4 (bs_at BX3_run_85 9 rfl) rfl
theorem dX3_run_105 : decode cX3_run 105 = .ok (.iconst 0, 1) := dk_3 (bs_at BX3_run_85 10 rfl)
theorem dX3_run_106 : decode cX3_run 106 = .ok (.istore 9, 2) := dk_54 9 (bs_at BX3_run_85 11 rfl)
theorem dX3_run_108 : decode cX3_run 108 = .ok (.aload_n 0, 1) := dk_42 (bs_at BX3_run_85 12 rfl)
theorem dX3_run_109 : decode cX3_run 109 = .ok (.iload 9, 2) := dk_21 9 (bs_at BX3_run_85 13 rfl)
theorem dX3_run_111 : decode cX3_run 111 = .ok (.ifCond .eq 13, 3) := dk_153 0 13 (bs_at BX3_run_85 14 rfl) rfl
theorem dX3_run_114 : decode cX3_run 114 = .ok (.iload 4, 2) := dk_21 4 (bs_at BX3_run_85 15 rfl)
theorem dX3_run_116 : decode cX3_run 116 = .ok (.aload_n 0, 1) := dk_42 (bs_at BX3_run_85 16 rfl)
theorem dX3_run_117 : decode cX3_run 117 = .ok (.getfield 7, 3) := dk_180 0 7 (bs_at BX3_run_85 17 rfl) rfl
theorem dX3_run_120 : decode cX3_run 120 = .ok (.arraylength, 1) := dk_190 (bs_at BX3_run_85 18 rfl)
theorem dX3_run_121 : decode cX3_run 121 = .ok (.if_icmp .lt 7, 3) := dk_161 0 7 (bs_at BX3_run_85 19 rfl) rfl
theorem dX3_run_124 : decode cX3_run 124 = .ok (.iconst 1, 1) := dk_4 (bs_at BX3_run_85 20 rfl)
theorem dX3_run_125 : decode cX3_run 125 = .ok (.goto 4, 3) := dk_167 0 4 (bs_at BX3_run_85 21 rfl) rfl
theorem dX3_run_128 : decode cX3_run 128 = .ok (.iconst 0, 1) := dk_3 (bs_at BX3_run_85 22 rfl)
theorem dX3_run_129 : decode cX3_run 129 = .ok (.putfield 13, 3) := dk_181 0 13 (bs_at BX3_run_85 23 rfl) rfl
theorem BX3_run_132 : bsegs (ByteArray.data cX3_run |>.toList.drop 132) 132 [(132, [42]), (133, [180, 0, 13]), (136, [154, 0, 28]), (139, [42]), (140, [180, 0, 7]), (143, [21, 4]), (145, [21, 7]), (147, [4]), (148, [160, 0, 8]), (151, [21, 8]), (153, [167, 0, 7]), (156, [45]), (157, [21, 8]), (159, [46]), (160, [79]), (161, [132, 4, 1]), (164, [167, 0, 165]), (167, [21, 4]), (169, [4]), (170, [162, 0, 11]), (173, [42]), (174, [4]), (175, [181, 0, 13]), (178, [167, 0, 151])] = true := by decide +kernel
theorem dX3_run_132 : decode cX3_run 132 = .ok (.aload_n 0, 1) := dk_42 (bs_at BX3_run_132 0 rfl)
theorem dX3_run_133 : decode cX3_run 133 = .ok (.getfield 13, 3) := dk_180 0 13 (bs_at BX3_run_132 1 rfl) rfl
theorem dX3_run_136 : decode cX3_run 136 = .ok (.ifCond .ne 28, 3) := dk_154 0 28 (bs_at BX3_run_132 2 rfl) rfl
theorem dX3_run_139 : decode cX3_run 139 = .ok (.aload_n 0, 1) := dk_42 (bs_at BX3_run_132 3 rfl)
theorem dX3_run_140 : decode cX3_run 140 = .ok (.getfield 7, 3) := dk_180 0 7 (bs_at BX3_run_132 4 rfl) rfl
theorem dX3_run_143 : decode cX3_run 143 = .ok (.iload 4, 2) := dk_21 4 (bs_at BX3_run_132 5 rfl)
theorem dX3_run_145 : decode cX3_run 145 = .ok (.iload 7, 2) := dk_21 7 (bs_at BX3_run_132 6 rfl)
theorem dX3_run_147 : decode cX3_run 147 = .ok (.iconst 1, 1) := dk_4 (bs_at BX3_run_132 7 rfl)
theorem dX3_run_148 : decode cX3_run 148 = .ok (.if_icmp .ne 8, 3) := dk_160 0 8 (bs_at BX3_run_132 8 rfl) rfl
theorem dX3_run_151 : decode cX3_run 151 = .ok (.iload 8, 2) := dk_21 8 (bs_at BX3_run_132 9 rfl)
theorem dX3_run_153 : decode cX3_run 153 = .ok (.goto 7, 3) := dk_167 0 7 (bs_at BX3_run_132 10 rfl) rfl
theorem dX3_run_156 : decode cX3_run 156 = .ok (.aload_n 3, 1) := dk_45 (bs_at BX3_run_132 11 rfl)
theorem dX3_run_157 : decode cX3_run 157 = .ok (.iload 8, 2) := dk_21 8 (bs_at BX3_run_132 12 rfl)
theorem dX3_run_159 : decode cX3_run 159 = .ok (.iaload, 1) := dk_46 (bs_at BX3_run_132 13 rfl)
theorem dX3_run_160 : decode cX3_run 160 = .ok (.iastore, 1) := dk_79 (bs_at BX3_run_132 14 rfl)
theorem dX3_run_161 : decode cX3_run 161 = .ok (.iinc 4 1, 3) := dk_132 4 1 (bs_at BX3_run_132 15 rfl) rfl
theorem dX3_run_164 : decode cX3_run 164 = .ok (.goto 165, 3) := dk_167 0 165 (bs_at BX3_run_132 16 rfl) rfl
theorem dX3_run_167 : decode cX3_run 167 = .ok (.iload 4, 2) := dk_21 4 (bs_at BX3_run_132 17 rfl)
theorem dX3_run_169 : decode cX3_run 169 = .ok (.iconst 1, 1) := dk_4 (bs_at BX3_run_132 18 rfl)
theorem dX3_run_170 : decode cX3_run 170 = .ok (.if_icmp .ge 11, 3) := dk_162 0 11 (bs_at BX3_run_132 19 rfl) rfl
theorem dX3_run_173 : decode cX3_run 173 = .ok (.aload_n 0, 1) := dk_42 (bs_at BX3_run_132 20 rfl)
theorem dX3_run_174 : decode cX3_run 174 = .ok (.iconst 1, 1) := dk_4 (bs_at BX3_run_132 21 rfl)
theorem dX3_run_175 : decode cX3_run 175 = .ok (.putfield 13, 3) := dk_181 0 13 (bs_at BX3_run_132 22 rfl) rfl
theorem dX3_run_178 : decode cX3_run 178 = .ok (.goto 151, 3) := dk_167 0 151 (bs_at BX3_run_132 23 rfl) rfl
theorem BX3_run_181 : bsegs (ByteArray.data cX3_run |>.toList.drop 181) 181 [(181, [21, 7]), (183, [16, 11]), (185, [160, 0, 26]), (188, [42]), (189, [180, 0, 7]), (192, [21, 4]), (194, [4]), (195, [100]), (196, [4]), (197, [42]), (198, [180, 0, 7]), (201, [21, 4]), (203, [4]), (204, [100]), (205, [46]), (206, [100]), (207, [79]), (208, [167, 0, 121]), (211, [21, 7]), (213, [16, 12]), (215, [159, 0, 10]), (218, [21, 7]), (220, [16, 13]), (222, [160, 0, 57])] = true := by decide +kernel
theorem dX3_run_181 : decode cX3_run 181 = .ok (.iload 7, 2) := dk_21 7 (bs_at BX3_run_181 0 rfl)
theorem dX3_run_183 : decode cX3_run 183 = .ok (.bipush 11, 2) := dk_16 11 (bs_at BX3_run_181 1 rfl) rfl
theorem dX3_run_185 : decode cX3_run 185 = .ok (.if_icmp .ne 26, 3) := dk_160 0 26 (bs_at BX3_run_181 2 rfl) rfl
theorem dX3_run_188 : decode cX3_run 188 = .ok (.aload_n 0, 1) := dk_42 (bs_at BX3_run_181 3 rfl)
theorem dX3_run_189 : decode cX3_run 189 = .ok (.getfield 7, 3) := dk_180 0 7 (bs_at BX3_run_181 4 rfl) rfl
theorem dX3_run_192 : decode cX3_run 192 = .ok (.iload 4, 2) := dk_21 4 (bs_at BX3_run_181 5 rfl)
theorem dX3_run_194 : decode cX3_run 194 = .ok (.iconst 1, 1) := dk_4 (bs_at BX3_run_181 6 rfl)
theorem dX3_run_195 : decode cX3_run 195 = .ok (.isub, 1) := dk_100 (bs_at BX3_run_181 7 rfl)
theorem dX3_run_196 : decode cX3_run 196 = .ok (.iconst 1, 1) := dk_4 (bs_at BX3_run_181 8 rfl)
theorem dX3_run_197 : decode cX3_run 197 = .ok (.aload_n 0, 1) := dk_42 (bs_at BX3_run_181 9 rfl)
theorem dX3_run_198 : decode cX3_run 198 = .ok (.getfield 7, 3) := dk_180 0 7 (bs_at BX3_run_181 10 rfl) rfl
theorem dX3_run_201 : decode cX3_run 201 = .ok (.iload 4, 2) := dk_21 4 (bs_at BX3_run_181 11 rfl)
theorem dX3_run_203 : decode cX3_run 203 = .ok (.iconst 1, 1) := dk_4 (bs_at BX3_run_181 12 rfl)
theorem dX3_run_204 : decode cX3_run 204 = .ok (.isub, 1) := dk_100 (bs_at BX3_run_181 13 rfl)
theorem dX3_run_205 : decode cX3_run 205 = .ok (.iaload, 1) := dk_46 (bs_at BX3_run_181 14 rfl)
theorem dX3_run_206 : decode cX3_run 206 = .ok (.isub, 1) := dk_100 (bs_at BX3_run_181 15 rfl)
theorem dX3_run_207 : decode cX3_run 207 = .ok (.iastore, 1) := dk_79 (bs_at BX3_run_181 16 rfl)
theorem dX3_run_208 : decode cX3_run 208 = .ok (.goto 121, 3) := dk_167 0 121 (bs_at BX3_run_181 17 rfl) rfl
theorem dX3_run_211 : decode cX3_run 211 = .ok (.iload 7, 2) := dk_21 7 (bs_at BX3_run_181 18 rfl)
theorem dX3_run_213 : decode cX3_run 213 = .ok (.bipush 12, 2) := dk_16 12 (bs_at BX3_run_181 19 rfl) rfl
theorem dX3_run_215 : decode cX3_run 215 = .ok (.if_icmp .eq 10, 3) := dk_159 0 10 (bs_at BX3_run_181 20 rfl) rfl
theorem dX3_run_218 : decode cX3_run 218 = .ok (.iload 7, 2) := dk_21 7 (bs_at BX3_run_181 21 rfl)
theorem dX3_run_220 : decode cX3_run 220 = .ok (.bipush 13, 2) := dk_16 13 (bs_at BX3_run_181 22 rfl) rfl
theorem dX3_run_222 : decode cX3_run 222 = .ok (.if_icmp .ne 57, 3) := dk_160 0 57 (bs_at BX3_run_181 23 rfl) rfl
theorem BX3_run_225 : bsegs (ByteArray.data cX3_run |>.toList.drop 225) 225 [(225, [42]), (226, [180, 0, 7]), (229, [21, 4]), (231, [4]), (232, [100]), (233, [46]), (234, [153, 0, 7]), (237, [4]), (238, [167, 0, 4]), (241, [3]), (242, [54, 9]), (244, [21, 9]), (246, [21, 7]), (248, [16, 12]), (250, [160, 0, 7]), (253, [4]), (254, [167, 0, 4]), (257, [3]), (258, [160, 0, 15]), (261, [21, 5]), (263, [21, 8]), (265, [184, 0, 19]), (268, [54, 5]), (270, [167, 0, 6])] = true := by decide +kernel
theorem dX3_run_225 : decode cX3_run 225 = .ok (.aload_n 0, 1) := dk_42 (bs_at BX3_run_225 0 rfl)
theorem dX3_run_226 : decode cX3_run 226 = .ok (.getfield 7, 3) := dk_180 0 7 (bs_at BX3_run_225 1 rfl) rfl
theorem dX3_run_229 : decode cX3_run 229 = .ok (.iload 4, 2) := dk_21 4 (bs_at BX3_run_225 2 rfl)
theorem dX3_run_231 : decode cX3_run 231 = .ok (.iconst 1, 1) := dk_4 (bs_at BX3_run_225 3 rfl)
theorem dX3_run_232 : decode cX3_run 232 = .ok (.isub, 1) := dk_100 (bs_at BX3_run_225 4 rfl)
theorem dX3_run_233 : decode cX3_run 233 = .ok (.iaload, 1) := dk_46 (bs_at BX3_run_225 5 rfl)
theorem dX3_run_234 : decode cX3_run 234 = .ok (.ifCond .eq 7, 3) := dk_153 0 7 (bs_at BX3_run_225 6 rfl) rfl
theorem dX3_run_237 : decode cX3_run 237 = .ok (.iconst 1, 1) := dk_4 (bs_at BX3_run_225 7 rfl)
theorem dX3_run_238 : decode cX3_run 238 = .ok (.goto 4, 3) := dk_167 0 4 (bs_at BX3_run_225 8 rfl) rfl
theorem dX3_run_241 : decode cX3_run 241 = .ok (.iconst 0, 1) := dk_3 (bs_at BX3_run_225 9 rfl)
theorem dX3_run_242 : decode cX3_run 242 = .ok (.istore 9, 2) := dk_54 9 (bs_at BX3_run_225 10 rfl)
theorem dX3_run_244 : decode cX3_run 244 = .ok (.iload 9, 2) := dk_21 9 (bs_at BX3_run_225 11 rfl)
theorem dX3_run_246 : decode cX3_run 246 = .ok (.iload 7, 2) := dk_21 7 (bs_at BX3_run_225 12 rfl)
theorem dX3_run_248 : decode cX3_run 248 = .ok (.bipush 12, 2) := dk_16 12 (bs_at BX3_run_225 13 rfl) rfl
theorem dX3_run_250 : decode cX3_run 250 = .ok (.if_icmp .ne 7, 3) := dk_160 0 7 (bs_at BX3_run_225 14 rfl) rfl
theorem dX3_run_253 : decode cX3_run 253 = .ok (.iconst 1, 1) := dk_4 (bs_at BX3_run_225 15 rfl)
theorem dX3_run_254 : decode cX3_run 254 = .ok (.goto 4, 3) := dk_167 0 4 (bs_at BX3_run_225 16 rfl) rfl
theorem dX3_run_257 : decode cX3_run 257 = .ok (.iconst 0, 1) := dk_3 (bs_at BX3_run_225 17 rfl)
theorem dX3_run_258 : decode cX3_run 258 = .ok (.if_icmp .ne 15, 3) := dk_160 0 15 (bs_at BX3_run_225 18 rfl) rfl
theorem dX3_run_261 : decode cX3_run 261 = .ok (.iload 5, 2) := dk_21 5 (bs_at BX3_run_225 19 rfl)
theorem dX3_run_263 : decode cX3_run 263 = .ok (.iload 8, 2) := dk_21 8 (bs_at BX3_run_225 20 rfl)
theorem dX3_run_265 : decode cX3_run 265 = .ok (.invokestatic 19, 3) := dk_184 0 19 (bs_at BX3_run_225 21 rfl) rfl
theorem dX3_run_268 : decode cX3_run 268 = .ok (.istore 5, 2) := dk_54 5 (bs_at BX3_run_225 22 rfl)
theorem dX3_run_270 : decode cX3_run 270 = .ok (.goto 6, 3) := dk_167 0 6 (bs_at BX3_run_225 23 rfl) rfl
theorem BX3_run_273 : bsegs (ByteArray.data cX3_run |>.toList.drop 273) 273 [(273, [132, 4, 255]), (276, [167, 0, 53]), (279, [21, 4]), (281, [5]), (282, [162, 0, 11]), (285, [42]), (286, [4]), (287, [181, 0, 13]), (290, [167, 0, 39]), (293, [132, 4, 255]), (296, [42]), (297, [180, 0, 7]), (300, [21, 4]), (302, [4]), (303, [100]), (304, [42]), (305, [21, 7]), (307, [42]), (308, [180, 0, 7]), (311, [21, 4]), (313, [4]), (314, [100]), (315, [46]), (316, [133])] = true := by decide +kernel
theorem dX3_run_273 : decode cX3_run 273 = .ok (.iinc 4 (-1), 3) := dk_132 4 255 (bs_at BX3_run_273 0 rfl) rfl
theorem dX3_run_276 : decode cX3_run 276 = .ok (.goto 53, 3) := dk_167 0 53 (bs_at BX3_run_273 1 rfl) rfl
theorem dX3_run_279 : decode cX3_run 279 = .ok (.iload 4, 2) := dk_21 4 (bs_at BX3_run_273 2 rfl)
theorem dX3_run_281 : decode cX3_run 281 = .ok (.iconst 2, 1) := dk_5 (bs_at BX3_run_273 3 rfl)
theorem dX3_run_282 : decode cX3_run 282 = .ok (.if_icmp .ge 11, 3) := dk_162 0 11 (bs_at BX3_run_273 4 rfl) rfl
theorem dX3_run_285 : decode cX3_run 285 = .ok (.aload_n 0, 1) := dk_42 (bs_at BX3_run_273 5 rfl)
theorem dX3_run_286 : decode cX3_run 286 = .ok (.iconst 1, 1) := dk_4 (bs_at BX3_run_273 6 rfl)
theorem dX3_run_287 : decode cX3_run 287 = .ok (.putfield 13, 3) := dk_181 0 13 (bs_at BX3_run_273 7 rfl) rfl
theorem dX3_run_290 : decode cX3_run 290 = .ok (.goto 39, 3) := dk_167 0 39 (bs_at BX3_run_273 8 rfl) rfl
theorem dX3_run_293 : decode cX3_run 293 = .ok (.iinc 4 (-1), 3) := dk_132 4 255 (bs_at BX3_run_273 9 rfl) rfl
theorem dX3_run_296 : decode cX3_run 296 = .ok (.aload_n 0, 1) := dk_42 (bs_at BX3_run_273 10 rfl)
theorem dX3_run_297 : decode cX3_run 297 = .ok (.getfield 7, 3) := dk_180 0 7 (bs_at BX3_run_273 11 rfl) rfl
theorem dX3_run_300 : decode cX3_run 300 = .ok (.iload 4, 2) := dk_21 4 (bs_at BX3_run_273 12 rfl)
theorem dX3_run_302 : decode cX3_run 302 = .ok (.iconst 1, 1) := dk_4 (bs_at BX3_run_273 13 rfl)
theorem dX3_run_303 : decode cX3_run 303 = .ok (.isub, 1) := dk_100 (bs_at BX3_run_273 14 rfl)
theorem dX3_run_304 : decode cX3_run 304 = .ok (.aload_n 0, 1) := dk_42 (bs_at BX3_run_273 15 rfl)
theorem dX3_run_305 : decode cX3_run 305 = .ok (.iload 7, 2) := dk_21 7 (bs_at BX3_run_273 16 rfl)
theorem dX3_run_307 : decode cX3_run 307 = .ok (.aload_n 0, 1) := dk_42 (bs_at BX3_run_273 17 rfl)
theorem dX3_run_308 : decode cX3_run 308 = .ok (.getfield 7, 3) := dk_180 0 7 (bs_at BX3_run_273 18 rfl) rfl
theorem dX3_run_311 : decode cX3_run 311 = .ok (.iload 4, 2) := dk_21 4 (bs_at BX3_run_273 19 rfl)
theorem dX3_run_313 : decode cX3_run 313 = .ok (.iconst 1, 1) := dk_4 (bs_at BX3_run_273 20 rfl)
theorem dX3_run_314 : decode cX3_run 314 = .ok (.isub, 1) := dk_100 (bs_at BX3_run_273 21 rfl)
theorem dX3_run_315 : decode cX3_run 315 = .ok (.iaload, 1) := dk_46 (bs_at BX3_run_273 22 rfl)
theorem dX3_run_316 : decode cX3_run 316 = .ok (.i2l, 1) := dk_133 (bs_at BX3_run_273 23 rfl)
theorem BX3_run_317 : bsegs (ByteArray.data cX3_run |>.toList.drop 317) 317 [(317, [42]), (318, [180, 0, 7]), (321, [21, 4]), (323, [46]), (324, [133]), (325, [182, 0, 25]), (328, [79]), (329, [21, 5]), (331, [54, 6]), (333, [167, 254, 201]), (336, [42]), (337, [180, 0, 13]), (340, [154, 0, 9]), (343, [21, 4]), (345, [4]), (346, [162, 0, 7]), (349, [3]), (350, [167, 0, 12]), (353, [42]), (354, [180, 0, 7]), (357, [21, 4]), (359, [4]), (360, [100]), (361, [46])] = true := by decide +kernel
theorem dX3_run_317 : decode cX3_run 317 = .ok (.aload_n 0, 1) := dk_42 (bs_at BX3_run_317 0 rfl)
theorem dX3_run_318 : decode cX3_run 318 = .ok (.getfield 7, 3) := dk_180 0 7 (bs_at BX3_run_317 1 rfl) rfl
theorem dX3_run_321 : decode cX3_run 321 = .ok (.iload 4, 2) := dk_21 4 (bs_at BX3_run_317 2 rfl)
theorem dX3_run_323 : decode cX3_run 323 = .ok (.iaload, 1) := dk_46 (bs_at BX3_run_317 3 rfl)
theorem dX3_run_324 : decode cX3_run 324 = .ok (.i2l, 1) := dk_133 (bs_at BX3_run_317 4 rfl)
theorem dX3_run_325 : decode cX3_run 325 = .ok (.invokevirtual 25, 3) := dk_182 0 25 (bs_at BX3_run_317 5 rfl) rfl
theorem dX3_run_328 : decode cX3_run 328 = .ok (.iastore, 1) := dk_79 (bs_at BX3_run_317 6 rfl)
theorem dX3_run_329 : decode cX3_run 329 = .ok (.iload 5, 2) := dk_21 5 (bs_at BX3_run_317 7 rfl)
theorem dX3_run_331 : decode cX3_run 331 = .ok (.istore 6, 2) := dk_54 6 (bs_at BX3_run_317 8 rfl)
theorem dX3_run_333 : decode cX3_run 333 = .ok (.goto (-311), 3) := dk_167 254 201 (bs_at BX3_run_317 9 rfl) rfl
theorem dX3_run_336 : decode cX3_run 336 = .ok (.aload_n 0, 1) := dk_42 (bs_at BX3_run_317 10 rfl)
theorem dX3_run_337 : decode cX3_run 337 = .ok (.getfield 13, 3) := dk_180 0 13 (bs_at BX3_run_317 11 rfl) rfl
theorem dX3_run_340 : decode cX3_run 340 = .ok (.ifCond .ne 9, 3) := dk_154 0 9 (bs_at BX3_run_317 12 rfl) rfl
theorem dX3_run_343 : decode cX3_run 343 = .ok (.iload 4, 2) := dk_21 4 (bs_at BX3_run_317 13 rfl)
theorem dX3_run_345 : decode cX3_run 345 = .ok (.iconst 1, 1) := dk_4 (bs_at BX3_run_317 14 rfl)
theorem dX3_run_346 : decode cX3_run 346 = .ok (.if_icmp .ge 7, 3) := dk_162 0 7 (bs_at BX3_run_317 15 rfl) rfl
theorem dX3_run_349 : decode cX3_run 349 = .ok (.iconst 0, 1) := dk_3 (bs_at BX3_run_317 16 rfl)
theorem dX3_run_350 : decode cX3_run 350 = .ok (.goto 12, 3) := dk_167 0 12 (bs_at BX3_run_317 17 rfl) rfl
theorem dX3_run_353 : decode cX3_run 353 = .ok (.aload_n 0, 1) := dk_42 (bs_at BX3_run_317 18 rfl)
theorem dX3_run_354 : decode cX3_run 354 = .ok (.getfield 7, 3) := dk_180 0 7 (bs_at BX3_run_317 19 rfl) rfl
theorem dX3_run_357 : decode cX3_run 357 = .ok (.iload 4, 2) := dk_21 4 (bs_at BX3_run_317 20 rfl)
theorem dX3_run_359 : decode cX3_run 359 = .ok (.iconst 1, 1) := dk_4 (bs_at BX3_run_317 21 rfl)
theorem dX3_run_360 : decode cX3_run 360 = .ok (.isub, 1) := dk_100 (bs_at BX3_run_317 22 rfl)
theorem dX3_run_361 : decode cX3_run 361 = .ok (.iaload, 1) := dk_46 (bs_at BX3_run_317 23 rfl)
theorem BX3_run_362 : bsegs (ByteArray.data cX3_run |>.toList.drop 362) 362 [(362, [172])] = true := by decide +kernel
theorem dX3_run_362 : decode cX3_run 362 = .ok (.ireturn, 1) := dk_172 (bs_at BX3_run_362 0 rfl)
theorem ggX3_run_X3_combine : GoodIn wsX3_run wsX3_combine := gi_ch ch_X3_run ch_X3_combine (by decide +kernel)
theorem gX3_run_X3_combine : GoodIn wsX3_run (wsV RX3 25 RX3 yX3_combine wsX3_combine) := gi_ch ch_X3_run (ch_v [420, 421, 16, 152] rfl ch_X3_combine) (by decide +kernel)
set_option maxRecDepth 100000 in
noncomputable def E_w_combine_j195 (v_174 : Int64) (v_175 : Int32) : Int32 × Int32 :=
  if v_175 = 0 then (if 0 < (lg_cmp v_174 1000000000) then (((0, 1) : Int32 × Int32)) else (if 0 ≤ (lg_cmp v_174 (-1000000000)) then (Lt ((v_174 : Int64).toInt32 : Int32) (fun x_191 => ((x_191, 0) : Int32 × Int32))) else (((0, 1) : Int32 × Int32)))) else (((0, 1) : Int32 × Int32))
set_option maxRecDepth 100000 in
noncomputable def E_w_combine (st_ : Int32) (x : Int64) (y : Int64) (br : Int32) : Int32 × Int32 :=
  if (st_ : Int32).toInt = 3 then (Lt (x + y : Int64) (fun x_194 => E_w_combine_j195 x_194 br)) else (if (st_ : Int32).toInt = 4 then (Lt (x - y : Int64) (fun x_195 => E_w_combine_j195 x_195 br)) else (if (st_ : Int32).toInt = 5 then (Lt (x * y : Int64) (fun x_196 => E_w_combine_j195 x_196 br)) else (if (st_ : Int32).toInt = 6 then (if (lg_cmp y 0) = 0 then (if (lg_cmp y 0) = 0 then (E_w_combine_j195 0 1) else (((0, 0) : Int32 × Int32))) else (if (lg_cmp y 0) = 0 then (E_w_combine_j195 0 0) else (Lt (x / y : Int64) (fun x_199 => E_w_combine_j195 x_199 0)))) else (if (st_ : Int32).toInt = 7 then (if (lg_cmp y 0) = 0 then (if (lg_cmp y 0) = 0 then (E_w_combine_j195 0 1) else (((0, 0) : Int32 × Int32))) else (if (lg_cmp y 0) = 0 then (E_w_combine_j195 0 0) else (Lt (x - x / y * y : Int64) (fun x_203 => E_w_combine_j195 x_203 0)))) else (if (st_ : Int32).toInt = 8 then (if 0 ≤ (lg_cmp x y) then (E_w_combine_j195 0 br) else (E_w_combine_j195 1 br)) else (if (st_ : Int32).toInt = 9 then (if (lg_cmp x y) ≤ 0 then (E_w_combine_j195 0 br) else (E_w_combine_j195 1 br)) else (if (lg_cmp x y) = 0 then (E_w_combine_j195 1 br) else (E_w_combine_j195 0 br))))))))
set_option maxHeartbeats 4000000 in
set_option maxRecDepth 100000 in
theorem w_combine (l : Launch) (D : va_G) (K : Nat → ClassId) (a0 : Nat) (st_ : Int32) (x : Int64) (y : Int64) (m_0 : Value) (br : Int32) (sz : Nat) (zbr : 0 ≤ br.toInt ∧ br.toInt ≤ 1) (zx : -2147483648 ≤ x.toInt ∧ x.toInt ≤ 2147483647) (zy : -2147483648 ≤ y.toInt ∧ y.toInt ≤ 2147483647) : Met l yX3_combine wsX3_combine ({ frames := 0, cells := 0, slots := 0, locals := 0 }) (va_Pc [.ref a0, .int st_, .long x, .long y] (Pre D K [(a0, .inr (3, [m_0, .int br]))] sz)) (va_Qi (S := Su) (fun (r : Int32) (u : Su) => ((-1000000000) ≤ r.toInt ∧ r.toInt ≤ 1000000000) ∧ (0 ≤ (u.2.2.2.1 0).toInt ∧ (u.2.2.2.1 0).toInt ≤ 1) ∧ ((r, (u.2.2.2.1 0)) = E_w_combine st_ x y br) ∧ True) (fun u t => Wd D (va_A [(a0, .inr (3, [m_0, .int br]))] sz) ((fun u => [(a0, .inr (3, [m_0, .int (u.2.2.2.1 0)]))]) u) t) (va_A [(a0, .inr (3, [m_0, .int br]))] sz)) 0 0 (va_A [(a0, .inr (3, [m_0, .int br]))] sz) := by
  refine Met.ofW (cc := cX3_combine) (maxL := 8) (ret := (some .int)) (by decide +kernel) rfl ?_
  intro p e s m args below meth c s₁ B hml hv
  obtain ⟨rfl, hsz, hP, hK, hD0, hN⟩ := hv
  have hx := B.exec
  have hb := B.bytes
  have hr := B.returns
  have hts := atoms_spec (ws := wsX3_combine) B.pre
  have hown : s.vm.findClass RX3 = some m.cls := findClass_of_methodNamed B.named
  have hlocks := B.notSynchronized
  subst hsz
  have hD := hD0.self (sz := s.heap.size)
  generalize hAe : va_A [(a0, .inr (3, [m_0, .int br]))] s.heap.size = A at hD ⊢
  have hA : ∀ q : Nat, s.heap.size ≤ q → A q := fun q h => by rw [← hAe]; exact Or.inr h
  clear hAe
  have hS : va_S A s.heap s.heap [] := va_S.rf
  replace hP : va_P D vwCl [(a0, .inr (3, [m_0, .int br]))] s.heap := hP
  have hl := lv_entry [.ref a0, .int st_, .long x, .long y] (n := 8) (Nat.le_of_ble_eq_true rfl)
  rw [lg_entry_eq]
  generalize (lg_sl [.ref a0, .int st_, .long x, .long y] ++ List.replicate (8 - (lg_sl [.ref a0, .int st_, .long x, .long y]).length) Slot.unset).toArray = ls at hl ⊢
  have hl : lv_has ls 8 [(0, .ref a0), (1, .int st_), (2, .long x), (4, .long y)] := hl
  have hw3 : ∀ w ∈ wsX30, w ∈ wsX3_combine := fun w h => (List.mem_cons_of_mem _ (List.mem_append_right _ h))
  generalize hQ : MQ below _ _ s _ _ _ = Q
  have hE := E_w_combine.eq_def st_ x y br
  refine lv_lconst (v := 0) hx hb dX3_combine_0 (by decide +kernel) ?_
  refine lv_lstore (lv' := [(6, .long 0), (0, .ref a0), (1, .int st_), (2, .long x), (4, .long y)]) hx hb dX3_combine_1 hl (by decide +kernel) rfl (fun ls hl => ?_)
  refine lv_iload_n hx hb dX3_combine_3 rfl (lv_at hl 2 rfl) ?_
  have j_184 : ∀ (v_174 : Int64) (v_175 : Int32) (hv_175 : 0 ≤ v_175.toInt ∧ v_175.toInt ≤ 1) (hE : E_w_combine st_ x y br = E_w_combine_j195 v_174 v_175) (H : Heap) (locs : List Loc) (hP : va_P D vwCl [(a0, .inr (3, [m_0, .int v_175]))] H) (hD : va_D A [(a0, .inr (3, [m_0, .int v_175]))]) (hS : va_S A s.heap H locs) (ls : Array Slot) (hl : lv_has ls 8 [(6, .long v_174), (0, .ref a0)]), W p l e ({ frames := 0, cells := 0, slots := 0, locals := 0 }) s m (([.ref a0, .int st_, .long x, .long y] : List Value).toArray) below meth c H locs 0 0 Q (F0 m 195 ls []) := by
    clear hE hP hD hS hl
    intro v_174 v_175 hv_175 hE H locs hP hD hS ls hl
    replace hE := hE.trans (E_w_combine_j195.eq_def _ _)
    refine lv_aload_n hx hb dX3_combine_195 rfl (lv_at hl 1 rfl) ?_
    refine lv_aload_n hx hb dX3_combine_196 rfl (lv_at hl 1 rfl) ?_
    refine va_get (ci := 3) (v := .int v_175) (C := RX3) (T := TX3) (N := 2) hx hb hts hw3 hown hK hP 0 rfl rfl 1 (by decide +kernel) (hts _ mm_X3_combine_262) (fun _ h9 => h9) rfl dX3_combine_197 ?_
    refine lv_if_ne (tgt := 221) hx hb dX3_combine_200 (by decide +kernel) (fun c_185 => ?_) (fun c_185 => ?_)
    · have c_185i := i_ne (x := v_175.toInt) (y := 0) rfl rfl c_185
      replace hE := hE.trans (if_neg c_185)
      refine lv_iconst (v := 1) hx hb dX3_combine_221 (by decide +kernel) ?_
      refine lv_goto (tgt := 226) hx hb dX3_combine_222 (by decide +kernel) ?_
      refine va_put (ci := 3) (v := .int 1) (ty := .boolean) (C := RX3) (T := TX3) (N := 2) hx hb hts hw3 tyX3 tyX3_ok nmX3 hown hK hP hD hS 0 rfl rfl 1 (by decide +kernel) (hts _ mm_X3_combine_262) (fun _ h9 => h9) rfl (by decide +kernel) (by first | rfl | decide) (by first | rfl | decide) (Nat.le_of_ble_eq_true rfl) dX3_combine_226 (fun H locs hP0 hD0 hS0 => ?_)
      clear hP hD hS
      have hP := hP0
      have hD := hD0
      have hS := hS0
      clear hP0 hD0 hS0
      replace hP : va_P D vwCl [(a0, .inr (3, [m_0, .int 1]))] H := hP
      replace hD : va_D A [(a0, .inr (3, [m_0, .int 1]))] := hD
      refine lv_aload_n hx hb dX3_combine_229 rfl (lv_at hl 1 rfl) ?_
      refine va_get (ci := 3) (v := .int 1) (C := RX3) (T := TX3) (N := 2) hx hb hts hw3 hown hK hP 0 rfl rfl 1 (by decide +kernel) (hts _ mm_X3_combine_262) (fun _ h9 => h9) rfl dX3_combine_230 ?_
      refine lv_if_eq (tgt := 240) hx hb dX3_combine_233 (by decide +kernel) (fun c_186 => absurd c_186 (by decide +kernel)) (fun c_186 => ?_)
      refine lv_iconst (v := 0) hx hb dX3_combine_236 (by decide +kernel) ?_
      refine lv_goto (tgt := 243) hx hb dX3_combine_237 (by decide +kernel) ?_
      rw [← hQ]
      have hP9 := hP.sub (ws' := [(a0, .inr (3, [m_0, .int 1]))]) [0] rfl
      have hD9 := hD.sub (ws' := [(a0, .inr (3, [m_0, .int 1]))]) [0] (by decide +kernel) rfl
      exact W.iret (v := 0) hx hb hr (fun t ht hW => ⟨⟨0, ((fun _ => 0, fun _ => fun _ => 0, fun _ => fun _ => 0, fun i => match i with | _ => 1, fun _ => 0, fun _ => fun _ => none) : Su), rfl, ⟨(show (-1000000000) ≤ (0 : Int32).toInt ∧ (0 : Int32).toInt ≤ 1000000000 by decide), (show 0 ≤ (1 : Int32).toInt ∧ (1 : Int32).toInt ≤ 1 by decide), hE.symm, trivial⟩, (⟨by rw [ht]; exact hP9, hD9⟩ : Wd D A _ t)⟩, hS.F ht⟩) hS.2.2 dX3_combine_243
    · have c_185i := i_eq (x := v_175.toInt) (y := 0) rfl rfl c_185
      replace hE := hE.trans (if_pos c_185)
      refine lv_lload hx hb dX3_combine_203 (lv_at hl 0 rfl) ?_
      refine lv_ldc2 (v := 1000000000) hx hb hown (hts _ mm_X3_combine_423) dX3_combine_205 ?_
      refine W.lcmp hx hb dX3_combine_208 ?_
      refine lv_if_gt (tgt := 221) hx hb dX3_combine_209 (by decide +kernel) (fun c_187 => ?_) (fun c_187 => ?_)
      · have c_187i := l_lt (x := 1000000000) (y := v_174.toInt) rfl rfl ((lg_cmp_gt v_174 1000000000).mp c_187)
        replace hE := hE.trans (if_pos c_187)
        refine lv_iconst (v := 1) hx hb dX3_combine_221 (by decide +kernel) ?_
        refine lv_goto (tgt := 226) hx hb dX3_combine_222 (by decide +kernel) ?_
        refine va_put (ci := 3) (v := .int 1) (ty := .boolean) (C := RX3) (T := TX3) (N := 2) hx hb hts hw3 tyX3 tyX3_ok nmX3 hown hK hP hD hS 0 rfl rfl 1 (by decide +kernel) (hts _ mm_X3_combine_262) (fun _ h9 => h9) rfl (by decide +kernel) (by first | rfl | decide) (by first | rfl | decide) (Nat.le_of_ble_eq_true rfl) dX3_combine_226 (fun H locs hP0 hD0 hS0 => ?_)
        clear hP hD hS
        have hP := hP0
        have hD := hD0
        have hS := hS0
        clear hP0 hD0 hS0
        replace hP : va_P D vwCl [(a0, .inr (3, [m_0, .int 1]))] H := hP
        replace hD : va_D A [(a0, .inr (3, [m_0, .int 1]))] := hD
        refine lv_aload_n hx hb dX3_combine_229 rfl (lv_at hl 1 rfl) ?_
        refine va_get (ci := 3) (v := .int 1) (C := RX3) (T := TX3) (N := 2) hx hb hts hw3 hown hK hP 0 rfl rfl 1 (by decide +kernel) (hts _ mm_X3_combine_262) (fun _ h9 => h9) rfl dX3_combine_230 ?_
        refine lv_if_eq (tgt := 240) hx hb dX3_combine_233 (by decide +kernel) (fun c_188 => absurd c_188 (by decide +kernel)) (fun c_188 => ?_)
        refine lv_iconst (v := 0) hx hb dX3_combine_236 (by decide +kernel) ?_
        refine lv_goto (tgt := 243) hx hb dX3_combine_237 (by decide +kernel) ?_
        rw [← hQ]
        have hP9 := hP.sub (ws' := [(a0, .inr (3, [m_0, .int 1]))]) [0] rfl
        have hD9 := hD.sub (ws' := [(a0, .inr (3, [m_0, .int 1]))]) [0] (by decide +kernel) rfl
        exact W.iret (v := 0) hx hb hr (fun t ht hW => ⟨⟨0, ((fun _ => 0, fun _ => fun _ => 0, fun _ => fun _ => 0, fun i => match i with | _ => 1, fun _ => 0, fun _ => fun _ => none) : Su), rfl, ⟨(show (-1000000000) ≤ (0 : Int32).toInt ∧ (0 : Int32).toInt ≤ 1000000000 by decide), (show 0 ≤ (1 : Int32).toInt ∧ (1 : Int32).toInt ≤ 1 by decide), hE.symm, trivial⟩, (⟨by rw [ht]; exact hP9, hD9⟩ : Wd D A _ t)⟩, hS.F ht⟩) hS.2.2 dX3_combine_243
      · have c_187i := l_nlt (x := 1000000000) (y := v_174.toInt) rfl rfl (fun q => c_187 ((lg_cmp_gt v_174 1000000000).mpr q))
        replace hE := hE.trans (if_neg c_187)
        refine lv_lload hx hb dX3_combine_212 (lv_at hl 0 rfl) ?_
        refine lv_ldc2 (v := (-1000000000)) hx hb hown (hts _ mm_X3_combine_424) dX3_combine_214 ?_
        refine W.lcmp hx hb dX3_combine_217 ?_
        refine lv_if_ge (tgt := 225) hx hb dX3_combine_218 (by decide +kernel) (fun c_189 => ?_) (fun c_189 => ?_)
        · have c_189i := l_le (x := (-1000000000)) (y := v_174.toInt) rfl rfl ((lg_cmp_ge v_174 (-1000000000)).mp c_189)
          replace hE := hE.trans (if_pos c_189)
          refine lv_iconst (v := 0) hx hb dX3_combine_225 (by decide +kernel) ?_
          refine va_put (ci := 3) (v := .int 0) (ty := .boolean) (C := RX3) (T := TX3) (N := 2) hx hb hts hw3 tyX3 tyX3_ok nmX3 hown hK hP hD hS 0 rfl rfl 1 (by decide +kernel) (hts _ mm_X3_combine_262) (fun _ h9 => h9) rfl (by decide +kernel) (by first | rfl | decide) (by first | rfl | decide) (Nat.le_of_ble_eq_true rfl) dX3_combine_226 (fun H locs hP0 hD0 hS0 => ?_)
          clear hP hD hS
          have hP := hP0
          have hD := hD0
          have hS := hS0
          clear hP0 hD0 hS0
          replace hP : va_P D vwCl [(a0, .inr (3, [m_0, .int 0]))] H := hP
          replace hD : va_D A [(a0, .inr (3, [m_0, .int 0]))] := hD
          refine lv_aload_n hx hb dX3_combine_229 rfl (lv_at hl 1 rfl) ?_
          refine va_get (ci := 3) (v := .int 0) (C := RX3) (T := TX3) (N := 2) hx hb hts hw3 hown hK hP 0 rfl rfl 1 (by decide +kernel) (hts _ mm_X3_combine_262) (fun _ h9 => h9) rfl dX3_combine_230 ?_
          refine lv_if_eq (tgt := 240) hx hb dX3_combine_233 (by decide +kernel) (fun c_190 => ?_) (fun c_190 => absurd (by decide +kernel) c_190)
          refine lv_lload hx hb dX3_combine_240 (lv_at hl 0 rfl) ?_
          refine lv_l2i hx hb dX3_combine_242 rfl ?_
          refine lv_topi (fun x_191 ex_191 => ?_)
          replace hE := hE.trans (Lt_in ex_191)
          have hx_191 : x_191.toInt = v_174.toInt := by rw [ex_191]; exact l_nar rfl (by omega)
          rw [← hQ]
          have hP9 := hP.sub (ws' := [(a0, .inr (3, [m_0, .int 0]))]) [0] rfl
          have hD9 := hD.sub (ws' := [(a0, .inr (3, [m_0, .int 0]))]) [0] (by decide +kernel) rfl
          exact W.iret (v := x_191) hx hb hr (fun t ht hW => ⟨⟨x_191, ((fun _ => 0, fun _ => fun _ => 0, fun _ => fun _ => 0, fun i => match i with | _ => 0, fun _ => 0, fun _ => fun _ => none) : Su), rfl, ⟨(show (-1000000000) ≤ x_191.toInt ∧ x_191.toInt ≤ 1000000000 by rw [hx_191]; omega), (show 0 ≤ (0 : Int32).toInt ∧ (0 : Int32).toInt ≤ 1 by decide), hE.symm, trivial⟩, (⟨by rw [ht]; exact hP9, hD9⟩ : Wd D A _ t)⟩, hS.F ht⟩) hS.2.2 dX3_combine_243
        · have c_189i := l_nle (x := (-1000000000)) (y := v_174.toInt) rfl rfl (fun q => c_189 ((lg_cmp_ge v_174 (-1000000000)).mpr q))
          replace hE := hE.trans (if_neg c_189)
          refine lv_iconst (v := 1) hx hb dX3_combine_221 (by decide +kernel) ?_
          refine lv_goto (tgt := 226) hx hb dX3_combine_222 (by decide +kernel) ?_
          refine va_put (ci := 3) (v := .int 1) (ty := .boolean) (C := RX3) (T := TX3) (N := 2) hx hb hts hw3 tyX3 tyX3_ok nmX3 hown hK hP hD hS 0 rfl rfl 1 (by decide +kernel) (hts _ mm_X3_combine_262) (fun _ h9 => h9) rfl (by decide +kernel) (by first | rfl | decide) (by first | rfl | decide) (Nat.le_of_ble_eq_true rfl) dX3_combine_226 (fun H locs hP0 hD0 hS0 => ?_)
          clear hP hD hS
          have hP := hP0
          have hD := hD0
          have hS := hS0
          clear hP0 hD0 hS0
          replace hP : va_P D vwCl [(a0, .inr (3, [m_0, .int 1]))] H := hP
          replace hD : va_D A [(a0, .inr (3, [m_0, .int 1]))] := hD
          refine lv_aload_n hx hb dX3_combine_229 rfl (lv_at hl 1 rfl) ?_
          refine va_get (ci := 3) (v := .int 1) (C := RX3) (T := TX3) (N := 2) hx hb hts hw3 hown hK hP 0 rfl rfl 1 (by decide +kernel) (hts _ mm_X3_combine_262) (fun _ h9 => h9) rfl dX3_combine_230 ?_
          refine lv_if_eq (tgt := 240) hx hb dX3_combine_233 (by decide +kernel) (fun c_192 => absurd c_192 (by decide +kernel)) (fun c_192 => ?_)
          refine lv_iconst (v := 0) hx hb dX3_combine_236 (by decide +kernel) ?_
          refine lv_goto (tgt := 243) hx hb dX3_combine_237 (by decide +kernel) ?_
          rw [← hQ]
          have hP9 := hP.sub (ws' := [(a0, .inr (3, [m_0, .int 1]))]) [0] rfl
          have hD9 := hD.sub (ws' := [(a0, .inr (3, [m_0, .int 1]))]) [0] (by decide +kernel) rfl
          exact W.iret (v := 0) hx hb hr (fun t ht hW => ⟨⟨0, ((fun _ => 0, fun _ => fun _ => 0, fun _ => fun _ => 0, fun i => match i with | _ => 1, fun _ => 0, fun _ => fun _ => none) : Su), rfl, ⟨(show (-1000000000) ≤ (0 : Int32).toInt ∧ (0 : Int32).toInt ≤ 1000000000 by decide), (show 0 ≤ (1 : Int32).toInt ∧ (1 : Int32).toInt ≤ 1 by decide), hE.symm, trivial⟩, (⟨by rw [ht]; exact hP9, hD9⟩ : Wd D A _ t)⟩, hS.F ht⟩) hS.2.2 dX3_combine_243
  have w_193 : st_.toInt = 3 ∨ st_.toInt = 4 ∨ st_.toInt = 5 ∨ st_.toInt = 6 ∨ st_.toInt = 7 ∨ st_.toInt = 8 ∨ st_.toInt = 9 ∨ (st_.toInt < 3 ∨ 9 < st_.toInt) := by omega
  rcases w_193 with w_193 | w_193 | w_193 | w_193 | w_193 | w_193 | w_193 | w_193
  · replace hE := (hE).trans (if_pos (by first | omega | (rw [rfl]; omega)))
    refine lv_tableIn (tgt := 48) hx hb dX3_combine_4 (by omega) (by omega) (by rw [w_193]; rfl) (by decide +kernel) ?_
    refine lv_lload_n hx hb dX3_combine_48 rfl (lv_at hl 3 rfl) ?_
    refine lv_lload hx hb dX3_combine_49 (lv_at hl 4 rfl) ?_
    refine lv_ladd hx hb dX3_combine_51 ?_
    refine lv_topl (fun x_194 ex_194 => ?_)
    replace hE := hE.trans (Lt_in ex_194)
    have hx_194 : x_194.toInt = (x.toInt + y.toInt) := by rw [ex_194]; exact l_add rfl rfl (by omega)
    refine lv_lstore (lv' := [(6, .long x_194), (0, .ref a0), (1, .int st_), (2, .long x), (4, .long y)]) hx hb dX3_combine_52 hl (by decide +kernel) rfl (fun ls hl => ?_)
    refine lv_goto (tgt := 195) hx hb dX3_combine_54 (by decide +kernel) ?_
    exact j_184 x_194 br (by omega) hE _ _ hP hD hS ls (lv_sub hl [0, 1] rfl)
  · replace hE := ((hE).trans (if_neg (by first | omega | (rw [rfl]; omega)))).trans (if_pos (by first | omega | (rw [rfl]; omega)))
    refine lv_tableIn (tgt := 57) hx hb dX3_combine_4 (by omega) (by omega) (by rw [w_193]; rfl) (by decide +kernel) ?_
    refine lv_lload_n hx hb dX3_combine_57 rfl (lv_at hl 3 rfl) ?_
    refine lv_lload hx hb dX3_combine_58 (lv_at hl 4 rfl) ?_
    refine lv_lsub hx hb dX3_combine_60 ?_
    refine lv_topl (fun x_195 ex_195 => ?_)
    replace hE := hE.trans (Lt_in ex_195)
    have hx_195 : x_195.toInt = (x.toInt - y.toInt) := by rw [ex_195]; exact l_sub rfl rfl (by omega)
    refine lv_lstore (lv' := [(6, .long x_195), (0, .ref a0), (1, .int st_), (2, .long x), (4, .long y)]) hx hb dX3_combine_61 hl (by decide +kernel) rfl (fun ls hl => ?_)
    refine lv_goto (tgt := 195) hx hb dX3_combine_63 (by decide +kernel) ?_
    exact j_184 x_195 br (by omega) hE _ _ hP hD hS ls (lv_sub hl [0, 1] rfl)
  · replace hE := (((hE).trans (if_neg (by first | omega | (rw [rfl]; omega)))).trans (if_neg (by first | omega | (rw [rfl]; omega)))).trans (if_pos (by first | omega | (rw [rfl]; omega)))
    refine lv_tableIn (tgt := 66) hx hb dX3_combine_4 (by omega) (by omega) (by rw [w_193]; rfl) (by decide +kernel) ?_
    refine lv_lload_n hx hb dX3_combine_66 rfl (lv_at hl 3 rfl) ?_
    refine lv_lload hx hb dX3_combine_67 (lv_at hl 4 rfl) ?_
    refine lv_lmul hx hb dX3_combine_69 ?_
    refine lv_topl (fun x_196 ex_196 => ?_)
    replace hE := hE.trans (Lt_in ex_196)
    refine lv_lstore (lv' := [(6, .long x_196), (0, .ref a0), (1, .int st_), (2, .long x), (4, .long y)]) hx hb dX3_combine_70 hl (by decide +kernel) rfl (fun ls hl => ?_)
    refine lv_goto (tgt := 195) hx hb dX3_combine_72 (by decide +kernel) ?_
    exact j_184 x_196 br (by omega) hE _ _ hP hD hS ls (lv_sub hl [0, 1] rfl)
  · replace hE := ((((hE).trans (if_neg (by first | omega | (rw [rfl]; omega)))).trans (if_neg (by first | omega | (rw [rfl]; omega)))).trans (if_neg (by first | omega | (rw [rfl]; omega)))).trans (if_pos (by first | omega | (rw [rfl]; omega)))
    refine lv_tableIn (tgt := 75) hx hb dX3_combine_4 (by omega) (by omega) (by rw [w_193]; rfl) (by decide +kernel) ?_
    refine lv_aload_n hx hb dX3_combine_75 rfl (lv_at hl 1 rfl) ?_
    refine lv_lload hx hb dX3_combine_76 (lv_at hl 4 rfl) ?_
    refine lv_lconst (v := 0) hx hb dX3_combine_78 (by decide +kernel) ?_
    refine W.lcmp hx hb dX3_combine_79 ?_
    refine lv_if_ne (tgt := 87) hx hb dX3_combine_80 (by decide +kernel) (fun c_197 => ?_) (fun c_197 => ?_)
    · have c_197i := l_ne (x := y.toInt) (y := 0) rfl rfl (fun q => c_197 ((lg_cmp_eq y 0).mpr q))
      replace hE := hE.trans (if_neg c_197)
      refine lv_iconst (v := 0) hx hb dX3_combine_87 (by decide +kernel) ?_
      refine va_put (ci := 3) (v := .int 0) (ty := .boolean) (C := RX3) (T := TX3) (N := 2) hx hb hts hw3 tyX3 tyX3_ok nmX3 hown hK hP hD hS 0 rfl rfl 1 (by decide +kernel) (hts _ mm_X3_combine_262) (fun _ h9 => h9) rfl (by decide +kernel) (by first | rfl | decide) (by first | rfl | decide) (Nat.le_of_ble_eq_true rfl) dX3_combine_88 (fun H locs hP0 hD0 hS0 => ?_)
      clear hP hD hS
      have hP := hP0
      have hD := hD0
      have hS := hS0
      clear hP0 hD0 hS0
      replace hP : va_P D vwCl [(a0, .inr (3, [m_0, .int 0]))] H := hP
      replace hD : va_D A [(a0, .inr (3, [m_0, .int 0]))] := hD
      refine lv_lload hx hb dX3_combine_91 (lv_at hl 4 rfl) ?_
      refine lv_lconst (v := 0) hx hb dX3_combine_93 (by decide +kernel) ?_
      refine W.lcmp hx hb dX3_combine_94 ?_
      refine lv_if_ne (tgt := 102) hx hb dX3_combine_95 (by decide +kernel) (fun c_198 => ?_) (fun c_198 => ?_)
      · have c_198i := l_ne (x := y.toInt) (y := 0) rfl rfl (fun q => c_198 ((lg_cmp_eq y 0).mpr q))
        replace hE := hE.trans (if_neg c_198)
        refine lv_lload_n hx hb dX3_combine_102 rfl (lv_at hl 3 rfl) ?_
        refine lv_lload hx hb dX3_combine_103 (lv_at hl 4 rfl) ?_
        refine lv_ldiv hx hb dX3_combine_105 (fun h9 => by have h8 := l_eq (x := y.toInt) (y := 0) rfl rfl h9; omega) ?_
        refine lv_topl (fun x_199 ex_199 => ?_)
        replace hE := hE.trans (Lt_in ex_199)
        refine lv_lstore (lv' := [(6, .long x_199), (0, .ref a0), (1, .int st_), (2, .long x), (4, .long y)]) hx hb dX3_combine_106 hl (by decide +kernel) rfl (fun ls hl => ?_)
        refine lv_goto (tgt := 195) hx hb dX3_combine_108 (by decide +kernel) ?_
        exact j_184 x_199 0 (by decide +kernel) hE _ _ hP hD hS ls (lv_sub hl [0, 1] rfl)
      · have c_198i := l_eq (x := y.toInt) (y := 0) rfl rfl ((lg_cmp_eq y 0).mp c_198)
        replace hE := hE.trans (if_pos c_198)
        refine lv_lconst (v := 0) hx hb dX3_combine_98 (by decide +kernel) ?_
        refine lv_goto (tgt := 106) hx hb dX3_combine_99 (by decide +kernel) ?_
        refine lv_lstore (lv' := [(6, .long 0), (0, .ref a0), (1, .int st_), (2, .long x), (4, .long y)]) hx hb dX3_combine_106 hl (by decide +kernel) rfl (fun ls hl => ?_)
        refine lv_goto (tgt := 195) hx hb dX3_combine_108 (by decide +kernel) ?_
        exact j_184 0 0 (by decide +kernel) hE _ _ hP hD hS ls (lv_sub hl [0, 1] rfl)
    · have c_197i := l_eq (x := y.toInt) (y := 0) rfl rfl ((lg_cmp_eq y 0).mp c_197)
      replace hE := hE.trans (if_pos c_197)
      refine lv_iconst (v := 1) hx hb dX3_combine_83 (by decide +kernel) ?_
      refine lv_goto (tgt := 88) hx hb dX3_combine_84 (by decide +kernel) ?_
      refine va_put (ci := 3) (v := .int 1) (ty := .boolean) (C := RX3) (T := TX3) (N := 2) hx hb hts hw3 tyX3 tyX3_ok nmX3 hown hK hP hD hS 0 rfl rfl 1 (by decide +kernel) (hts _ mm_X3_combine_262) (fun _ h9 => h9) rfl (by decide +kernel) (by first | rfl | decide) (by first | rfl | decide) (Nat.le_of_ble_eq_true rfl) dX3_combine_88 (fun H locs hP0 hD0 hS0 => ?_)
      clear hP hD hS
      have hP := hP0
      have hD := hD0
      have hS := hS0
      clear hP0 hD0 hS0
      replace hP : va_P D vwCl [(a0, .inr (3, [m_0, .int 1]))] H := hP
      replace hD : va_D A [(a0, .inr (3, [m_0, .int 1]))] := hD
      refine lv_lload hx hb dX3_combine_91 (lv_at hl 4 rfl) ?_
      refine lv_lconst (v := 0) hx hb dX3_combine_93 (by decide +kernel) ?_
      refine W.lcmp hx hb dX3_combine_94 ?_
      refine lv_if_ne (tgt := 102) hx hb dX3_combine_95 (by decide +kernel) (fun c_200 => ?_) (fun c_200 => ?_)
      · have c_200i := l_ne (x := y.toInt) (y := 0) rfl rfl (fun q => c_200 ((lg_cmp_eq y 0).mpr q))
        exfalso; omega
      · have c_200i := l_eq (x := y.toInt) (y := 0) rfl rfl ((lg_cmp_eq y 0).mp c_200)
        replace hE := hE.trans (if_pos c_200)
        refine lv_lconst (v := 0) hx hb dX3_combine_98 (by decide +kernel) ?_
        refine lv_goto (tgt := 106) hx hb dX3_combine_99 (by decide +kernel) ?_
        refine lv_lstore (lv' := [(6, .long 0), (0, .ref a0), (1, .int st_), (2, .long x), (4, .long y)]) hx hb dX3_combine_106 hl (by decide +kernel) rfl (fun ls hl => ?_)
        refine lv_goto (tgt := 195) hx hb dX3_combine_108 (by decide +kernel) ?_
        exact j_184 0 1 (by decide +kernel) hE _ _ hP hD hS ls (lv_sub hl [0, 1] rfl)
  · replace hE := (((((hE).trans (if_neg (by first | omega | (rw [rfl]; omega)))).trans (if_neg (by first | omega | (rw [rfl]; omega)))).trans (if_neg (by first | omega | (rw [rfl]; omega)))).trans (if_neg (by first | omega | (rw [rfl]; omega)))).trans (if_pos (by first | omega | (rw [rfl]; omega)))
    refine lv_tableIn (tgt := 111) hx hb dX3_combine_4 (by omega) (by omega) (by rw [w_193]; rfl) (by decide +kernel) ?_
    refine lv_aload_n hx hb dX3_combine_111 rfl (lv_at hl 1 rfl) ?_
    refine lv_lload hx hb dX3_combine_112 (lv_at hl 4 rfl) ?_
    refine lv_lconst (v := 0) hx hb dX3_combine_114 (by decide +kernel) ?_
    refine W.lcmp hx hb dX3_combine_115 ?_
    refine lv_if_ne (tgt := 123) hx hb dX3_combine_116 (by decide +kernel) (fun c_201 => ?_) (fun c_201 => ?_)
    · have c_201i := l_ne (x := y.toInt) (y := 0) rfl rfl (fun q => c_201 ((lg_cmp_eq y 0).mpr q))
      replace hE := hE.trans (if_neg c_201)
      refine lv_iconst (v := 0) hx hb dX3_combine_123 (by decide +kernel) ?_
      refine va_put (ci := 3) (v := .int 0) (ty := .boolean) (C := RX3) (T := TX3) (N := 2) hx hb hts hw3 tyX3 tyX3_ok nmX3 hown hK hP hD hS 0 rfl rfl 1 (by decide +kernel) (hts _ mm_X3_combine_262) (fun _ h9 => h9) rfl (by decide +kernel) (by first | rfl | decide) (by first | rfl | decide) (Nat.le_of_ble_eq_true rfl) dX3_combine_124 (fun H locs hP0 hD0 hS0 => ?_)
      clear hP hD hS
      have hP := hP0
      have hD := hD0
      have hS := hS0
      clear hP0 hD0 hS0
      replace hP : va_P D vwCl [(a0, .inr (3, [m_0, .int 0]))] H := hP
      replace hD : va_D A [(a0, .inr (3, [m_0, .int 0]))] := hD
      refine lv_lload hx hb dX3_combine_127 (lv_at hl 4 rfl) ?_
      refine lv_lconst (v := 0) hx hb dX3_combine_129 (by decide +kernel) ?_
      refine W.lcmp hx hb dX3_combine_130 ?_
      refine lv_if_ne (tgt := 138) hx hb dX3_combine_131 (by decide +kernel) (fun c_202 => ?_) (fun c_202 => ?_)
      · have c_202i := l_ne (x := y.toInt) (y := 0) rfl rfl (fun q => c_202 ((lg_cmp_eq y 0).mpr q))
        replace hE := hE.trans (if_neg c_202)
        refine lv_lload_n hx hb dX3_combine_138 rfl (lv_at hl 3 rfl) ?_
        refine lv_lload hx hb dX3_combine_139 (lv_at hl 4 rfl) ?_
        refine lv_lrem hx hb dX3_combine_141 (fun h9 => by have h8 := l_eq (x := y.toInt) (y := 0) rfl rfl h9; omega) ?_
        refine lv_topl (fun x_203 ex_203 => ?_)
        replace hE := hE.trans (Lt_in ex_203)
        refine lv_lstore (lv' := [(6, .long x_203), (0, .ref a0), (1, .int st_), (2, .long x), (4, .long y)]) hx hb dX3_combine_142 hl (by decide +kernel) rfl (fun ls hl => ?_)
        refine lv_goto (tgt := 195) hx hb dX3_combine_144 (by decide +kernel) ?_
        exact j_184 x_203 0 (by decide +kernel) hE _ _ hP hD hS ls (lv_sub hl [0, 1] rfl)
      · have c_202i := l_eq (x := y.toInt) (y := 0) rfl rfl ((lg_cmp_eq y 0).mp c_202)
        replace hE := hE.trans (if_pos c_202)
        refine lv_lconst (v := 0) hx hb dX3_combine_134 (by decide +kernel) ?_
        refine lv_goto (tgt := 142) hx hb dX3_combine_135 (by decide +kernel) ?_
        refine lv_lstore (lv' := [(6, .long 0), (0, .ref a0), (1, .int st_), (2, .long x), (4, .long y)]) hx hb dX3_combine_142 hl (by decide +kernel) rfl (fun ls hl => ?_)
        refine lv_goto (tgt := 195) hx hb dX3_combine_144 (by decide +kernel) ?_
        exact j_184 0 0 (by decide +kernel) hE _ _ hP hD hS ls (lv_sub hl [0, 1] rfl)
    · have c_201i := l_eq (x := y.toInt) (y := 0) rfl rfl ((lg_cmp_eq y 0).mp c_201)
      replace hE := hE.trans (if_pos c_201)
      refine lv_iconst (v := 1) hx hb dX3_combine_119 (by decide +kernel) ?_
      refine lv_goto (tgt := 124) hx hb dX3_combine_120 (by decide +kernel) ?_
      refine va_put (ci := 3) (v := .int 1) (ty := .boolean) (C := RX3) (T := TX3) (N := 2) hx hb hts hw3 tyX3 tyX3_ok nmX3 hown hK hP hD hS 0 rfl rfl 1 (by decide +kernel) (hts _ mm_X3_combine_262) (fun _ h9 => h9) rfl (by decide +kernel) (by first | rfl | decide) (by first | rfl | decide) (Nat.le_of_ble_eq_true rfl) dX3_combine_124 (fun H locs hP0 hD0 hS0 => ?_)
      clear hP hD hS
      have hP := hP0
      have hD := hD0
      have hS := hS0
      clear hP0 hD0 hS0
      replace hP : va_P D vwCl [(a0, .inr (3, [m_0, .int 1]))] H := hP
      replace hD : va_D A [(a0, .inr (3, [m_0, .int 1]))] := hD
      refine lv_lload hx hb dX3_combine_127 (lv_at hl 4 rfl) ?_
      refine lv_lconst (v := 0) hx hb dX3_combine_129 (by decide +kernel) ?_
      refine W.lcmp hx hb dX3_combine_130 ?_
      refine lv_if_ne (tgt := 138) hx hb dX3_combine_131 (by decide +kernel) (fun c_204 => ?_) (fun c_204 => ?_)
      · have c_204i := l_ne (x := y.toInt) (y := 0) rfl rfl (fun q => c_204 ((lg_cmp_eq y 0).mpr q))
        exfalso; omega
      · have c_204i := l_eq (x := y.toInt) (y := 0) rfl rfl ((lg_cmp_eq y 0).mp c_204)
        replace hE := hE.trans (if_pos c_204)
        refine lv_lconst (v := 0) hx hb dX3_combine_134 (by decide +kernel) ?_
        refine lv_goto (tgt := 142) hx hb dX3_combine_135 (by decide +kernel) ?_
        refine lv_lstore (lv' := [(6, .long 0), (0, .ref a0), (1, .int st_), (2, .long x), (4, .long y)]) hx hb dX3_combine_142 hl (by decide +kernel) rfl (fun ls hl => ?_)
        refine lv_goto (tgt := 195) hx hb dX3_combine_144 (by decide +kernel) ?_
        exact j_184 0 1 (by decide +kernel) hE _ _ hP hD hS ls (lv_sub hl [0, 1] rfl)
  · replace hE := ((((((hE).trans (if_neg (by first | omega | (rw [rfl]; omega)))).trans (if_neg (by first | omega | (rw [rfl]; omega)))).trans (if_neg (by first | omega | (rw [rfl]; omega)))).trans (if_neg (by first | omega | (rw [rfl]; omega)))).trans (if_neg (by first | omega | (rw [rfl]; omega)))).trans (if_pos (by first | omega | (rw [rfl]; omega)))
    refine lv_tableIn (tgt := 147) hx hb dX3_combine_4 (by omega) (by omega) (by rw [w_193]; rfl) (by decide +kernel) ?_
    refine lv_lload_n hx hb dX3_combine_147 rfl (lv_at hl 3 rfl) ?_
    refine lv_lload hx hb dX3_combine_148 (lv_at hl 4 rfl) ?_
    refine W.lcmp hx hb dX3_combine_150 ?_
    refine lv_if_ge (tgt := 158) hx hb dX3_combine_151 (by decide +kernel) (fun c_205 => ?_) (fun c_205 => ?_)
    · have c_205i := l_le (x := y.toInt) (y := x.toInt) rfl rfl ((lg_cmp_ge x y).mp c_205)
      replace hE := hE.trans (if_pos c_205)
      refine lv_lconst (v := 0) hx hb dX3_combine_158 (by decide +kernel) ?_
      refine lv_lstore (lv' := [(6, .long 0), (0, .ref a0), (1, .int st_), (2, .long x), (4, .long y)]) hx hb dX3_combine_159 hl (by decide +kernel) rfl (fun ls hl => ?_)
      refine lv_goto (tgt := 195) hx hb dX3_combine_161 (by decide +kernel) ?_
      exact j_184 0 br (by omega) hE _ _ hP hD hS ls (lv_sub hl [0, 1] rfl)
    · have c_205i := l_nle (x := y.toInt) (y := x.toInt) rfl rfl (fun q => c_205 ((lg_cmp_ge x y).mpr q))
      replace hE := hE.trans (if_neg c_205)
      refine lv_lconst (v := 1) hx hb dX3_combine_154 (by decide +kernel) ?_
      refine lv_goto (tgt := 159) hx hb dX3_combine_155 (by decide +kernel) ?_
      refine lv_lstore (lv' := [(6, .long 1), (0, .ref a0), (1, .int st_), (2, .long x), (4, .long y)]) hx hb dX3_combine_159 hl (by decide +kernel) rfl (fun ls hl => ?_)
      refine lv_goto (tgt := 195) hx hb dX3_combine_161 (by decide +kernel) ?_
      exact j_184 1 br (by omega) hE _ _ hP hD hS ls (lv_sub hl [0, 1] rfl)
  · replace hE := (((((((hE).trans (if_neg (by first | omega | (rw [rfl]; omega)))).trans (if_neg (by first | omega | (rw [rfl]; omega)))).trans (if_neg (by first | omega | (rw [rfl]; omega)))).trans (if_neg (by first | omega | (rw [rfl]; omega)))).trans (if_neg (by first | omega | (rw [rfl]; omega)))).trans (if_neg (by first | omega | (rw [rfl]; omega)))).trans (if_pos (by first | omega | (rw [rfl]; omega)))
    refine lv_tableIn (tgt := 164) hx hb dX3_combine_4 (by omega) (by omega) (by rw [w_193]; rfl) (by decide +kernel) ?_
    refine lv_lload_n hx hb dX3_combine_164 rfl (lv_at hl 3 rfl) ?_
    refine lv_lload hx hb dX3_combine_165 (lv_at hl 4 rfl) ?_
    refine W.lcmp hx hb dX3_combine_167 ?_
    refine lv_if_le (tgt := 175) hx hb dX3_combine_168 (by decide +kernel) (fun c_206 => ?_) (fun c_206 => ?_)
    · have c_206i := l_le (x := x.toInt) (y := y.toInt) rfl rfl ((lg_cmp_le x y).mp c_206)
      replace hE := hE.trans (if_pos c_206)
      refine lv_lconst (v := 0) hx hb dX3_combine_175 (by decide +kernel) ?_
      refine lv_lstore (lv' := [(6, .long 0), (0, .ref a0), (1, .int st_), (2, .long x), (4, .long y)]) hx hb dX3_combine_176 hl (by decide +kernel) rfl (fun ls hl => ?_)
      refine lv_goto (tgt := 195) hx hb dX3_combine_178 (by decide +kernel) ?_
      exact j_184 0 br (by omega) hE _ _ hP hD hS ls (lv_sub hl [0, 1] rfl)
    · have c_206i := l_nle (x := x.toInt) (y := y.toInt) rfl rfl (fun q => c_206 ((lg_cmp_le x y).mpr q))
      replace hE := hE.trans (if_neg c_206)
      refine lv_lconst (v := 1) hx hb dX3_combine_171 (by decide +kernel) ?_
      refine lv_goto (tgt := 176) hx hb dX3_combine_172 (by decide +kernel) ?_
      refine lv_lstore (lv' := [(6, .long 1), (0, .ref a0), (1, .int st_), (2, .long x), (4, .long y)]) hx hb dX3_combine_176 hl (by decide +kernel) rfl (fun ls hl => ?_)
      refine lv_goto (tgt := 195) hx hb dX3_combine_178 (by decide +kernel) ?_
      exact j_184 1 br (by omega) hE _ _ hP hD hS ls (lv_sub hl [0, 1] rfl)
  · replace hE := (((((((hE).trans (if_neg (by first | omega | (rw [rfl]; omega)))).trans (if_neg (by first | omega | (rw [rfl]; omega)))).trans (if_neg (by first | omega | (rw [rfl]; omega)))).trans (if_neg (by first | omega | (rw [rfl]; omega)))).trans (if_neg (by first | omega | (rw [rfl]; omega)))).trans (if_neg (by first | omega | (rw [rfl]; omega)))).trans (if_neg (by first | omega | (rw [rfl]; omega)))
    refine lv_tableOut (tgt := 181) hx hb dX3_combine_4 (by omega) (by decide +kernel) ?_
    refine lv_lload_n hx hb dX3_combine_181 rfl (lv_at hl 3 rfl) ?_
    refine lv_lload hx hb dX3_combine_182 (lv_at hl 4 rfl) ?_
    refine W.lcmp hx hb dX3_combine_184 ?_
    refine lv_if_ne (tgt := 192) hx hb dX3_combine_185 (by decide +kernel) (fun c_207 => ?_) (fun c_207 => ?_)
    · have c_207i := l_ne (x := x.toInt) (y := y.toInt) rfl rfl (fun q => c_207 ((lg_cmp_eq x y).mpr q))
      replace hE := hE.trans (if_neg c_207)
      refine lv_lconst (v := 0) hx hb dX3_combine_192 (by decide +kernel) ?_
      refine lv_lstore (lv' := [(6, .long 0), (0, .ref a0), (1, .int st_), (2, .long x), (4, .long y)]) hx hb dX3_combine_193 hl (by decide +kernel) rfl (fun ls hl => ?_)
      exact j_184 0 br (by omega) hE _ _ hP hD hS ls (lv_sub hl [0, 1] rfl)
    · have c_207i := l_eq (x := x.toInt) (y := y.toInt) rfl rfl ((lg_cmp_eq x y).mp c_207)
      replace hE := hE.trans (if_pos c_207)
      refine lv_lconst (v := 1) hx hb dX3_combine_188 (by decide +kernel) ?_
      refine lv_goto (tgt := 193) hx hb dX3_combine_189 (by decide +kernel) ?_
      refine lv_lstore (lv' := [(6, .long 1), (0, .ref a0), (1, .int st_), (2, .long x), (4, .long y)]) hx hb dX3_combine_193 hl (by decide +kernel) rfl (fun ls hl => ?_)
      exact j_184 1 br (by omega) hE _ _ hP hD hS ls (lv_sub hl [0, 1] rfl)
set_option maxRecDepth 100000 in
noncomputable def E_w_run_j349 (v_5748 : Int32) (f_5749 : Nat → Int32) : Int32 × Int32 × (Nat → Int32) :=
  ((0, v_5748, f_5749) : Int32 × Int32 × (Nat → Int32))
set_option maxRecDepth 100000 in
noncomputable def E_w_run_j336 (v_5747 : Int32) (v_5748 : Int32) (f_5749 : Nat → Int32) : Int32 × Int32 × (Nat → Int32) :=
  if v_5748 = 0 then (if 1 ≤ v_5747 then (Lt (v_5747 - 1 : Int32) (fun x_6905 => Lt (f_5749 (x_6905 : Int32).toNatClampNeg : Int32) (fun x_6906 => ((x_6906, v_5748, f_5749) : Int32 × Int32 × (Nat → Int32))))) else (E_w_run_j349 v_5748 f_5749)) else (E_w_run_j349 v_5748 f_5749)
set_option maxRecDepth 100000 in
noncomputable def E_w_run_j329 (rec_6660 : Int32 → Int32 → Int32 → (Nat → Int32) → (Int32 × Int32 × (Nat → Int32))) (v_7016 : Int32) (v_7017 : Int32) (v_7018 : Int32) (f_7019 : Nat → Int32) : Int32 × Int32 × (Nat → Int32) :=
  rec_6660 v_7017 v_7016 v_7018 f_7019
set_option maxRecDepth 100000 in
noncomputable def E_w_run_j83 (nw : Nat) (fw : Nat → Int32) (v_5747 : Int32) (f_5749 : Nat → Int32) (rec_6660 : Int32 → Int32 → Int32 → (Nat → Int32) → (Int32 × Int32 × (Nat → Int32))) (x_6911 : Int32) (x_6913 : Int32) (x_6914 : Int32) : Int32 × Int32 × (Nat → Int32) :=
  if x_6911 = 1 then (if v_5747 < 64 then (if x_6911 = 1 then (Lt (upd f_5749 (v_5747 : Int32).toNatClampNeg x_6913 : Nat → Int32) (fun f_7027 => Lt (v_5747 + Int32.ofInt 1 : Int32) (fun x_7028 => E_w_run_j329 rec_6660 x_7028 x_6914 0 f_7027))) else (((0, 0, fun _ => 0) : Int32 × Int32 × (Nat → Int32)))) else (E_w_run_j329 rec_6660 v_5747 x_6914 1 f_5749)) else (if x_6913 < 0 then (((0, 0, fun _ => 0) : Int32 × Int32 × (Nat → Int32))) else (if (nI nw) ≤ x_6913 then (E_w_run_j329 rec_6660 v_5747 x_6914 1 f_5749) else (if v_5747 < 64 then (if x_6911 = 1 then (((0, 0, fun _ => 0) : Int32 × Int32 × (Nat → Int32))) else (Lt (fw (x_6913 : Int32).toNatClampNeg : Int32) (fun x_7056 => Lt (upd f_5749 (v_5747 : Int32).toNatClampNeg x_7056 : Nat → Int32) (fun f_7057 => Lt (v_5747 + Int32.ofInt 1 : Int32) (fun x_7058 => E_w_run_j329 rec_6660 x_7058 x_6914 0 f_7057))))) else (E_w_run_j329 rec_6660 v_5747 x_6914 1 f_5749))))
set_option maxRecDepth 100000 in
noncomputable def E_w_run_j225 (v_5747 : Int32) (v_5748 : Int32) (f_5749 : Nat → Int32) (rec_6660 : Int32 → Int32 → Int32 → (Nat → Int32) → (Int32 × Int32 × (Nat → Int32))) (x_6911 : Int32) (x_6913 : Int32) (x_6914 : Int32) : Int32 × Int32 × (Nat → Int32) :=
  Lt (v_5747 - 1 : Int32) (fun x_7097 => Lt (f_5749 (x_7097 : Int32).toNatClampNeg : Int32) (fun x_7098 => if x_7098 = 0 then (if x_6911 = 12 then (Lt (v_5747 + Int32.ofInt (-1) : Int32) (fun x_7104 => E_w_run_j329 rec_6660 x_7104 x_6914 v_5748 f_5749)) else (Lt (if (x_6914 : Int32) < (x_6913 : Int32) then (x_6913 : Int32) else (x_6914 : Int32) : Int32) (fun x_7102 => E_w_run_j329 rec_6660 v_5747 x_7102 v_5748 f_5749))) else (if x_6911 = 12 then (Lt (if (x_6914 : Int32) < (x_6913 : Int32) then (x_6913 : Int32) else (x_6914 : Int32) : Int32) (fun x_7109 => E_w_run_j329 rec_6660 v_5747 x_7109 v_5748 f_5749)) else (Lt (v_5747 + Int32.ofInt (-1) : Int32) (fun x_7107 => E_w_run_j329 rec_6660 x_7107 x_6914 v_5748 f_5749)))))
set_option maxRecDepth 100000 in
noncomputable def E_w_run_l22 (nw : Nat) (fw : Nat → Int32) (nc : Nat) (fc : Nat → Int32) (rec_6660 : Int32 → Int32 → Int32 → (Nat → Int32) → (Int32 × Int32 × (Nat → Int32))) (v_5746 : Int32) (v_5747 : Int32) (v_5748 : Int32) (f_5749 : Nat → Int32) : Int32 × Int32 × (Nat → Int32) :=
  if v_5748 = 0 then (if v_5746 < 0 then (((0, 0, fun _ => 0) : Int32 × Int32 × (Nat → Int32))) else (Lt (v_5746 + 1 : Int32) (fun x_6909 => if (nI nc) ≤ x_6909 then (E_w_run_j336 v_5747 v_5748 f_5749) else (Lt (fc (v_5746 : Int32).toNatClampNeg : Int32) (fun x_6911 => Lt (v_5746 + 1 : Int32) (fun x_6912 => Lt (fc (x_6912 : Int32).toNatClampNeg : Int32) (fun x_6913 => Lt (v_5746 + 2 : Int32) (fun x_6914 => if x_6911 = 0 then (E_w_run_j336 v_5747 v_5748 f_5749) else (if x_6911 = 1 then (E_w_run_j83 nw fw v_5747 f_5749 rec_6660 x_6911 x_6913 x_6914) else (if x_6911 = 2 then (E_w_run_j83 nw fw v_5747 f_5749 rec_6660 x_6911 x_6913 x_6914) else (if 1 ≤ v_5747 then (if x_6911 = 11 then (Lt (v_5747 - 1 : Int32) (fun x_7127 => Lt (v_5747 - 1 : Int32) (fun x_7128 => Lt (f_5749 (x_7128 : Int32).toNatClampNeg : Int32) (fun x_7129 => Lt (1 - x_7129 : Int32) (fun x_7130 => Lt (upd f_5749 (x_7127 : Int32).toNatClampNeg x_7130 : Nat → Int32) (fun f_7131 => E_w_run_j329 rec_6660 v_5747 x_6914 v_5748 f_7131)))))) else (if x_6911 = 12 then (E_w_run_j225 v_5747 v_5748 f_5749 rec_6660 x_6911 x_6913 x_6914) else (if x_6911 = 13 then (E_w_run_j225 v_5747 v_5748 f_5749 rec_6660 x_6911 x_6913 x_6914) else (if 2 ≤ v_5747 then (Lt (v_5747 + Int32.ofInt (-1) : Int32) (fun x_7113 => Lt (x_7113 - 1 : Int32) (fun x_7114 => Lt (x_7113 - 1 : Int32) (fun x_7115 => Lt (f_5749 (x_7115 : Int32).toNatClampNeg : Int32) (fun x_7116 => Lt ((x_7116 : Int32).toInt64 : Int64) (fun x_7117 => Lt (f_5749 (x_7113 : Int32).toNatClampNeg : Int32) (fun x_7118 => Lt ((x_7118 : Int32).toInt64 : Int64) (fun x_7119 => Lt2 (E_w_combine x_6911 x_7117 x_7119 v_5748) (fun r_7120 u_7121_2_2_2_1_0 => Lt (upd f_5749 (x_7114 : Int32).toNatClampNeg r_7120 : Nat → Int32) (fun f_7125 => E_w_run_j329 rec_6660 x_7113 x_6914 u_7121_2_2_2_1_0 f_7125)))))))))) else (E_w_run_j329 rec_6660 v_5747 x_6914 1 f_5749))))) else (E_w_run_j329 rec_6660 v_5747 x_6914 1 f_5749)))))))))))) else (E_w_run_j336 v_5747 v_5748 f_5749)
set_option maxRecDepth 100000 in
noncomputable def E_w_run (x : Int32) (br : Int32) (fs : Nat → Int32) (nw : Nat) (fw : Nat → Int32) (nc : Nat) (fc : Nat → Int32) : Int32 × Int32 × (Nat → Int32) :=
  if 0 ≤ x then (Lp (α := Int32 → Int32 → Int32 → (Nat → Int32) → (Int32 × Int32 × (Nat → Int32))) (E_w_run_l22 nw fw nc fc) (fun _ _ _ _ => ((0, 0, fun _ => 0) : Int32 × Int32 × (Nat → Int32))) ((((nc : Nat) : Int) - (x : Int32).toInt : Int).toNat + 1) x 0 0 fs) else (((0, 1, fs) : Int32 × Int32 × (Nat → Int32)))
set_option maxHeartbeats 4000000 in
set_option maxRecDepth 100000 in
theorem w_run (l : Launch) (D : va_G) (K : Nat → ClassId) (g : Nat → Nat) (L : Nat → Prop) (G : Nat → LC) (a0 : Nat) (c0 : Nat) (x : Int32) (w0 : Nat) (a1 : Nat) (br : Int32) (fs : Nat → Int32) (nw : Nat) (fw : Nat → Int32) (nc : Nat) (fc : Nat → Int32) (sz : Nat) (zst : x.toInt ≤ 1000000) (znc : nc < 1000000) (znw : nw < 1000000) (zfc : Rg nc 0 1000 fc) : Met l yX3_run wsX3_run ({ frames := 1, cells := 0, slots := 0, locals := 27 }) (va_Pc [.ref a0, .ref c0, .int x, .ref w0] (PreY D K [(a0, .inr (3, [.ref a1, .int br])), (a1, .inl (K 0, 64, .inl fs)), (w0, .inl (K 0, nw, .inl fw))] [(c0, .inl (K 0, nc, .inl fc))] sz g L G (va_A [(a0, .inr (3, [.ref a1, .int br])), (a1, .inl (K 0, 64, .inl fs)), (w0, .inl (K 0, nw, .inl fw))] sz))) (va_Qi (S := Su) (fun (r : Int32) (u : Su) => (0 ≤ (u.2.2.2.1 0).toInt ∧ (u.2.2.2.1 0).toInt ≤ 1) ∧ ((r, (u.2.2.2.1 0), (u.2.1 0)) = E_w_run x br fs nw fw nc fc) ∧ True) (fun u t => Wd D (va_A [(a0, .inr (3, [.ref a1, .int br])), (a1, .inl (K 0, 64, .inl fs)), (w0, .inl (K 0, nw, .inl fw))] sz) ((fun u => [(a0, .inr (3, [.ref a1, .int (u.2.2.2.1 0)])), (a1, .inl (K 0, 64, .inl (u.2.1 0))), (w0, .inl (K 0, nw, .inl fw))]) u) t) (va_A [(a0, .inr (3, [.ref a1, .int br])), (a1, .inl (K 0, 64, .inl fs)), (w0, .inl (K 0, nw, .inl fw))] sz)) 0 0 (va_A [(a0, .inr (3, [.ref a1, .int br])), (a1, .inl (K 0, 64, .inl fs)), (w0, .inl (K 0, nw, .inl fw))] sz) := by
  refine Met.ofW (cc := cX3_run) (maxL := 10) (ret := (some .int)) (by decide +kernel) rfl ?_
  intro p e s m args below meth c s₁ B hml hv
  obtain ⟨rfl, ⟨hsz, hP, hK, hD0, hN⟩, hG, hPl, hRo⟩ := hv
  have hx := B.exec
  have hb := B.bytes
  have hr := B.returns
  have hts := atoms_spec (ws := wsX3_run) B.pre
  have hown : s.vm.findClass RX3 = some m.cls := findClass_of_methodNamed B.named
  have hlocks := B.notSynchronized
  subst hsz
  have hD := hD0.self (sz := s.heap.size)
  generalize hAe : va_A [(a0, .inr (3, [.ref a1, .int br])), (a1, .inl (K 0, 64, .inl fs)), (w0, .inl (K 0, nw, .inl fw))] s.heap.size = A at hD hG hPl hRo ⊢
  have hA : ∀ q : Nat, s.heap.size ≤ q → A q := fun q h => by rw [← hAe]; exact Or.inr h
  clear hAe
  have hS : va_S A s.heap s.heap [] := va_S.rf
  replace hP : va_P D vwCl [(a0, .inr (3, [.ref a1, .int br])), (a1, .inl (K 0, 64, .inl fs)), (w0, .inl (K 0, nw, .inl fw))] s.heap := hP
  have hl := lv_entry [.ref a0, .ref c0, .int x, .ref w0] (n := 10) (Nat.le_of_ble_eq_true rfl)
  rw [lg_entry_eq]
  generalize (lg_sl [.ref a0, .ref c0, .int x, .ref w0] ++ List.replicate (10 - (lg_sl [.ref a0, .ref c0, .int x, .ref w0]).length) Slot.unset).toArray = ls at hl ⊢
  have hl : lv_has ls 10 [(0, .ref a0), (1, .ref c0), (2, .int x), (3, .ref w0)] := hl
  have hw3 : ∀ w ∈ wsX30, w ∈ wsX3_run := fun w h => (List.mem_cons_of_mem _ (List.mem_append_right _ h))
  generalize hQ : MQ below _ _ s _ _ _ = Q
  have hE := E_w_run.eq_def x br fs nw fw nc fc
  refine lv_aload_n hx hb dX3_run_0 rfl (lv_at hl 0 rfl) ?_
  refine lv_iload_n hx hb dX3_run_1 rfl (lv_at hl 2 rfl) ?_
  refine lv_if_ge (tgt := 9) hx hb dX3_run_2 (by decide +kernel) (fun c_4785 => ?_) (fun c_4785 => ?_)
  · have c_4785i := i_le (x := 0) (y := x.toInt) rfl rfl c_4785
    replace hE := hE.trans (if_pos c_4785)
    refine lv_iconst (v := 0) hx hb dX3_run_9 (by decide +kernel) ?_
    refine va_put (ci := 3) (v := .int 0) (ty := .boolean) (C := RX3) (T := TX3) (N := 2) hx hb hts hw3 tyX3 tyX3_ok nmX3 hown hK hP hD hS 0 rfl rfl 1 (by decide +kernel) (hts _ mm_X3_run_262) (fun _ h9 => h9) rfl (by decide +kernel) (by first | rfl | decide) (by first | rfl | decide) (Nat.le_of_ble_eq_true rfl) dX3_run_10 (fun H locs hP0 hD0 hS0 => ?_)
    clear hP hD hS
    have hP := hP0
    have hD := hD0
    have hS := hS0
    clear hP0 hD0 hS0
    replace hP : va_P D vwCl [(a0, .inr (3, [.ref a1, .int 0])), (a1, .inl (K 0, 64, .inl fs)), (w0, .inl (K 0, nw, .inl fw))] H := hP
    replace hD : va_D A [(a0, .inr (3, [.ref a1, .int 0])), (a1, .inl (K 0, 64, .inl fs)), (w0, .inl (K 0, nw, .inl fw))] := hD
    refine lv_iconst (v := 0) hx hb dX3_run_13 (by decide +kernel) ?_
    refine lv_istore (lv' := [(4, .int 0), (0, .ref a0), (1, .ref c0), (2, .int x), (3, .ref w0)]) hx hb dX3_run_14 hl (by decide +kernel) rfl (fun ls hl => ?_)
    refine lv_iload_n hx hb dX3_run_16 rfl (lv_at hl 3 rfl) ?_
    refine lv_istore (lv' := [(5, .int x), (4, .int 0), (0, .ref a0), (1, .ref c0), (2, .int x), (3, .ref w0)]) hx hb dX3_run_17 hl (by decide +kernel) rfl (fun ls hl => ?_)
    refine lv_iload_n hx hb dX3_run_19 rfl (lv_at hl 4 rfl) ?_
    refine lv_istore (lv' := [(6, .int x), (5, .int x), (4, .int 0), (0, .ref a0), (1, .ref c0), (2, .int x), (3, .ref w0)]) hx hb dX3_run_20 hl (by decide +kernel) rfl (fun ls hl => ?_)
    have lp_6660 : ∀ (nn_ : Nat) (v_5746 : Int32) (v_5747 : Int32) (v_5748 : Int32) (f_5749 : Nat → Int32) (hv_5746 : 0 ≤ v_5746.toInt ∧ v_5746.toInt ≤ 1000000) (hv_5747 : 0 ≤ v_5747.toInt ∧ v_5747.toInt ≤ 64) (hv_5748 : 0 ≤ v_5748.toInt ∧ v_5748.toInt ≤ 1) (hn : (((nc : Nat) : Int) - v_5746.toInt : Int).toNat < nn_) (hE : E_w_run x br fs nw fw nc fc = Lp (α := Int32 → Int32 → Int32 → (Nat → Int32) → (Int32 × Int32 × (Nat → Int32))) (E_w_run_l22 nw fw nc fc) (fun _ _ _ _ => ((0, 0, fun _ => 0) : Int32 × Int32 × (Nat → Int32))) nn_ v_5746 v_5747 v_5748 f_5749) (H : Heap) (locs : List Loc) (hP : va_P D vwCl [(a0, .inr (3, [.ref a1, .int v_5748])), (a1, .inl (K 0, 64, .inl f_5749)), (w0, .inl (K 0, nw, .inl fw))] H) (hD : va_D A [(a0, .inr (3, [.ref a1, .int v_5748])), (a1, .inl (K 0, 64, .inl f_5749)), (w0, .inl (K 0, nw, .inl fw))]) (hS : va_S A s.heap H locs) (ls : Array Slot) (hl : lv_has ls 10 [(6, .int v_5746), (4, .int v_5747), (0, .ref a0), (1, .ref c0), (3, .ref w0)]), W p l e ({ frames := 1, cells := 0, slots := 0, locals := 27 }) s m (([.ref a0, .ref c0, .int x, .ref w0] : List Value).toArray) below meth c H locs 0 0 Q (F0 m 22 ls []) := by
      clear hE hP hD hS hl
      intro nn_
      induction nn_ with
      | zero =>
        intro v_5746 v_5747 v_5748 f_5749 hv_5746 hv_5747 hv_5748 hn hE H locs hP hD hS ls hl
        exact absurd hn (Nat.not_lt_zero _)
      | succ nn_ ih_6661 =>
        intro v_5746 v_5747 v_5748 f_5749 hv_5746 hv_5747 hv_5748 hn hE H locs hP hD hS ls hl
        replace hE : E_w_run x br fs nw fw nc fc = E_w_run_l22 nw fw nc fc (Lp (α := Int32 → Int32 → Int32 → (Nat → Int32) → (Int32 × Int32 × (Nat → Int32))) (E_w_run_l22 nw fw nc fc) (fun _ _ _ _ => ((0, 0, fun _ => 0) : Int32 × Int32 × (Nat → Int32))) nn_) v_5746 v_5747 v_5748 f_5749 := hE
        obtain ⟨rec_6660, hrec_6660⟩ : ∃ z9, z9 = Lp (α := Int32 → Int32 → Int32 → (Nat → Int32) → (Int32 × Int32 × (Nat → Int32))) (E_w_run_l22 nw fw nc fc) (fun _ _ _ _ => ((0, 0, fun _ => 0) : Int32 × Int32 × (Nat → Int32))) nn_ := ⟨_, rfl⟩
        rw [← hrec_6660] at hE
        replace hE := hE.trans (E_w_run_l22.eq_def _ _ _ _ _ _ _ _ _)
        refine lv_aload_n hx hb dX3_run_22 rfl (lv_at hl 2 rfl) ?_
        refine va_get (ci := 3) (v := .int v_5748) (C := RX3) (T := TX3) (N := 2) hx hb hts hw3 hown hK hP 0 rfl rfl 1 (by decide +kernel) (hts _ mm_X3_run_262) (fun _ h9 => h9) rfl dX3_run_23 ?_
        have j_6897 : ∀ (hE : E_w_run x br fs nw fw nc fc = E_w_run_j336 v_5747 v_5748 f_5749) (H : Heap) (locs : List Loc) (hP : va_P D vwCl [(a0, .inr (3, [.ref a1, .int v_5748])), (a1, .inl (K 0, 64, .inl f_5749)), (w0, .inl (K 0, nw, .inl fw))] H) (hD : va_D A [(a0, .inr (3, [.ref a1, .int v_5748])), (a1, .inl (K 0, 64, .inl f_5749)), (w0, .inl (K 0, nw, .inl fw))]) (hS : va_S A s.heap H locs) (ls : Array Slot) (hl : lv_has ls 10 [(6, .int v_5746), (4, .int v_5747), (0, .ref a0)]), W p l e ({ frames := 1, cells := 0, slots := 0, locals := 27 }) s m (([.ref a0, .ref c0, .int x, .ref w0] : List Value).toArray) below meth c H locs 0 0 Q (F0 m 336 ls []) := by
          clear hE hP hD hS hl
          intro hE H locs hP hD hS ls hl
          replace hE := hE.trans (E_w_run_j336.eq_def _ _ _)
          refine lv_aload_n hx hb dX3_run_336 rfl (lv_at hl 2 rfl) ?_
          refine va_get (ci := 3) (v := .int v_5748) (C := RX3) (T := TX3) (N := 2) hx hb hts hw3 hown hK hP 0 rfl rfl 1 (by decide +kernel) (hts _ mm_X3_run_262) (fun _ h9 => h9) rfl dX3_run_337 ?_
          have j_6902 : ∀ (hE : E_w_run x br fs nw fw nc fc = E_w_run_j349 v_5748 f_5749) (H : Heap) (locs : List Loc) (hP : va_P D vwCl [(a0, .inr (3, [.ref a1, .int v_5748])), (a1, .inl (K 0, 64, .inl f_5749)), (w0, .inl (K 0, nw, .inl fw))] H) (hD : va_D A [(a0, .inr (3, [.ref a1, .int v_5748])), (a1, .inl (K 0, 64, .inl f_5749)), (w0, .inl (K 0, nw, .inl fw))]) (hS : va_S A s.heap H locs) (ls : Array Slot) (hl : lv_has ls 10 [(6, .int v_5746)]), W p l e ({ frames := 1, cells := 0, slots := 0, locals := 27 }) s m (([.ref a0, .ref c0, .int x, .ref w0] : List Value).toArray) below meth c H locs 0 0 Q (F0 m 349 ls []) := by
            clear hE hP hD hS hl
            intro hE H locs hP hD hS ls hl
            replace hE := hE.trans (E_w_run_j349.eq_def _ _)
            refine lv_iconst (v := 0) hx hb dX3_run_349 (by decide +kernel) ?_
            refine lv_goto (tgt := 362) hx hb dX3_run_350 (by decide +kernel) ?_
            rw [← hQ]
            have hP9 := hP.sub (ws' := [(a0, .inr (3, [.ref a1, .int v_5748])), (a1, .inl (K 0, 64, .inl f_5749)), (w0, .inl (K 0, nw, .inl fw))]) [0, 1, 2] rfl
            have hD9 := hD.sub (ws' := [(a0, .inr (3, [.ref a1, .int v_5748])), (a1, .inl (K 0, 64, .inl f_5749)), (w0, .inl (K 0, nw, .inl fw))]) [0, 1, 2] (by decide +kernel) rfl
            exact W.iret (v := 0) hx hb hr (fun t ht hW => ⟨⟨0, ((fun _ => 0, fun i => match i with | _ => f_5749, fun _ => fun _ => 0, fun i => match i with | _ => v_5748, fun _ => 0, fun _ => fun _ => none) : Su), rfl, ⟨(show 0 ≤ (v_5748 : Int32).toInt ∧ (v_5748 : Int32).toInt ≤ 1 by omega), hE.symm, trivial⟩, (⟨by rw [ht]; exact hP9, hD9⟩ : Wd D A _ t)⟩, hS.F ht⟩) hS.2.2 dX3_run_362
          refine lv_if_ne (tgt := 349) hx hb dX3_run_340 (by decide +kernel) (fun c_6903 => ?_) (fun c_6903 => ?_)
          · have c_6903i := i_ne (x := v_5748.toInt) (y := 0) rfl rfl c_6903
            replace hE := hE.trans (if_neg c_6903)
            exact j_6902   hE _ _ hP hD hS ls (lv_sub hl [0] rfl)
          · have c_6903i := i_eq (x := v_5748.toInt) (y := 0) rfl rfl c_6903
            replace hE := hE.trans (if_pos c_6903)
            refine lv_iload hx hb dX3_run_343 (lv_at hl 1 rfl) ?_
            refine lv_iconst (v := 1) hx hb dX3_run_345 (by decide +kernel) ?_
            refine lv_icmp_ge (tgt := 353) hx hb dX3_run_346 (by decide +kernel) (fun c_6904 => ?_) (fun c_6904 => ?_)
            · have c_6904i := i_le (x := 1) (y := v_5747.toInt) rfl rfl c_6904
              replace hE := hE.trans (if_pos c_6904)
              refine lv_aload_n hx hb dX3_run_353 rfl (lv_at hl 2 rfl) ?_
              refine va_get (ci := 3) (v := .ref a1) (C := RX3) (T := TX3) (N := 2) hx hb hts hw3 hown hK hP 0 rfl rfl 0 (by decide +kernel) (hts _ mm_X3_run_261) (fun _ h9 => h9) rfl dX3_run_354 ?_
              refine lv_iload hx hb dX3_run_357 (lv_at hl 1 rfl) ?_
              refine lv_iconst (v := 1) hx hb dX3_run_359 (by decide +kernel) ?_
              refine lv_isub hx hb dX3_run_360 ?_
              refine lv_topi (fun x_6905 ex_6905 => ?_)
              replace hE := hE.trans (Lt_in ex_6905)
              have hx_6905 : x_6905.toInt = (v_5747.toInt - 1) := by rw [ex_6905]; exact i_sub rfl (show (1 : Int32).toInt = 1 from rfl) (by omega)
              refine va_iald hx hb hK hP 1 0 rfl rfl (i_in hx_6905 (by omega)) dX3_run_361 ?_
              refine lv_topi (fun x_6906 ex_6906 => ?_)
              replace hE := hE.trans (Lt_in ex_6906)
              rw [← hQ]
              have hP9 := hP.sub (ws' := [(a0, .inr (3, [.ref a1, .int v_5748])), (a1, .inl (K 0, 64, .inl f_5749)), (w0, .inl (K 0, nw, .inl fw))]) [0, 1, 2] rfl
              have hD9 := hD.sub (ws' := [(a0, .inr (3, [.ref a1, .int v_5748])), (a1, .inl (K 0, 64, .inl f_5749)), (w0, .inl (K 0, nw, .inl fw))]) [0, 1, 2] (by decide +kernel) rfl
              exact W.iret (v := x_6906) hx hb hr (fun t ht hW => ⟨⟨x_6906, ((fun _ => 0, fun i => match i with | _ => f_5749, fun _ => fun _ => 0, fun i => match i with | _ => v_5748, fun _ => 0, fun _ => fun _ => none) : Su), rfl, ⟨(show 0 ≤ (v_5748 : Int32).toInt ∧ (v_5748 : Int32).toInt ≤ 1 by omega), hE.symm, trivial⟩, (⟨by rw [ht]; exact hP9, hD9⟩ : Wd D A _ t)⟩, hS.F ht⟩) hS.2.2 dX3_run_362
            · have c_6904i := i_nle (x := 1) (y := v_5747.toInt) rfl rfl c_6904
              replace hE := hE.trans (if_neg c_6904)
              exact j_6902   hE _ _ hP hD hS ls (lv_sub hl [0] rfl)
        refine lv_if_ne (tgt := 336) hx hb dX3_run_26 (by decide +kernel) (fun c_6907 => ?_) (fun c_6907 => ?_)
        · have c_6907i := i_ne (x := v_5748.toInt) (y := 0) rfl rfl c_6907
          replace hE := hE.trans (if_neg c_6907)
          exact j_6897   hE _ _ hP hD hS ls (lv_sub hl [0, 1, 2] rfl)
        · have c_6907i := i_eq (x := v_5748.toInt) (y := 0) rfl rfl c_6907
          replace hE := hE.trans (if_pos c_6907)
          refine lv_iload hx hb dX3_run_29 (lv_at hl 0 rfl) ?_
          refine lv_if_lt (tgt := 336) hx hb dX3_run_31 (by decide +kernel) (fun c_6908 => ?_) (fun c_6908 => ?_)
          · have c_6908i := i_lt (x := v_5746.toInt) (y := 0) rfl rfl c_6908
            exfalso; omega
          · have c_6908i := i_nlt (x := v_5746.toInt) (y := 0) rfl rfl c_6908
            replace hE := hE.trans (if_neg c_6908)
            refine lv_iload hx hb dX3_run_34 (lv_at hl 0 rfl) ?_
            refine lv_iconst (v := 1) hx hb dX3_run_36 (by decide +kernel) ?_
            refine lv_iadd hx hb dX3_run_37 ?_
            refine lv_topi (fun x_6909 ex_6909 => ?_)
            replace hE := hE.trans (Lt_in ex_6909)
            have hx_6909 : x_6909.toInt = (v_5746.toInt + 1) := by rw [ex_6909]; exact i_add rfl (show (1 : Int32).toInt = 1 from rfl) (by omega)
            refine lv_aload_n hx hb dX3_run_38 rfl (lv_at hl 3 rfl) ?_
            refine va_alen (v := (nI nc)) hx hb hK (Ro.at hRo hS) 0 0 rfl rfl rfl dX3_run_39 ?_
            refine lv_icmp_ge (tgt := 336) hx hb dX3_run_40 (by decide +kernel) (fun c_6910 => ?_) (fun c_6910 => ?_)
            · have c_6910i := i_le (x := ((nc : Nat) : Int)) (y := (v_5746.toInt + 1)) (nI_toInt (by omega)) hx_6909 c_6910
              replace hE := hE.trans (if_pos c_6910)
              exact j_6897   hE _ _ hP hD hS ls (lv_sub hl [0, 1, 2] rfl)
            · have c_6910i := i_nle (x := ((nc : Nat) : Int)) (y := (v_5746.toInt + 1)) (nI_toInt (by omega)) hx_6909 c_6910
              replace hE := hE.trans (if_neg c_6910)
              refine lv_aload_n hx hb dX3_run_43 rfl (lv_at hl 3 rfl) ?_
              refine lv_iload hx hb dX3_run_44 (lv_at hl 0 rfl) ?_
              refine va_iald hx hb hK (Ro.at hRo hS) 0 0 rfl rfl (i_in rfl (by omega)) dX3_run_46 ?_
              refine lv_topi (fun x_6911 ex_6911 => ?_)
              replace hE := hE.trans (Lt_in ex_6911)
              have hx_6911 := Rg.at zfc rfl (show 0 ≤ v_5746.toInt ∧ v_5746.toInt < _ by omega)
              rw [← ex_6911] at hx_6911
              refine lv_istore (lv' := [(7, .int x_6911), (6, .int v_5746), (4, .int v_5747), (0, .ref a0), (1, .ref c0), (3, .ref w0)]) hx hb dX3_run_47 hl (by decide +kernel) rfl (fun ls hl => ?_)
              refine lv_aload_n hx hb dX3_run_49 rfl (lv_at hl 4 rfl) ?_
              refine lv_iload hx hb dX3_run_50 (lv_at hl 1 rfl) ?_
              refine lv_iconst (v := 1) hx hb dX3_run_52 (by decide +kernel) ?_
              refine lv_iadd hx hb dX3_run_53 ?_
              refine lv_topi (fun x_6912 ex_6912 => ?_)
              replace hE := hE.trans (Lt_in ex_6912)
              have hx_6912 : x_6912.toInt = (v_5746.toInt + 1) := by rw [ex_6912]; exact i_add rfl (show (1 : Int32).toInt = 1 from rfl) (by omega)
              refine va_iald hx hb hK (Ro.at hRo hS) 0 0 rfl rfl (i_in hx_6912 (by omega)) dX3_run_54 ?_
              refine lv_topi (fun x_6913 ex_6913 => ?_)
              replace hE := hE.trans (Lt_in ex_6913)
              have hx_6913 := Rg.at zfc hx_6912 (show 0 ≤ (v_5746.toInt + 1) ∧ (v_5746.toInt + 1) < _ by omega)
              rw [← ex_6913] at hx_6913
              refine lv_istore (lv' := [(8, .int x_6913), (7, .int x_6911), (6, .int v_5746), (4, .int v_5747), (0, .ref a0), (1, .ref c0), (3, .ref w0)]) hx hb dX3_run_55 hl (by decide +kernel) rfl (fun ls hl => ?_)
              refine lv_iload hx hb dX3_run_57 (lv_at hl 2 rfl) ?_
              refine lv_iconst (v := 2) hx hb dX3_run_59 (by decide +kernel) ?_
              refine lv_iadd hx hb dX3_run_60 ?_
              refine lv_topi (fun x_6914 ex_6914 => ?_)
              replace hE := hE.trans (Lt_in ex_6914)
              have hx_6914 : x_6914.toInt = (v_5746.toInt + 2) := by rw [ex_6914]; exact i_add rfl (show (2 : Int32).toInt = 2 from rfl) (by omega)
              refine lv_istore (lv' := [(5, .int x_6914), (8, .int x_6913), (7, .int x_6911), (6, .int v_5746), (4, .int v_5747), (0, .ref a0), (1, .ref c0), (3, .ref w0)]) hx hb dX3_run_61 hl (by decide +kernel) rfl (fun ls hl => ?_)
              refine lv_iload hx hb dX3_run_63 (lv_at hl 2 rfl) ?_
              refine lv_if_ne (tgt := 71) hx hb dX3_run_65 (by decide +kernel) (fun c_6915 => ?_) (fun c_6915 => ?_)
              · have c_6915i := i_ne (x := x_6911.toInt) (y := 0) rfl rfl c_6915
                replace hE := hE.trans (if_neg c_6915)
                refine lv_iload hx hb dX3_run_71 (lv_at hl 2 rfl) ?_
                refine lv_iconst (v := 1) hx hb dX3_run_73 (by decide +kernel) ?_
                have j_7020 : ∀ (v_7016 : Int32) (v_7017 : Int32) (v_7018 : Int32) (f_7019 : Nat → Int32) (hv_7016 : 0 ≤ v_7016.toInt ∧ v_7016.toInt ≤ 64) (hv_7017 : 2 ≤ v_7017.toInt ∧ v_7017.toInt ≤ 999999) (hv_7018 : 0 ≤ v_7018.toInt ∧ v_7018.toInt ≤ 1) (hr0_j_7020 : v_5746.toInt < v_7017.toInt) (hE : E_w_run x br fs nw fw nc fc = E_w_run_j329 rec_6660 v_7016 v_7017 v_7018 f_7019) (H : Heap) (locs : List Loc) (hP : va_P D vwCl [(a1, .inl (K 0, 64, .inl f_7019)), (w0, .inl (K 0, nw, .inl fw)), (a0, .inr (3, [.ref a1, .int v_7018]))] H) (hD : va_D A [(a1, .inl (K 0, 64, .inl f_7019)), (w0, .inl (K 0, nw, .inl fw)), (a0, .inr (3, [.ref a1, .int v_7018]))]) (hS : va_S A s.heap H locs) (ls : Array Slot) (hl : lv_has ls 10 [(4, .int v_7016), (5, .int v_7017), (6, .int v_5746), (0, .ref a0), (1, .ref c0), (3, .ref w0)]), W p l e ({ frames := 1, cells := 0, slots := 0, locals := 27 }) s m (([.ref a0, .ref c0, .int x, .ref w0] : List Value).toArray) below meth c H locs 0 0 Q (F0 m 329 ls []) := by
                  clear hE hP hD hS hl
                  intro v_7016 v_7017 v_7018 f_7019 hv_7016 hv_7017 hv_7018 hr0_j_7020 hE H locs hP hD hS ls hl
                  replace hE := hE.trans (E_w_run_j329.eq_def _ _ _ _ _)
                  refine lv_iload hx hb dX3_run_329 (lv_at hl 1 rfl) ?_
                  refine lv_istore (lv' := [(6, .int v_7017), (4, .int v_7016), (5, .int v_7017), (0, .ref a0), (1, .ref c0), (3, .ref w0)]) hx hb dX3_run_331 hl (by decide +kernel) rfl (fun ls hl => ?_)
                  refine lv_goto (tgt := 22) hx hb dX3_run_333 (by decide +kernel) ?_
                  exact ih_6661 v_7017 v_7016 v_7018 f_7019 (by omega) (by omega) (by omega) (by omega) (hE.trans (by rw [hrec_6660])) _ _ (hP.sub [2, 0, 1] rfl) (hD.sub [2, 0, 1] (by decide +kernel) rfl) hS ls (lv_sub hl [0, 1, 3, 4, 5] rfl)
                have j_7021 : ∀ (hk0_j_7021 : x_6911.toInt ≤ 2) (hE : E_w_run x br fs nw fw nc fc = E_w_run_j83 nw fw v_5747 f_5749 rec_6660 x_6911 x_6913 x_6914) (H : Heap) (locs : List Loc) (hP : va_P D vwCl [(a0, .inr (3, [.ref a1, .int v_5748])), (a1, .inl (K 0, 64, .inl f_5749)), (w0, .inl (K 0, nw, .inl fw))] H) (hD : va_D A [(a0, .inr (3, [.ref a1, .int v_5748])), (a1, .inl (K 0, 64, .inl f_5749)), (w0, .inl (K 0, nw, .inl fw))]) (hS : va_S A s.heap H locs) (ls : Array Slot) (hl : lv_has ls 10 [(5, .int x_6914), (8, .int x_6913), (7, .int x_6911), (6, .int v_5746), (4, .int v_5747), (0, .ref a0), (1, .ref c0), (3, .ref w0)]), W p l e ({ frames := 1, cells := 0, slots := 0, locals := 27 }) s m (([.ref a0, .ref c0, .int x, .ref w0] : List Value).toArray) below meth c H locs 0 0 Q (F0 m 83 ls []) := by
                  clear hE hP hD hS hl
                  intro hk0_j_7021 hE H locs hP hD hS ls hl
                  replace hE := hE.trans (E_w_run_j83.eq_def _ _ _ _ _ _ _ _)
                  refine lv_iload hx hb dX3_run_83 (lv_at hl 2 rfl) ?_
                  refine lv_iconst (v := 1) hx hb dX3_run_85 (by decide +kernel) ?_
                  refine lv_icmp_eq (tgt := 101) hx hb dX3_run_86 (by decide +kernel) (fun c_7022 => ?_) (fun c_7022 => ?_)
                  · have c_7022i := i_eq (x := x_6911.toInt) (y := 1) rfl rfl c_7022
                    replace hE := hE.trans (if_pos c_7022)
                    refine lv_iconst (v := 1) hx hb dX3_run_101 (by decide +kernel) ?_
                    refine lv_goto (tgt := 106) hx hb dX3_run_102 (by decide +kernel) ?_
                    refine lv_istore (lv' := [(9, .int 1), (5, .int x_6914), (8, .int x_6913), (7, .int x_6911), (6, .int v_5746), (4, .int v_5747), (0, .ref a0), (1, .ref c0), (3, .ref w0)]) hx hb dX3_run_106 hl (by decide +kernel) rfl (fun ls hl => ?_)
                    refine lv_aload_n hx hb dX3_run_108 rfl (lv_at hl 6 rfl) ?_
                    refine lv_iload hx hb dX3_run_109 (lv_at hl 0 rfl) ?_
                    refine lv_if_eq (tgt := 124) hx hb dX3_run_111 (by decide +kernel) (fun c_7023 => absurd c_7023 (by decide +kernel)) (fun c_7023 => ?_)
                    refine lv_iload hx hb dX3_run_114 (lv_at hl 5 rfl) ?_
                    refine lv_aload_n hx hb dX3_run_116 rfl (lv_at hl 6 rfl) ?_
                    refine va_get (ci := 3) (v := .ref a1) (C := RX3) (T := TX3) (N := 2) hx hb hts hw3 hown hK hP 0 rfl rfl 0 (by decide +kernel) (hts _ mm_X3_run_261) (fun _ h9 => h9) rfl dX3_run_117 ?_
                    refine va_alen (v := 64) hx hb hK hP 1 0 rfl rfl rfl dX3_run_120 ?_
                    refine lv_icmp_lt (tgt := 128) hx hb dX3_run_121 (by decide +kernel) (fun c_7024 => ?_) (fun c_7024 => ?_)
                    · have c_7024i := i_lt (x := v_5747.toInt) (y := 64) rfl rfl c_7024
                      replace hE := hE.trans (if_pos c_7024)
                      refine lv_iconst (v := 0) hx hb dX3_run_128 (by decide +kernel) ?_
                      refine va_put (ci := 3) (v := .int 0) (ty := .boolean) (C := RX3) (T := TX3) (N := 2) hx hb hts hw3 tyX3 tyX3_ok nmX3 hown hK hP hD hS 0 rfl rfl 1 (by decide +kernel) (hts _ mm_X3_run_262) (fun _ h9 => h9) rfl (by decide +kernel) (by first | rfl | decide) (by first | rfl | decide) (Nat.le_of_ble_eq_true rfl) dX3_run_129 (fun H locs hP0 hD0 hS0 => ?_)
                      clear hP hD hS
                      have hP := hP0
                      have hD := hD0
                      have hS := hS0
                      clear hP0 hD0 hS0
                      replace hP : va_P D vwCl [(a0, .inr (3, [.ref a1, .int 0])), (a1, .inl (K 0, 64, .inl f_5749)), (w0, .inl (K 0, nw, .inl fw))] H := hP
                      replace hD : va_D A [(a0, .inr (3, [.ref a1, .int 0])), (a1, .inl (K 0, 64, .inl f_5749)), (w0, .inl (K 0, nw, .inl fw))] := hD
                      refine lv_aload_n hx hb dX3_run_132 rfl (lv_at hl 6 rfl) ?_
                      refine va_get (ci := 3) (v := .int 0) (C := RX3) (T := TX3) (N := 2) hx hb hts hw3 hown hK hP 0 rfl rfl 1 (by decide +kernel) (hts _ mm_X3_run_262) (fun _ h9 => h9) rfl dX3_run_133 ?_
                      refine lv_if_ne (tgt := 164) hx hb dX3_run_136 (by decide +kernel) (fun c_7025 => absurd (by decide +kernel) c_7025) (fun c_7025 => ?_)
                      refine lv_aload_n hx hb dX3_run_139 rfl (lv_at hl 6 rfl) ?_
                      refine va_get (ci := 3) (v := .ref a1) (C := RX3) (T := TX3) (N := 2) hx hb hts hw3 hown hK hP 0 rfl rfl 0 (by decide +kernel) (hts _ mm_X3_run_261) (fun _ h9 => h9) rfl dX3_run_140 ?_
                      refine lv_iload hx hb dX3_run_143 (lv_at hl 5 rfl) ?_
                      refine lv_iload hx hb dX3_run_145 (lv_at hl 3 rfl) ?_
                      refine lv_iconst (v := 1) hx hb dX3_run_147 (by decide +kernel) ?_
                      refine lv_icmp_ne (tgt := 156) hx hb dX3_run_148 (by decide +kernel) (fun c_7026 => ?_) (fun c_7026 => ?_)
                      · have c_7026i := i_ne (x := x_6911.toInt) (y := 1) rfl rfl c_7026
                        exfalso; omega
                      · have c_7026i := i_eq (x := x_6911.toInt) (y := 1) rfl rfl c_7026
                        replace hE := hE.trans (if_pos c_7026)
                        refine lv_iload hx hb dX3_run_151 (lv_at hl 2 rfl) ?_
                        refine lv_goto (tgt := 160) hx hb dX3_run_153 (by decide +kernel) ?_
                        refine va_iast hx hb hK hP hD hS 1 0 rfl rfl (i_in rfl (by omega)) dX3_run_160 (fun H locs hP0 hD0 hS0 => ?_)
                        clear hP hD hS
                        have hP := hP0
                        have hD := hD0
                        have hS := hS0
                        clear hP0 hD0 hS0
                        generalize hf_7027 : (upd f_5749 (v_5747 : Int32).toNatClampNeg x_6913) = f_7027 at hP hD
                        replace hE := hE.trans (Lt_in hf_7027.symm)
                        replace hP : va_P D vwCl [(a0, .inr (3, [.ref a1, .int 0])), (a1, .inl (K 0, 64, .inl f_7027)), (w0, .inl (K 0, nw, .inl fw))] H := hP
                        replace hD : va_D A [(a0, .inr (3, [.ref a1, .int 0])), (a1, .inl (K 0, 64, .inl f_7027)), (w0, .inl (K 0, nw, .inl fw))] := hD
                        obtain ⟨x_7028, ex_7028⟩ : ∃ y : Int32, y = v_5747 + Int32.ofInt 1 := ⟨_, rfl⟩
                        replace hE := hE.trans (Lt_in ex_7028)
                        have hx_7028 : x_7028.toInt = (v_5747.toInt + 1) := by rw [ex_7028]; exact i_add rfl (show (Int32.ofInt 1).toInt = 1 from rfl) (by omega)
                        refine lv_iinc (v := x_7028) (lv' := [(4, .int x_7028), (9, .int 1), (5, .int x_6914), (8, .int x_6913), (7, .int x_6911), (6, .int v_5746), (0, .ref a0), (1, .ref c0), (3, .ref w0)]) hx hb dX3_run_161 hl (k := 5) rfl (by rw [ex_7028]) (by decide +kernel) rfl (fun ls hl => ?_)
                        refine lv_goto (tgt := 329) hx hb dX3_run_164 (by decide +kernel) ?_
                        have hz_7029 : (0 : Int32).toInt = 0 := rfl
                        exact j_7020 x_7028 x_6914 0 f_7027 (by rw [hx_7028]; omega) (by rw [hx_6914]; omega) (by decide +kernel) (show v_5746.toInt < (x_6914 : Int32).toInt by omega) hE _ _ (hP.sub [1, 2, 0] rfl) (hD.sub [1, 2, 0] (by decide +kernel) rfl) hS ls (lv_sub hl [0, 2, 5, 6, 7, 8] rfl)
                    · have c_7024i := i_nlt (x := v_5747.toInt) (y := 64) rfl rfl c_7024
                      replace hE := hE.trans (if_neg c_7024)
                      refine lv_iconst (v := 1) hx hb dX3_run_124 (by decide +kernel) ?_
                      refine lv_goto (tgt := 129) hx hb dX3_run_125 (by decide +kernel) ?_
                      refine va_put (ci := 3) (v := .int 1) (ty := .boolean) (C := RX3) (T := TX3) (N := 2) hx hb hts hw3 tyX3 tyX3_ok nmX3 hown hK hP hD hS 0 rfl rfl 1 (by decide +kernel) (hts _ mm_X3_run_262) (fun _ h9 => h9) rfl (by decide +kernel) (by first | rfl | decide) (by first | rfl | decide) (Nat.le_of_ble_eq_true rfl) dX3_run_129 (fun H locs hP0 hD0 hS0 => ?_)
                      clear hP hD hS
                      have hP := hP0
                      have hD := hD0
                      have hS := hS0
                      clear hP0 hD0 hS0
                      replace hP : va_P D vwCl [(a0, .inr (3, [.ref a1, .int 1])), (a1, .inl (K 0, 64, .inl f_5749)), (w0, .inl (K 0, nw, .inl fw))] H := hP
                      replace hD : va_D A [(a0, .inr (3, [.ref a1, .int 1])), (a1, .inl (K 0, 64, .inl f_5749)), (w0, .inl (K 0, nw, .inl fw))] := hD
                      refine lv_aload_n hx hb dX3_run_132 rfl (lv_at hl 6 rfl) ?_
                      refine va_get (ci := 3) (v := .int 1) (C := RX3) (T := TX3) (N := 2) hx hb hts hw3 hown hK hP 0 rfl rfl 1 (by decide +kernel) (hts _ mm_X3_run_262) (fun _ h9 => h9) rfl dX3_run_133 ?_
                      refine lv_if_ne (tgt := 164) hx hb dX3_run_136 (by decide +kernel) (fun c_7030 => ?_) (fun c_7030 => absurd c_7030 (by decide +kernel))
                      refine lv_goto (tgt := 329) hx hb dX3_run_164 (by decide +kernel) ?_
                      have hz_7031 : (1 : Int32).toInt = 1 := rfl
                      exact j_7020 v_5747 x_6914 1 f_5749 (by omega) (by rw [hx_6914]; omega) (by decide +kernel) (show v_5746.toInt < (x_6914 : Int32).toInt by omega) hE _ _ (hP.sub [1, 2, 0] rfl) (hD.sub [1, 2, 0] (by decide +kernel) rfl) hS ls (lv_sub hl [5, 1, 4, 6, 7, 8] rfl)
                  · have c_7022i := i_ne (x := x_6911.toInt) (y := 1) rfl rfl c_7022
                    replace hE := hE.trans (if_neg c_7022)
                    refine lv_iload hx hb dX3_run_89 (lv_at hl 1 rfl) ?_
                    refine lv_if_lt (tgt := 105) hx hb dX3_run_91 (by decide +kernel) (fun c_7047 => ?_) (fun c_7047 => ?_)
                    · have c_7047i := i_lt (x := x_6913.toInt) (y := 0) rfl rfl c_7047
                      exfalso; omega
                    · have c_7047i := i_nlt (x := x_6913.toInt) (y := 0) rfl rfl c_7047
                      replace hE := hE.trans (if_neg c_7047)
                      refine lv_iload hx hb dX3_run_94 (lv_at hl 1 rfl) ?_
                      refine lv_aload_n hx hb dX3_run_96 rfl (lv_at hl 7 rfl) ?_
                      refine va_alen (v := (nI nw)) hx hb hK hP 2 0 rfl rfl rfl dX3_run_97 ?_
                      refine lv_icmp_ge (tgt := 105) hx hb dX3_run_98 (by decide +kernel) (fun c_7048 => ?_) (fun c_7048 => ?_)
                      · have c_7048i := i_le (x := ((nw : Nat) : Int)) (y := x_6913.toInt) (nI_toInt (by omega)) rfl c_7048
                        replace hE := hE.trans (if_pos c_7048)
                        refine lv_iconst (v := 0) hx hb dX3_run_105 (by decide +kernel) ?_
                        refine lv_istore (lv' := [(9, .int 0), (5, .int x_6914), (8, .int x_6913), (7, .int x_6911), (6, .int v_5746), (4, .int v_5747), (0, .ref a0), (1, .ref c0), (3, .ref w0)]) hx hb dX3_run_106 hl (by decide +kernel) rfl (fun ls hl => ?_)
                        refine lv_aload_n hx hb dX3_run_108 rfl (lv_at hl 6 rfl) ?_
                        refine lv_iload hx hb dX3_run_109 (lv_at hl 0 rfl) ?_
                        refine lv_if_eq (tgt := 124) hx hb dX3_run_111 (by decide +kernel) (fun c_7049 => ?_) (fun c_7049 => absurd (by decide +kernel) c_7049)
                        refine lv_iconst (v := 1) hx hb dX3_run_124 (by decide +kernel) ?_
                        refine lv_goto (tgt := 129) hx hb dX3_run_125 (by decide +kernel) ?_
                        refine va_put (ci := 3) (v := .int 1) (ty := .boolean) (C := RX3) (T := TX3) (N := 2) hx hb hts hw3 tyX3 tyX3_ok nmX3 hown hK hP hD hS 0 rfl rfl 1 (by decide +kernel) (hts _ mm_X3_run_262) (fun _ h9 => h9) rfl (by decide +kernel) (by first | rfl | decide) (by first | rfl | decide) (Nat.le_of_ble_eq_true rfl) dX3_run_129 (fun H locs hP0 hD0 hS0 => ?_)
                        clear hP hD hS
                        have hP := hP0
                        have hD := hD0
                        have hS := hS0
                        clear hP0 hD0 hS0
                        replace hP : va_P D vwCl [(a0, .inr (3, [.ref a1, .int 1])), (a1, .inl (K 0, 64, .inl f_5749)), (w0, .inl (K 0, nw, .inl fw))] H := hP
                        replace hD : va_D A [(a0, .inr (3, [.ref a1, .int 1])), (a1, .inl (K 0, 64, .inl f_5749)), (w0, .inl (K 0, nw, .inl fw))] := hD
                        refine lv_aload_n hx hb dX3_run_132 rfl (lv_at hl 6 rfl) ?_
                        refine va_get (ci := 3) (v := .int 1) (C := RX3) (T := TX3) (N := 2) hx hb hts hw3 hown hK hP 0 rfl rfl 1 (by decide +kernel) (hts _ mm_X3_run_262) (fun _ h9 => h9) rfl dX3_run_133 ?_
                        refine lv_if_ne (tgt := 164) hx hb dX3_run_136 (by decide +kernel) (fun c_7050 => ?_) (fun c_7050 => absurd c_7050 (by decide +kernel))
                        refine lv_goto (tgt := 329) hx hb dX3_run_164 (by decide +kernel) ?_
                        have hz_7051 : (1 : Int32).toInt = 1 := rfl
                        exact j_7020 v_5747 x_6914 1 f_5749 (by omega) (by rw [hx_6914]; omega) (by decide +kernel) (show v_5746.toInt < (x_6914 : Int32).toInt by omega) hE _ _ (hP.sub [1, 2, 0] rfl) (hD.sub [1, 2, 0] (by decide +kernel) rfl) hS ls (lv_sub hl [5, 1, 4, 6, 7, 8] rfl)
                      · have c_7048i := i_nle (x := ((nw : Nat) : Int)) (y := x_6913.toInt) (nI_toInt (by omega)) rfl c_7048
                        replace hE := hE.trans (if_neg c_7048)
                        refine lv_iconst (v := 1) hx hb dX3_run_101 (by decide +kernel) ?_
                        refine lv_goto (tgt := 106) hx hb dX3_run_102 (by decide +kernel) ?_
                        refine lv_istore (lv' := [(9, .int 1), (5, .int x_6914), (8, .int x_6913), (7, .int x_6911), (6, .int v_5746), (4, .int v_5747), (0, .ref a0), (1, .ref c0), (3, .ref w0)]) hx hb dX3_run_106 hl (by decide +kernel) rfl (fun ls hl => ?_)
                        refine lv_aload_n hx hb dX3_run_108 rfl (lv_at hl 6 rfl) ?_
                        refine lv_iload hx hb dX3_run_109 (lv_at hl 0 rfl) ?_
                        refine lv_if_eq (tgt := 124) hx hb dX3_run_111 (by decide +kernel) (fun c_7052 => absurd c_7052 (by decide +kernel)) (fun c_7052 => ?_)
                        refine lv_iload hx hb dX3_run_114 (lv_at hl 5 rfl) ?_
                        refine lv_aload_n hx hb dX3_run_116 rfl (lv_at hl 6 rfl) ?_
                        refine va_get (ci := 3) (v := .ref a1) (C := RX3) (T := TX3) (N := 2) hx hb hts hw3 hown hK hP 0 rfl rfl 0 (by decide +kernel) (hts _ mm_X3_run_261) (fun _ h9 => h9) rfl dX3_run_117 ?_
                        refine va_alen (v := 64) hx hb hK hP 1 0 rfl rfl rfl dX3_run_120 ?_
                        refine lv_icmp_lt (tgt := 128) hx hb dX3_run_121 (by decide +kernel) (fun c_7053 => ?_) (fun c_7053 => ?_)
                        · have c_7053i := i_lt (x := v_5747.toInt) (y := 64) rfl rfl c_7053
                          replace hE := hE.trans (if_pos c_7053)
                          refine lv_iconst (v := 0) hx hb dX3_run_128 (by decide +kernel) ?_
                          refine va_put (ci := 3) (v := .int 0) (ty := .boolean) (C := RX3) (T := TX3) (N := 2) hx hb hts hw3 tyX3 tyX3_ok nmX3 hown hK hP hD hS 0 rfl rfl 1 (by decide +kernel) (hts _ mm_X3_run_262) (fun _ h9 => h9) rfl (by decide +kernel) (by first | rfl | decide) (by first | rfl | decide) (Nat.le_of_ble_eq_true rfl) dX3_run_129 (fun H locs hP0 hD0 hS0 => ?_)
                          clear hP hD hS
                          have hP := hP0
                          have hD := hD0
                          have hS := hS0
                          clear hP0 hD0 hS0
                          replace hP : va_P D vwCl [(a0, .inr (3, [.ref a1, .int 0])), (a1, .inl (K 0, 64, .inl f_5749)), (w0, .inl (K 0, nw, .inl fw))] H := hP
                          replace hD : va_D A [(a0, .inr (3, [.ref a1, .int 0])), (a1, .inl (K 0, 64, .inl f_5749)), (w0, .inl (K 0, nw, .inl fw))] := hD
                          refine lv_aload_n hx hb dX3_run_132 rfl (lv_at hl 6 rfl) ?_
                          refine va_get (ci := 3) (v := .int 0) (C := RX3) (T := TX3) (N := 2) hx hb hts hw3 hown hK hP 0 rfl rfl 1 (by decide +kernel) (hts _ mm_X3_run_262) (fun _ h9 => h9) rfl dX3_run_133 ?_
                          refine lv_if_ne (tgt := 164) hx hb dX3_run_136 (by decide +kernel) (fun c_7054 => absurd (by decide +kernel) c_7054) (fun c_7054 => ?_)
                          refine lv_aload_n hx hb dX3_run_139 rfl (lv_at hl 6 rfl) ?_
                          refine va_get (ci := 3) (v := .ref a1) (C := RX3) (T := TX3) (N := 2) hx hb hts hw3 hown hK hP 0 rfl rfl 0 (by decide +kernel) (hts _ mm_X3_run_261) (fun _ h9 => h9) rfl dX3_run_140 ?_
                          refine lv_iload hx hb dX3_run_143 (lv_at hl 5 rfl) ?_
                          refine lv_iload hx hb dX3_run_145 (lv_at hl 3 rfl) ?_
                          refine lv_iconst (v := 1) hx hb dX3_run_147 (by decide +kernel) ?_
                          refine lv_icmp_ne (tgt := 156) hx hb dX3_run_148 (by decide +kernel) (fun c_7055 => ?_) (fun c_7055 => ?_)
                          · have c_7055i := i_ne (x := x_6911.toInt) (y := 1) rfl rfl c_7055
                            replace hE := hE.trans (if_neg c_7055)
                            refine lv_aload_n hx hb dX3_run_156 rfl (lv_at hl 8 rfl) ?_
                            refine lv_iload hx hb dX3_run_157 (lv_at hl 2 rfl) ?_
                            refine va_iald hx hb hK hP 2 0 rfl rfl (i_in rfl (by omega)) dX3_run_159 ?_
                            refine lv_topi (fun x_7056 ex_7056 => ?_)
                            replace hE := hE.trans (Lt_in ex_7056)
                            refine va_iast hx hb hK hP hD hS 1 0 rfl rfl (i_in rfl (by omega)) dX3_run_160 (fun H locs hP0 hD0 hS0 => ?_)
                            clear hP hD hS
                            have hP := hP0
                            have hD := hD0
                            have hS := hS0
                            clear hP0 hD0 hS0
                            generalize hf_7057 : (upd f_5749 (v_5747 : Int32).toNatClampNeg x_7056) = f_7057 at hP hD
                            replace hE := hE.trans (Lt_in hf_7057.symm)
                            replace hP : va_P D vwCl [(a0, .inr (3, [.ref a1, .int 0])), (a1, .inl (K 0, 64, .inl f_7057)), (w0, .inl (K 0, nw, .inl fw))] H := hP
                            replace hD : va_D A [(a0, .inr (3, [.ref a1, .int 0])), (a1, .inl (K 0, 64, .inl f_7057)), (w0, .inl (K 0, nw, .inl fw))] := hD
                            obtain ⟨x_7058, ex_7058⟩ : ∃ y : Int32, y = v_5747 + Int32.ofInt 1 := ⟨_, rfl⟩
                            replace hE := hE.trans (Lt_in ex_7058)
                            have hx_7058 : x_7058.toInt = (v_5747.toInt + 1) := by rw [ex_7058]; exact i_add rfl (show (Int32.ofInt 1).toInt = 1 from rfl) (by omega)
                            refine lv_iinc (v := x_7058) (lv' := [(4, .int x_7058), (9, .int 1), (5, .int x_6914), (8, .int x_6913), (7, .int x_6911), (6, .int v_5746), (0, .ref a0), (1, .ref c0), (3, .ref w0)]) hx hb dX3_run_161 hl (k := 5) rfl (by rw [ex_7058]) (by decide +kernel) rfl (fun ls hl => ?_)
                            refine lv_goto (tgt := 329) hx hb dX3_run_164 (by decide +kernel) ?_
                            have hz_7059 : (0 : Int32).toInt = 0 := rfl
                            exact j_7020 x_7058 x_6914 0 f_7057 (by rw [hx_7058]; omega) (by rw [hx_6914]; omega) (by decide +kernel) (show v_5746.toInt < (x_6914 : Int32).toInt by omega) hE _ _ (hP.sub [1, 2, 0] rfl) (hD.sub [1, 2, 0] (by decide +kernel) rfl) hS ls (lv_sub hl [0, 2, 5, 6, 7, 8] rfl)
                          · have c_7055i := i_eq (x := x_6911.toInt) (y := 1) rfl rfl c_7055
                            exfalso; omega
                        · have c_7053i := i_nlt (x := v_5747.toInt) (y := 64) rfl rfl c_7053
                          replace hE := hE.trans (if_neg c_7053)
                          refine lv_iconst (v := 1) hx hb dX3_run_124 (by decide +kernel) ?_
                          refine lv_goto (tgt := 129) hx hb dX3_run_125 (by decide +kernel) ?_
                          refine va_put (ci := 3) (v := .int 1) (ty := .boolean) (C := RX3) (T := TX3) (N := 2) hx hb hts hw3 tyX3 tyX3_ok nmX3 hown hK hP hD hS 0 rfl rfl 1 (by decide +kernel) (hts _ mm_X3_run_262) (fun _ h9 => h9) rfl (by decide +kernel) (by first | rfl | decide) (by first | rfl | decide) (Nat.le_of_ble_eq_true rfl) dX3_run_129 (fun H locs hP0 hD0 hS0 => ?_)
                          clear hP hD hS
                          have hP := hP0
                          have hD := hD0
                          have hS := hS0
                          clear hP0 hD0 hS0
                          replace hP : va_P D vwCl [(a0, .inr (3, [.ref a1, .int 1])), (a1, .inl (K 0, 64, .inl f_5749)), (w0, .inl (K 0, nw, .inl fw))] H := hP
                          replace hD : va_D A [(a0, .inr (3, [.ref a1, .int 1])), (a1, .inl (K 0, 64, .inl f_5749)), (w0, .inl (K 0, nw, .inl fw))] := hD
                          refine lv_aload_n hx hb dX3_run_132 rfl (lv_at hl 6 rfl) ?_
                          refine va_get (ci := 3) (v := .int 1) (C := RX3) (T := TX3) (N := 2) hx hb hts hw3 hown hK hP 0 rfl rfl 1 (by decide +kernel) (hts _ mm_X3_run_262) (fun _ h9 => h9) rfl dX3_run_133 ?_
                          refine lv_if_ne (tgt := 164) hx hb dX3_run_136 (by decide +kernel) (fun c_7060 => ?_) (fun c_7060 => absurd c_7060 (by decide +kernel))
                          refine lv_goto (tgt := 329) hx hb dX3_run_164 (by decide +kernel) ?_
                          have hz_7061 : (1 : Int32).toInt = 1 := rfl
                          exact j_7020 v_5747 x_6914 1 f_5749 (by omega) (by rw [hx_6914]; omega) (by decide +kernel) (show v_5746.toInt < (x_6914 : Int32).toInt by omega) hE _ _ (hP.sub [1, 2, 0] rfl) (hD.sub [1, 2, 0] (by decide +kernel) rfl) hS ls (lv_sub hl [5, 1, 4, 6, 7, 8] rfl)
                refine lv_icmp_eq (tgt := 83) hx hb dX3_run_74 (by decide +kernel) (fun c_7062 => ?_) (fun c_7062 => ?_)
                · have c_7062i := i_eq (x := x_6911.toInt) (y := 1) rfl rfl c_7062
                  replace hE := hE.trans (if_pos c_7062)
                  exact j_7021  (by omega) hE _ _ hP hD hS ls (lv_sub hl [0, 1, 2, 3, 4, 5, 6, 7] rfl)
                · have c_7062i := i_ne (x := x_6911.toInt) (y := 1) rfl rfl c_7062
                  replace hE := hE.trans (if_neg c_7062)
                  refine lv_iload hx hb dX3_run_77 (lv_at hl 2 rfl) ?_
                  refine lv_iconst (v := 2) hx hb dX3_run_79 (by decide +kernel) ?_
                  refine lv_icmp_ne (tgt := 167) hx hb dX3_run_80 (by decide +kernel) (fun c_7063 => ?_) (fun c_7063 => ?_)
                  · have c_7063i := i_ne (x := x_6911.toInt) (y := 2) rfl rfl c_7063
                    replace hE := hE.trans (if_neg c_7063)
                    refine lv_iload hx hb dX3_run_167 (lv_at hl 4 rfl) ?_
                    refine lv_iconst (v := 1) hx hb dX3_run_169 (by decide +kernel) ?_
                    refine lv_icmp_ge (tgt := 181) hx hb dX3_run_170 (by decide +kernel) (fun c_7064 => ?_) (fun c_7064 => ?_)
                    · have c_7064i := i_le (x := 1) (y := v_5747.toInt) rfl rfl c_7064
                      replace hE := hE.trans (if_pos c_7064)
                      refine lv_iload hx hb dX3_run_181 (lv_at hl 2 rfl) ?_
                      refine lv_bipush (v := 11) hx hb dX3_run_183 (by decide +kernel) ?_
                      refine lv_icmp_ne (tgt := 211) hx hb dX3_run_185 (by decide +kernel) (fun c_7065 => ?_) (fun c_7065 => ?_)
                      · have c_7065i := i_ne (x := x_6911.toInt) (y := 11) rfl rfl c_7065
                        replace hE := hE.trans (if_neg c_7065)
                        refine lv_iload hx hb dX3_run_211 (lv_at hl 2 rfl) ?_
                        refine lv_bipush (v := 12) hx hb dX3_run_213 (by decide +kernel) ?_
                        have j_7096 : ∀ (hk0_j_7096 : 12 ≤ x_6911.toInt ∧ x_6911.toInt ≤ 13) (hE : E_w_run x br fs nw fw nc fc = E_w_run_j225 v_5747 v_5748 f_5749 rec_6660 x_6911 x_6913 x_6914) (H : Heap) (locs : List Loc) (hP : va_P D vwCl [(a0, .inr (3, [.ref a1, .int v_5748])), (a1, .inl (K 0, 64, .inl f_5749)), (w0, .inl (K 0, nw, .inl fw))] H) (hD : va_D A [(a0, .inr (3, [.ref a1, .int v_5748])), (a1, .inl (K 0, 64, .inl f_5749)), (w0, .inl (K 0, nw, .inl fw))]) (hS : va_S A s.heap H locs) (ls : Array Slot) (hl : lv_has ls 10 [(5, .int x_6914), (8, .int x_6913), (7, .int x_6911), (6, .int v_5746), (4, .int v_5747), (0, .ref a0), (1, .ref c0), (3, .ref w0)]), W p l e ({ frames := 1, cells := 0, slots := 0, locals := 27 }) s m (([.ref a0, .ref c0, .int x, .ref w0] : List Value).toArray) below meth c H locs 0 0 Q (F0 m 225 ls []) := by
                          clear hE hP hD hS hl
                          intro hk0_j_7096 hE H locs hP hD hS ls hl
                          replace hE := hE.trans (E_w_run_j225.eq_def _ _ _ _ _ _ _)
                          refine lv_aload_n hx hb dX3_run_225 rfl (lv_at hl 5 rfl) ?_
                          refine va_get (ci := 3) (v := .ref a1) (C := RX3) (T := TX3) (N := 2) hx hb hts hw3 hown hK hP 0 rfl rfl 0 (by decide +kernel) (hts _ mm_X3_run_261) (fun _ h9 => h9) rfl dX3_run_226 ?_
                          refine lv_iload hx hb dX3_run_229 (lv_at hl 4 rfl) ?_
                          refine lv_iconst (v := 1) hx hb dX3_run_231 (by decide +kernel) ?_
                          refine lv_isub hx hb dX3_run_232 ?_
                          refine lv_topi (fun x_7097 ex_7097 => ?_)
                          replace hE := hE.trans (Lt_in ex_7097)
                          have hx_7097 : x_7097.toInt = (v_5747.toInt - 1) := by rw [ex_7097]; exact i_sub rfl (show (1 : Int32).toInt = 1 from rfl) (by omega)
                          refine va_iald hx hb hK hP 1 0 rfl rfl (i_in hx_7097 (by omega)) dX3_run_233 ?_
                          refine lv_topi (fun x_7098 ex_7098 => ?_)
                          replace hE := hE.trans (Lt_in ex_7098)
                          refine lv_if_eq (tgt := 241) hx hb dX3_run_234 (by decide +kernel) (fun c_7099 => ?_) (fun c_7099 => ?_)
                          · have c_7099i := i_eq (x := x_7098.toInt) (y := 0) rfl rfl c_7099
                            replace hE := hE.trans (if_pos c_7099)
                            refine lv_iconst (v := 0) hx hb dX3_run_241 (by decide +kernel) ?_
                            refine lv_istore (lv' := [(9, .int 0), (5, .int x_6914), (8, .int x_6913), (7, .int x_6911), (6, .int v_5746), (4, .int v_5747), (0, .ref a0), (1, .ref c0), (3, .ref w0)]) hx hb dX3_run_242 hl (by decide +kernel) rfl (fun ls hl => ?_)
                            refine lv_iload hx hb dX3_run_244 (lv_at hl 0 rfl) ?_
                            refine lv_iload hx hb dX3_run_246 (lv_at hl 3 rfl) ?_
                            refine lv_bipush (v := 12) hx hb dX3_run_248 (by decide +kernel) ?_
                            refine lv_icmp_ne (tgt := 257) hx hb dX3_run_250 (by decide +kernel) (fun c_7100 => ?_) (fun c_7100 => ?_)
                            · have c_7100i := i_ne (x := x_6911.toInt) (y := 12) rfl rfl c_7100
                              replace hE := hE.trans (if_neg c_7100)
                              refine lv_iconst (v := 0) hx hb dX3_run_257 (by decide +kernel) ?_
                              refine lv_icmp_ne (tgt := 273) hx hb dX3_run_258 (by decide +kernel) (fun c_7101 => absurd (by decide +kernel) c_7101) (fun c_7101 => ?_)
                              refine lv_iload hx hb dX3_run_261 (lv_at hl 1 rfl) ?_
                              refine lv_iload hx hb dX3_run_263 (lv_at hl 2 rfl) ?_
                              refine va_mmax hx hb (hml.trans hl.1.symm) hown (hts _ mm_X3_run_417) (hts _ mm_X3_run_418) (hts _ mm_X3_run_157) (hts _ mm_X3_run_419) (Nat.le_of_ble_eq_true rfl) (Nat.le_of_ble_eq_true rfl) (Nat.le_of_ble_eq_true rfl) (Nat.le_of_ble_eq_true rfl) dX3_run_265 ?_
                              refine lv_topi (fun x_7102 ex_7102 => ?_)
                              replace hE := hE.trans (Lt_in ex_7102)
                              have hx_7102 : (x_6913.toInt ≤ (v_5746.toInt + 2) ∧ x_7102.toInt = (v_5746.toInt + 2)) ∨ ((v_5746.toInt + 2) < x_6913.toInt ∧ x_7102.toInt = x_6913.toInt) := by rw [ex_7102]; exact i_max hx_6914 rfl
                              replace hx_7102 : (v_5746.toInt + 2) ≤ x_7102.toInt ∧ x_6913.toInt ≤ x_7102.toInt ∧ 2 ≤ x_7102.toInt ∧ x_7102.toInt ≤ 999999 := by omega
                              refine lv_istore (lv' := [(5, .int x_7102), (9, .int 0), (8, .int x_6913), (7, .int x_6911), (6, .int v_5746), (4, .int v_5747), (0, .ref a0), (1, .ref c0), (3, .ref w0)]) hx hb dX3_run_268 hl (by decide +kernel) rfl (fun ls hl => ?_)
                              refine lv_goto (tgt := 276) hx hb dX3_run_270 (by decide +kernel) ?_
                              refine lv_goto (tgt := 329) hx hb dX3_run_276 (by decide +kernel) ?_
                              exact j_7020 v_5747 x_7102 v_5748 f_5749 (by omega) (by omega) (by omega) (show v_5746.toInt < (x_7102 : Int32).toInt by omega) hE _ _ (hP.sub [1, 2, 0] rfl) (hD.sub [1, 2, 0] (by decide +kernel) rfl) hS ls (lv_sub hl [5, 0, 4, 6, 7, 8] rfl)
                            · have c_7100i := i_eq (x := x_6911.toInt) (y := 12) rfl rfl c_7100
                              replace hE := hE.trans (if_pos c_7100)
                              refine lv_iconst (v := 1) hx hb dX3_run_253 (by decide +kernel) ?_
                              refine lv_goto (tgt := 258) hx hb dX3_run_254 (by decide +kernel) ?_
                              refine lv_icmp_ne (tgt := 273) hx hb dX3_run_258 (by decide +kernel) (fun c_7103 => ?_) (fun c_7103 => absurd c_7103 (by decide +kernel))
                              obtain ⟨x_7104, ex_7104⟩ : ∃ y : Int32, y = v_5747 + Int32.ofInt (-1) := ⟨_, rfl⟩
                              replace hE := hE.trans (Lt_in ex_7104)
                              have hx_7104 : x_7104.toInt = (v_5747.toInt + (-1)) := by rw [ex_7104]; exact i_add rfl (show (Int32.ofInt (-1)).toInt = (-1) from rfl) (by omega)
                              refine lv_iinc (v := x_7104) (lv' := [(4, .int x_7104), (9, .int 0), (5, .int x_6914), (8, .int x_6913), (7, .int x_6911), (6, .int v_5746), (0, .ref a0), (1, .ref c0), (3, .ref w0)]) hx hb dX3_run_273 hl (k := 5) rfl (by rw [ex_7104]) (by decide +kernel) rfl (fun ls hl => ?_)
                              refine lv_goto (tgt := 329) hx hb dX3_run_276 (by decide +kernel) ?_
                              exact j_7020 x_7104 x_6914 v_5748 f_5749 (by rw [hx_7104]; omega) (by rw [hx_6914]; omega) (by omega) (show v_5746.toInt < (x_6914 : Int32).toInt by omega) hE _ _ (hP.sub [1, 2, 0] rfl) (hD.sub [1, 2, 0] (by decide +kernel) rfl) hS ls (lv_sub hl [0, 2, 5, 6, 7, 8] rfl)
                          · have c_7099i := i_ne (x := x_7098.toInt) (y := 0) rfl rfl c_7099
                            replace hE := hE.trans (if_neg c_7099)
                            refine lv_iconst (v := 1) hx hb dX3_run_237 (by decide +kernel) ?_
                            refine lv_goto (tgt := 242) hx hb dX3_run_238 (by decide +kernel) ?_
                            refine lv_istore (lv' := [(9, .int 1), (5, .int x_6914), (8, .int x_6913), (7, .int x_6911), (6, .int v_5746), (4, .int v_5747), (0, .ref a0), (1, .ref c0), (3, .ref w0)]) hx hb dX3_run_242 hl (by decide +kernel) rfl (fun ls hl => ?_)
                            refine lv_iload hx hb dX3_run_244 (lv_at hl 0 rfl) ?_
                            refine lv_iload hx hb dX3_run_246 (lv_at hl 3 rfl) ?_
                            refine lv_bipush (v := 12) hx hb dX3_run_248 (by decide +kernel) ?_
                            refine lv_icmp_ne (tgt := 257) hx hb dX3_run_250 (by decide +kernel) (fun c_7105 => ?_) (fun c_7105 => ?_)
                            · have c_7105i := i_ne (x := x_6911.toInt) (y := 12) rfl rfl c_7105
                              replace hE := hE.trans (if_neg c_7105)
                              refine lv_iconst (v := 0) hx hb dX3_run_257 (by decide +kernel) ?_
                              refine lv_icmp_ne (tgt := 273) hx hb dX3_run_258 (by decide +kernel) (fun c_7106 => ?_) (fun c_7106 => absurd c_7106 (by decide +kernel))
                              obtain ⟨x_7107, ex_7107⟩ : ∃ y : Int32, y = v_5747 + Int32.ofInt (-1) := ⟨_, rfl⟩
                              replace hE := hE.trans (Lt_in ex_7107)
                              have hx_7107 : x_7107.toInt = (v_5747.toInt + (-1)) := by rw [ex_7107]; exact i_add rfl (show (Int32.ofInt (-1)).toInt = (-1) from rfl) (by omega)
                              refine lv_iinc (v := x_7107) (lv' := [(4, .int x_7107), (9, .int 1), (5, .int x_6914), (8, .int x_6913), (7, .int x_6911), (6, .int v_5746), (0, .ref a0), (1, .ref c0), (3, .ref w0)]) hx hb dX3_run_273 hl (k := 5) rfl (by rw [ex_7107]) (by decide +kernel) rfl (fun ls hl => ?_)
                              refine lv_goto (tgt := 329) hx hb dX3_run_276 (by decide +kernel) ?_
                              exact j_7020 x_7107 x_6914 v_5748 f_5749 (by rw [hx_7107]; omega) (by rw [hx_6914]; omega) (by omega) (show v_5746.toInt < (x_6914 : Int32).toInt by omega) hE _ _ (hP.sub [1, 2, 0] rfl) (hD.sub [1, 2, 0] (by decide +kernel) rfl) hS ls (lv_sub hl [0, 2, 5, 6, 7, 8] rfl)
                            · have c_7105i := i_eq (x := x_6911.toInt) (y := 12) rfl rfl c_7105
                              replace hE := hE.trans (if_pos c_7105)
                              refine lv_iconst (v := 1) hx hb dX3_run_253 (by decide +kernel) ?_
                              refine lv_goto (tgt := 258) hx hb dX3_run_254 (by decide +kernel) ?_
                              refine lv_icmp_ne (tgt := 273) hx hb dX3_run_258 (by decide +kernel) (fun c_7108 => absurd (by decide +kernel) c_7108) (fun c_7108 => ?_)
                              refine lv_iload hx hb dX3_run_261 (lv_at hl 1 rfl) ?_
                              refine lv_iload hx hb dX3_run_263 (lv_at hl 2 rfl) ?_
                              refine va_mmax hx hb (hml.trans hl.1.symm) hown (hts _ mm_X3_run_417) (hts _ mm_X3_run_418) (hts _ mm_X3_run_157) (hts _ mm_X3_run_419) (Nat.le_of_ble_eq_true rfl) (Nat.le_of_ble_eq_true rfl) (Nat.le_of_ble_eq_true rfl) (Nat.le_of_ble_eq_true rfl) dX3_run_265 ?_
                              refine lv_topi (fun x_7109 ex_7109 => ?_)
                              replace hE := hE.trans (Lt_in ex_7109)
                              have hx_7109 : (x_6913.toInt ≤ (v_5746.toInt + 2) ∧ x_7109.toInt = (v_5746.toInt + 2)) ∨ ((v_5746.toInt + 2) < x_6913.toInt ∧ x_7109.toInt = x_6913.toInt) := by rw [ex_7109]; exact i_max hx_6914 rfl
                              replace hx_7109 : (v_5746.toInt + 2) ≤ x_7109.toInt ∧ x_6913.toInt ≤ x_7109.toInt ∧ 2 ≤ x_7109.toInt ∧ x_7109.toInt ≤ 999999 := by omega
                              refine lv_istore (lv' := [(5, .int x_7109), (9, .int 1), (8, .int x_6913), (7, .int x_6911), (6, .int v_5746), (4, .int v_5747), (0, .ref a0), (1, .ref c0), (3, .ref w0)]) hx hb dX3_run_268 hl (by decide +kernel) rfl (fun ls hl => ?_)
                              refine lv_goto (tgt := 276) hx hb dX3_run_270 (by decide +kernel) ?_
                              refine lv_goto (tgt := 329) hx hb dX3_run_276 (by decide +kernel) ?_
                              exact j_7020 v_5747 x_7109 v_5748 f_5749 (by omega) (by omega) (by omega) (show v_5746.toInt < (x_7109 : Int32).toInt by omega) hE _ _ (hP.sub [1, 2, 0] rfl) (hD.sub [1, 2, 0] (by decide +kernel) rfl) hS ls (lv_sub hl [5, 0, 4, 6, 7, 8] rfl)
                        refine lv_icmp_eq (tgt := 225) hx hb dX3_run_215 (by decide +kernel) (fun c_7110 => ?_) (fun c_7110 => ?_)
                        · have c_7110i := i_eq (x := x_6911.toInt) (y := 12) rfl rfl c_7110
                          replace hE := hE.trans (if_pos c_7110)
                          exact j_7096  (by omega) hE _ _ hP hD hS ls (lv_sub hl [0, 1, 2, 3, 4, 5, 6, 7] rfl)
                        · have c_7110i := i_ne (x := x_6911.toInt) (y := 12) rfl rfl c_7110
                          replace hE := hE.trans (if_neg c_7110)
                          refine lv_iload hx hb dX3_run_218 (lv_at hl 2 rfl) ?_
                          refine lv_bipush (v := 13) hx hb dX3_run_220 (by decide +kernel) ?_
                          refine lv_icmp_ne (tgt := 279) hx hb dX3_run_222 (by decide +kernel) (fun c_7111 => ?_) (fun c_7111 => ?_)
                          · have c_7111i := i_ne (x := x_6911.toInt) (y := 13) rfl rfl c_7111
                            replace hE := hE.trans (if_neg c_7111)
                            refine lv_iload hx hb dX3_run_279 (lv_at hl 4 rfl) ?_
                            refine lv_iconst (v := 2) hx hb dX3_run_281 (by decide +kernel) ?_
                            refine lv_icmp_ge (tgt := 293) hx hb dX3_run_282 (by decide +kernel) (fun c_7112 => ?_) (fun c_7112 => ?_)
                            · have c_7112i := i_le (x := 2) (y := v_5747.toInt) rfl rfl c_7112
                              replace hE := hE.trans (if_pos c_7112)
                              obtain ⟨x_7113, ex_7113⟩ : ∃ y : Int32, y = v_5747 + Int32.ofInt (-1) := ⟨_, rfl⟩
                              replace hE := hE.trans (Lt_in ex_7113)
                              have hx_7113 : x_7113.toInt = (v_5747.toInt + (-1)) := by rw [ex_7113]; exact i_add rfl (show (Int32.ofInt (-1)).toInt = (-1) from rfl) (by omega)
                              refine lv_iinc (v := x_7113) (lv' := [(4, .int x_7113), (5, .int x_6914), (8, .int x_6913), (7, .int x_6911), (6, .int v_5746), (0, .ref a0), (1, .ref c0), (3, .ref w0)]) hx hb dX3_run_293 hl (k := 4) rfl (by rw [ex_7113]) (by decide +kernel) rfl (fun ls hl => ?_)
                              refine lv_aload_n hx hb dX3_run_296 rfl (lv_at hl 5 rfl) ?_
                              refine va_get (ci := 3) (v := .ref a1) (C := RX3) (T := TX3) (N := 2) hx hb hts hw3 hown hK hP 0 rfl rfl 0 (by decide +kernel) (hts _ mm_X3_run_261) (fun _ h9 => h9) rfl dX3_run_297 ?_
                              refine lv_iload hx hb dX3_run_300 (lv_at hl 0 rfl) ?_
                              refine lv_iconst (v := 1) hx hb dX3_run_302 (by decide +kernel) ?_
                              refine lv_isub hx hb dX3_run_303 ?_
                              refine lv_topi (fun x_7114 ex_7114 => ?_)
                              replace hE := hE.trans (Lt_in ex_7114)
                              have hx_7114 : x_7114.toInt = ((v_5747.toInt + (-1)) - 1) := by rw [ex_7114]; exact i_sub hx_7113 (show (1 : Int32).toInt = 1 from rfl) (by omega)
                              refine lv_aload_n hx hb dX3_run_304 rfl (lv_at hl 5 rfl) ?_
                              refine lv_iload hx hb dX3_run_305 (lv_at hl 3 rfl) ?_
                              refine lv_aload_n hx hb dX3_run_307 rfl (lv_at hl 5 rfl) ?_
                              refine va_get (ci := 3) (v := .ref a1) (C := RX3) (T := TX3) (N := 2) hx hb hts hw3 hown hK hP 0 rfl rfl 0 (by decide +kernel) (hts _ mm_X3_run_261) (fun _ h9 => h9) rfl dX3_run_308 ?_
                              refine lv_iload hx hb dX3_run_311 (lv_at hl 0 rfl) ?_
                              refine lv_iconst (v := 1) hx hb dX3_run_313 (by decide +kernel) ?_
                              refine lv_isub hx hb dX3_run_314 ?_
                              refine lv_topi (fun x_7115 ex_7115 => ?_)
                              replace hE := hE.trans (Lt_in ex_7115)
                              have hx_7115 : x_7115.toInt = ((v_5747.toInt + (-1)) - 1) := by rw [ex_7115]; exact i_sub hx_7113 (show (1 : Int32).toInt = 1 from rfl) (by omega)
                              refine va_iald hx hb hK hP 1 0 rfl rfl (i_in hx_7115 (by omega)) dX3_run_315 ?_
                              refine lv_topi (fun x_7116 ex_7116 => ?_)
                              replace hE := hE.trans (Lt_in ex_7116)
                              refine lv_i2l hx hb dX3_run_316 rfl ?_
                              refine lv_topl (fun x_7117 ex_7117 => ?_)
                              replace hE := hE.trans (Lt_in ex_7117)
                              have hx_7117 : x_7117.toInt = x_7116.toInt := by rw [ex_7117]; exact i_wide rfl
                              have hbx_7117 := i_rng (a := x_7116) rfl
                              refine lv_aload_n hx hb dX3_run_317 rfl (lv_at hl 5 rfl) ?_
                              refine va_get (ci := 3) (v := .ref a1) (C := RX3) (T := TX3) (N := 2) hx hb hts hw3 hown hK hP 0 rfl rfl 0 (by decide +kernel) (hts _ mm_X3_run_261) (fun _ h9 => h9) rfl dX3_run_318 ?_
                              refine lv_iload hx hb dX3_run_321 (lv_at hl 0 rfl) ?_
                              refine va_iald hx hb hK hP 1 0 rfl rfl (i_in hx_7113 (by omega)) dX3_run_323 ?_
                              refine lv_topi (fun x_7118 ex_7118 => ?_)
                              replace hE := hE.trans (Lt_in ex_7118)
                              refine lv_i2l hx hb dX3_run_324 rfl ?_
                              refine lv_topl (fun x_7119 ex_7119 => ?_)
                              replace hE := hE.trans (Lt_in ex_7119)
                              have hx_7119 : x_7119.toInt = x_7118.toInt := by rw [ex_7119]; exact i_wide rfl
                              have hbx_7119 := i_rng (a := x_7118) rfl
                              refine kci (S := Su) (wr := [(a1, .inl (K 0, 64, .inl f_5749)), (w0, .inl (K 0, nw, .inl fw))]) (va_runV (As := [.int x_6911, .long x_7117, .long x_7119]) (rest := [.int x_7114, .ref a1]) ⟨hx, hb, hml, hown, hts⟩ (w_combine l D K a0 x_6911 x_7117 x_7119 (.ref a1) v_5748 H.size (by first | omega | decide) (by first | omega | decide) (by first | omega | decide)) (cwV 3 hts gX3_run_X3_combine rfl rfl rfl (by decide +kernel) ⟨Nat.le_of_ble_eq_true rfl, Nat.le_of_ble_eq_true rfl⟩) (mkV hK hN (hP.sub [0] rfl) (hD.sub [0] (by decide +kernel) rfl) (ci := 3) (q0 := 0) rfl rfl) rfl rfl hl.1 rfl (lv_room (Nat.le_of_ble_eq_true rfl)) dX3_run_325 ⟨Nat.le_of_ble_eq_true rfl, Nat.le_of_ble_eq_true rfl⟩) hP hD hS hA [0] [1, 2] rfl rfl (by decide +kernel) (by decide +kernel) (fun r_7120 u_7121 H locs hw hP0 hD0 hS0 => ?_)
                              clear hP hD hS
                              have hP := hP0
                              have hD := hD0
                              have hS := hS0
                              clear hP0 hD0 hS0
                              replace hP : va_P D vwCl [(a1, .inl (K 0, 64, .inl f_5749)), (w0, .inl (K 0, nw, .inl fw)), (a0, .inr (3, [.ref a1, .int (u_7121.2.2.2.1 0)]))] H := hP
                              replace hD : va_D A [(a1, .inl (K 0, 64, .inl f_5749)), (w0, .inl (K 0, nw, .inl fw)), (a0, .inr (3, [.ref a1, .int (u_7121.2.2.2.1 0)]))] := hD
                              obtain ⟨h_7124, k_7122, k_7123, -⟩ := hw
                              replace hE := hE.trans (Lt2_in k_7123)
                              refine va_iast hx hb hK hP hD hS 0 0 rfl rfl (i_in hx_7114 (by omega)) dX3_run_328 (fun H locs hP0 hD0 hS0 => ?_)
                              clear hP hD hS
                              have hP := hP0
                              have hD := hD0
                              have hS := hS0
                              clear hP0 hD0 hS0
                              generalize hf_7125 : (upd f_5749 (x_7114 : Int32).toNatClampNeg r_7120) = f_7125 at hP hD
                              replace hE := hE.trans (Lt_in hf_7125.symm)
                              replace hP : va_P D vwCl [(a1, .inl (K 0, 64, .inl f_7125)), (w0, .inl (K 0, nw, .inl fw)), (a0, .inr (3, [.ref a1, .int (u_7121.2.2.2.1 0)]))] H := hP
                              replace hD : va_D A [(a1, .inl (K 0, 64, .inl f_7125)), (w0, .inl (K 0, nw, .inl fw)), (a0, .inr (3, [.ref a1, .int (u_7121.2.2.2.1 0)]))] := hD
                              exact j_7020 x_7113 x_6914 (u_7121.2.2.2.1 0) f_7125 (by rw [hx_7113]; omega) (by rw [hx_6914]; omega) (by omega) (show v_5746.toInt < (x_6914 : Int32).toInt by omega) hE _ _ hP hD hS ls (lv_sub hl [0, 1, 4, 5, 6, 7] rfl)
                            · have c_7112i := i_nle (x := 2) (y := v_5747.toInt) rfl rfl c_7112
                              replace hE := hE.trans (if_neg c_7112)
                              refine lv_aload_n hx hb dX3_run_285 rfl (lv_at hl 5 rfl) ?_
                              refine lv_iconst (v := 1) hx hb dX3_run_286 (by decide +kernel) ?_
                              refine va_put (ci := 3) (v := .int 1) (ty := .boolean) (C := RX3) (T := TX3) (N := 2) hx hb hts hw3 tyX3 tyX3_ok nmX3 hown hK hP hD hS 0 rfl rfl 1 (by decide +kernel) (hts _ mm_X3_run_262) (fun _ h9 => h9) rfl (by decide +kernel) (by first | rfl | decide) (by first | rfl | decide) (Nat.le_of_ble_eq_true rfl) dX3_run_287 (fun H locs hP0 hD0 hS0 => ?_)
                              clear hP hD hS
                              have hP := hP0
                              have hD := hD0
                              have hS := hS0
                              clear hP0 hD0 hS0
                              replace hP : va_P D vwCl [(a0, .inr (3, [.ref a1, .int 1])), (a1, .inl (K 0, 64, .inl f_5749)), (w0, .inl (K 0, nw, .inl fw))] H := hP
                              replace hD : va_D A [(a0, .inr (3, [.ref a1, .int 1])), (a1, .inl (K 0, 64, .inl f_5749)), (w0, .inl (K 0, nw, .inl fw))] := hD
                              refine lv_goto (tgt := 329) hx hb dX3_run_290 (by decide +kernel) ?_
                              have hz_7126 : (1 : Int32).toInt = 1 := rfl
                              exact j_7020 v_5747 x_6914 1 f_5749 (by omega) (by rw [hx_6914]; omega) (by decide +kernel) (show v_5746.toInt < (x_6914 : Int32).toInt by omega) hE _ _ (hP.sub [1, 2, 0] rfl) (hD.sub [1, 2, 0] (by decide +kernel) rfl) hS ls (lv_sub hl [4, 0, 3, 5, 6, 7] rfl)
                          · have c_7111i := i_eq (x := x_6911.toInt) (y := 13) rfl rfl c_7111
                            replace hE := hE.trans (if_pos c_7111)
                            exact j_7096  (by omega) hE _ _ hP hD hS ls (lv_sub hl [0, 1, 2, 3, 4, 5, 6, 7] rfl)
                      · have c_7065i := i_eq (x := x_6911.toInt) (y := 11) rfl rfl c_7065
                        replace hE := hE.trans (if_pos c_7065)
                        refine lv_aload_n hx hb dX3_run_188 rfl (lv_at hl 5 rfl) ?_
                        refine va_get (ci := 3) (v := .ref a1) (C := RX3) (T := TX3) (N := 2) hx hb hts hw3 hown hK hP 0 rfl rfl 0 (by decide +kernel) (hts _ mm_X3_run_261) (fun _ h9 => h9) rfl dX3_run_189 ?_
                        refine lv_iload hx hb dX3_run_192 (lv_at hl 4 rfl) ?_
                        refine lv_iconst (v := 1) hx hb dX3_run_194 (by decide +kernel) ?_
                        refine lv_isub hx hb dX3_run_195 ?_
                        refine lv_topi (fun x_7127 ex_7127 => ?_)
                        replace hE := hE.trans (Lt_in ex_7127)
                        have hx_7127 : x_7127.toInt = (v_5747.toInt - 1) := by rw [ex_7127]; exact i_sub rfl (show (1 : Int32).toInt = 1 from rfl) (by omega)
                        refine lv_iconst (v := 1) hx hb dX3_run_196 (by decide +kernel) ?_
                        refine lv_aload_n hx hb dX3_run_197 rfl (lv_at hl 5 rfl) ?_
                        refine va_get (ci := 3) (v := .ref a1) (C := RX3) (T := TX3) (N := 2) hx hb hts hw3 hown hK hP 0 rfl rfl 0 (by decide +kernel) (hts _ mm_X3_run_261) (fun _ h9 => h9) rfl dX3_run_198 ?_
                        refine lv_iload hx hb dX3_run_201 (lv_at hl 4 rfl) ?_
                        refine lv_iconst (v := 1) hx hb dX3_run_203 (by decide +kernel) ?_
                        refine lv_isub hx hb dX3_run_204 ?_
                        refine lv_topi (fun x_7128 ex_7128 => ?_)
                        replace hE := hE.trans (Lt_in ex_7128)
                        have hx_7128 : x_7128.toInt = (v_5747.toInt - 1) := by rw [ex_7128]; exact i_sub rfl (show (1 : Int32).toInt = 1 from rfl) (by omega)
                        refine va_iald hx hb hK hP 1 0 rfl rfl (i_in hx_7128 (by omega)) dX3_run_205 ?_
                        refine lv_topi (fun x_7129 ex_7129 => ?_)
                        replace hE := hE.trans (Lt_in ex_7129)
                        refine lv_isub hx hb dX3_run_206 ?_
                        refine lv_topi (fun x_7130 ex_7130 => ?_)
                        replace hE := hE.trans (Lt_in ex_7130)
                        refine va_iast hx hb hK hP hD hS 1 0 rfl rfl (i_in hx_7127 (by omega)) dX3_run_207 (fun H locs hP0 hD0 hS0 => ?_)
                        clear hP hD hS
                        have hP := hP0
                        have hD := hD0
                        have hS := hS0
                        clear hP0 hD0 hS0
                        generalize hf_7131 : (upd f_5749 (x_7127 : Int32).toNatClampNeg x_7130) = f_7131 at hP hD
                        replace hE := hE.trans (Lt_in hf_7131.symm)
                        replace hP : va_P D vwCl [(a0, .inr (3, [.ref a1, .int v_5748])), (a1, .inl (K 0, 64, .inl f_7131)), (w0, .inl (K 0, nw, .inl fw))] H := hP
                        replace hD : va_D A [(a0, .inr (3, [.ref a1, .int v_5748])), (a1, .inl (K 0, 64, .inl f_7131)), (w0, .inl (K 0, nw, .inl fw))] := hD
                        refine lv_goto (tgt := 329) hx hb dX3_run_208 (by decide +kernel) ?_
                        exact j_7020 v_5747 x_6914 v_5748 f_7131 (by omega) (by rw [hx_6914]; omega) (by omega) (show v_5746.toInt < (x_6914 : Int32).toInt by omega) hE _ _ (hP.sub [1, 2, 0] rfl) (hD.sub [1, 2, 0] (by decide +kernel) rfl) hS ls (lv_sub hl [4, 0, 3, 5, 6, 7] rfl)
                    · have c_7064i := i_nle (x := 1) (y := v_5747.toInt) rfl rfl c_7064
                      replace hE := hE.trans (if_neg c_7064)
                      refine lv_aload_n hx hb dX3_run_173 rfl (lv_at hl 5 rfl) ?_
                      refine lv_iconst (v := 1) hx hb dX3_run_174 (by decide +kernel) ?_
                      refine va_put (ci := 3) (v := .int 1) (ty := .boolean) (C := RX3) (T := TX3) (N := 2) hx hb hts hw3 tyX3 tyX3_ok nmX3 hown hK hP hD hS 0 rfl rfl 1 (by decide +kernel) (hts _ mm_X3_run_262) (fun _ h9 => h9) rfl (by decide +kernel) (by first | rfl | decide) (by first | rfl | decide) (Nat.le_of_ble_eq_true rfl) dX3_run_175 (fun H locs hP0 hD0 hS0 => ?_)
                      clear hP hD hS
                      have hP := hP0
                      have hD := hD0
                      have hS := hS0
                      clear hP0 hD0 hS0
                      replace hP : va_P D vwCl [(a0, .inr (3, [.ref a1, .int 1])), (a1, .inl (K 0, 64, .inl f_5749)), (w0, .inl (K 0, nw, .inl fw))] H := hP
                      replace hD : va_D A [(a0, .inr (3, [.ref a1, .int 1])), (a1, .inl (K 0, 64, .inl f_5749)), (w0, .inl (K 0, nw, .inl fw))] := hD
                      refine lv_goto (tgt := 329) hx hb dX3_run_178 (by decide +kernel) ?_
                      have hz_7132 : (1 : Int32).toInt = 1 := rfl
                      exact j_7020 v_5747 x_6914 1 f_5749 (by omega) (by rw [hx_6914]; omega) (by decide +kernel) (show v_5746.toInt < (x_6914 : Int32).toInt by omega) hE _ _ (hP.sub [1, 2, 0] rfl) (hD.sub [1, 2, 0] (by decide +kernel) rfl) hS ls (lv_sub hl [4, 0, 3, 5, 6, 7] rfl)
                  · have c_7063i := i_eq (x := x_6911.toInt) (y := 2) rfl rfl c_7063
                    replace hE := hE.trans (if_pos c_7063)
                    exact j_7021  (by omega) hE _ _ hP hD hS ls (lv_sub hl [0, 1, 2, 3, 4, 5, 6, 7] rfl)
              · have c_6915i := i_eq (x := x_6911.toInt) (y := 0) rfl rfl c_6915
                replace hE := hE.trans (if_pos c_6915)
                refine lv_goto (tgt := 336) hx hb dX3_run_68 (by decide +kernel) ?_
                exact j_6897   hE _ _ hP hD hS ls (lv_sub hl [3, 4, 5] rfl)
    exact lp_6660 ((((nc : Nat) : Int) - (x : Int32).toInt : Int).toNat + 1) x 0 0 fs (by omega) (by decide +kernel) (by decide +kernel) (Nat.lt_succ_self _) hE _ _ hP hD hS ls (lv_sub hl [0, 2, 3, 4, 6] rfl)
  · have c_4785i := i_nle (x := 0) (y := x.toInt) rfl rfl c_4785
    replace hE := hE.trans (if_neg c_4785)
    refine lv_iconst (v := 1) hx hb dX3_run_5 (by decide +kernel) ?_
    refine lv_goto (tgt := 10) hx hb dX3_run_6 (by decide +kernel) ?_
    refine va_put (ci := 3) (v := .int 1) (ty := .boolean) (C := RX3) (T := TX3) (N := 2) hx hb hts hw3 tyX3 tyX3_ok nmX3 hown hK hP hD hS 0 rfl rfl 1 (by decide +kernel) (hts _ mm_X3_run_262) (fun _ h9 => h9) rfl (by decide +kernel) (by first | rfl | decide) (by first | rfl | decide) (Nat.le_of_ble_eq_true rfl) dX3_run_10 (fun H locs hP0 hD0 hS0 => ?_)
    clear hP hD hS
    have hP := hP0
    have hD := hD0
    have hS := hS0
    clear hP0 hD0 hS0
    replace hP : va_P D vwCl [(a0, .inr (3, [.ref a1, .int 1])), (a1, .inl (K 0, 64, .inl fs)), (w0, .inl (K 0, nw, .inl fw))] H := hP
    replace hD : va_D A [(a0, .inr (3, [.ref a1, .int 1])), (a1, .inl (K 0, 64, .inl fs)), (w0, .inl (K 0, nw, .inl fw))] := hD
    refine lv_iconst (v := 0) hx hb dX3_run_13 (by decide +kernel) ?_
    refine lv_istore (lv' := [(4, .int 0), (0, .ref a0), (1, .ref c0), (2, .int x), (3, .ref w0)]) hx hb dX3_run_14 hl (by decide +kernel) rfl (fun ls hl => ?_)
    refine lv_iload_n hx hb dX3_run_16 rfl (lv_at hl 3 rfl) ?_
    refine lv_istore (lv' := [(5, .int x), (4, .int 0), (0, .ref a0), (1, .ref c0), (2, .int x), (3, .ref w0)]) hx hb dX3_run_17 hl (by decide +kernel) rfl (fun ls hl => ?_)
    refine lv_iload_n hx hb dX3_run_19 rfl (lv_at hl 4 rfl) ?_
    refine lv_istore (lv' := [(6, .int x), (5, .int x), (4, .int 0), (0, .ref a0), (1, .ref c0), (2, .int x), (3, .ref w0)]) hx hb dX3_run_20 hl (by decide +kernel) rfl (fun ls hl => ?_)
    refine lv_aload_n hx hb dX3_run_22 rfl (lv_at hl 3 rfl) ?_
    refine va_get (ci := 3) (v := .int 1) (C := RX3) (T := TX3) (N := 2) hx hb hts hw3 hown hK hP 0 rfl rfl 1 (by decide +kernel) (hts _ mm_X3_run_262) (fun _ h9 => h9) rfl dX3_run_23 ?_
    refine lv_if_ne (tgt := 336) hx hb dX3_run_26 (by decide +kernel) (fun c_7144 => ?_) (fun c_7144 => absurd c_7144 (by decide +kernel))
    refine lv_aload_n hx hb dX3_run_336 rfl (lv_at hl 3 rfl) ?_
    refine va_get (ci := 3) (v := .int 1) (C := RX3) (T := TX3) (N := 2) hx hb hts hw3 hown hK hP 0 rfl rfl 1 (by decide +kernel) (hts _ mm_X3_run_262) (fun _ h9 => h9) rfl dX3_run_337 ?_
    refine lv_if_ne (tgt := 349) hx hb dX3_run_340 (by decide +kernel) (fun c_7146 => ?_) (fun c_7146 => absurd c_7146 (by decide +kernel))
    refine lv_iconst (v := 0) hx hb dX3_run_349 (by decide +kernel) ?_
    refine lv_goto (tgt := 362) hx hb dX3_run_350 (by decide +kernel) ?_
    rw [← hQ]
    have hP9 := hP.sub (ws' := [(a0, .inr (3, [.ref a1, .int 1])), (a1, .inl (K 0, 64, .inl fs)), (w0, .inl (K 0, nw, .inl fw))]) [0, 1, 2] rfl
    have hD9 := hD.sub (ws' := [(a0, .inr (3, [.ref a1, .int 1])), (a1, .inl (K 0, 64, .inl fs)), (w0, .inl (K 0, nw, .inl fw))]) [0, 1, 2] (by decide +kernel) rfl
    exact W.iret (v := 0) hx hb hr (fun t ht hW => ⟨⟨0, ((fun _ => 0, fun i => match i with | _ => fs, fun _ => fun _ => 0, fun i => match i with | _ => 1, fun _ => 0, fun _ => fun _ => none) : Su), rfl, ⟨(show 0 ≤ (1 : Int32).toInt ∧ (1 : Int32).toInt ≤ 1 by decide), hE.symm, trivial⟩, (⟨by rw [ht]; exact hP9, hD9⟩ : Wd D A _ t)⟩, hS.F ht⟩) hS.2.2 dX3_run_362
