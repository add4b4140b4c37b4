theorem BX12_ask_0 : bsegs (ByteArray.data cX12_ask |>.toList.drop 0) 0 [(0, [42]), (1, [3]), (2, [181, 0, 158]), (5, [27]), (6, [133]), (7, [9]), (8, [10]), (9, [184, 0, 178]), (12, [154, 0, 5]), (15, [2]), (16, [172]), (17, [3]), (18, [61]), (19, [3]), (20, [62]), (21, [29]), (22, [16, 8]), (24, [162, 0, 16]), (27, [42]), (28, [180, 0, 132]), (31, [29]), (32, [3]), (33, [79]), (34, [132, 3, 1])] = true := by decide +kernel
theorem dX12_ask_0 : decode cX12_ask 0 = .ok (.aload_n 0, 1) := dk_42 (bs_at BX12_ask_0 0 rfl)
theorem dX12_ask_1 : decode cX12_ask 1 = .ok (.iconst 0, 1) := dk_3 (bs_at BX12_ask_0 1 rfl)
theorem dX12_ask_2 : decode cX12_ask 2 = .ok (.putfield 158, 3) := dk_181 0 158 (bs_at BX12_ask_0 2 rfl) rfl
theorem dX12_ask_5 : decode cX12_ask 5 = .ok (.iload_n 1, 1) := dk_27 (bs_at BX12_ask_0 3 rfl)
theorem dX12_ask_6 : decode cX12_ask 6 = .ok (.i2l, 1) := dk_133 (bs_at BX12_ask_0 4 rfl)
theorem dX12_ask_7 : decode cX12_ask 7 = .ok (.lconst 0, 1) := dk_9 (bs_at BX12_ask_0 5 rfl)
theorem dX12_ask_8 : decode cX12_ask 8 = .ok (.lconst 1, 1) := dk_10 (bs_at BX12_ask_0 6 rfl)
theorem dX12_ask_9 : decode cX12_ask 9 = .ok (.invokestatic 178, 3) := dk_184 0 178 (bs_at BX12_ask_0 7 rfl) rfl
theorem dX12_ask_12 : decode cX12_ask 12 = .ok (.ifCond .ne 5, 3) := dk_154 0 5 (bs_at BX12_ask_0 8 rfl) rfl
theorem dX12_ask_15 : decode cX12_ask 15 = .ok (.iconst (-1), 1) := dk_2 (bs_at BX12_ask_0 9 rfl)
theorem dX12_ask_16 : decode cX12_ask 16 = .ok (.ireturn, 1) := dk_172 (bs_at BX12_ask_0 10 rfl)
theorem dX12_ask_17 : decode cX12_ask 17 = .ok (.iconst 0, 1) := dk_3 (bs_at BX12_ask_0 11 rfl)
theorem dX12_ask_18 : decode cX12_ask 18 = .ok (.istore_n 2, 1) := dk_61 (bs_at BX12_ask_0 12 rfl)
theorem dX12_ask_19 : decode cX12_ask 19 = .ok (.iconst 0, 1) := dk_3 (bs_at BX12_ask_0 13 rfl)
theorem dX12_ask_20 : decode cX12_ask 20 = .ok (.istore_n 3, 1) := dk_62 (bs_at BX12_ask_0 14 rfl)
theorem dX12_ask_21 : decode cX12_ask 21 = .ok (.iload_n 3, 1) := dk_29 (bs_at BX12_ask_0 15 rfl)
theorem dX12_ask_22 : decode cX12_ask 22 = .ok (.bipush 8, 2) := dk_16 8 (bs_at BX12_ask_0 16 rfl) rfl
theorem dX12_ask_24 : decode cX12_ask 24 = .ok (.if_icmp .ge 16, 3) := dk_162 0 16 (bs_at BX12_ask_0 17 rfl) rfl
theorem dX12_ask_27 : decode cX12_ask 27 = .ok (.aload_n 0, 1) := dk_42 (bs_at BX12_ask_0 18 rfl)
theorem dX12_ask_28 : decode cX12_ask 28 = .ok (.getfield 132, 3) := dk_180 0 132 (bs_at BX12_ask_0 19 rfl) rfl
theorem dX12_ask_31 : decode cX12_ask 31 = .ok (.iload_n 3, 1) := dk_29 (bs_at BX12_ask_0 20 rfl)
theorem dX12_ask_32 : decode cX12_ask 32 = .ok (.iconst 0, 1) := dk_3 (bs_at BX12_ask_0 21 rfl)
theorem dX12_ask_33 : decode cX12_ask 33 = .ok (.iastore, 1) := dk_79 (bs_at BX12_ask_0 22 rfl)
theorem dX12_ask_34 : decode cX12_ask 34 = .ok (.iinc 3 1, 3) := dk_132 3 1 (bs_at BX12_ask_0 23 rfl) rfl
theorem BX12_ask_37 : bsegs (ByteArray.data cX12_ask |>.toList.drop 37) 37 [(37, [167, 255, 240]), (40, [3]), (41, [62]), (42, [29]), (43, [4]), (44, [42]), (45, [180, 0, 13]), (48, [3]), (49, [46]), (50, [120]), (51, [162, 0, 52]), (54, [42]), (55, [29]), (56, [182, 2, 3]), (59, [153, 0, 38]), (62, [132, 2, 1]), (65, [3]), (66, [54, 4]), (68, [21, 4]), (70, [16, 8]), (72, [162, 0, 25]), (75, [42]), (76, [180, 0, 132]), (79, [21, 4])] = true := by decide +kernel
theorem dX12_ask_37 : decode cX12_ask 37 = .ok (.goto (-16), 3) := dk_167 255 240 (bs_at BX12_ask_37 0 rfl) rfl
theorem dX12_ask_40 : decode cX12_ask 40 = .ok (.iconst 0, 1) := dk_3 (bs_at BX12_ask_37 1 rfl)
theorem dX12_ask_41 : decode cX12_ask 41 = .ok (.istore_n 3, 1) := dk_62 (bs_at BX12_ask_37 2 rfl)
theorem dX12_ask_42 : decode cX12_ask 42 = .ok (.iload_n 3, 1) := dk_29 (bs_at BX12_ask_37 3 rfl)
theorem dX12_ask_43 : decode cX12_ask 43 = .ok (.iconst 1, 1) := dk_4 (bs_at BX12_ask_37 4 rfl)
theorem dX12_ask_44 : decode cX12_ask 44 = .ok (.aload_n 0, 1) := dk_42 (bs_at BX12_ask_37 5 rfl)
theorem dX12_ask_45 : decode cX12_ask 45 = .ok (.getfield 13, 3) := dk_180 0 13 (bs_at BX12_ask_37 6 rfl) rfl
theorem dX12_ask_48 : decode cX12_ask 48 = .ok (.iconst 0, 1) := dk_3 (bs_at BX12_ask_37 7 rfl)
theorem dX12_ask_49 : decode cX12_ask 49 = .ok (.iaload, 1) := dk_46 (bs_at BX12_ask_37 8 rfl)
theorem dX12_ask_50 : decode cX12_ask 50 = .ok (.ishl, 1) := dk_120 (bs_at BX12_ask_37 9 rfl)
theorem dX12_ask_51 : decode cX12_ask 51 = .ok (.if_icmp .ge 52, 3) := dk_162 0 52 (bs_at BX12_ask_37 10 rfl) rfl
theorem dX12_ask_54 : decode cX12_ask 54 = .ok (.aload_n 0, 1) := dk_42 (bs_at BX12_ask_37 11 rfl)
theorem dX12_ask_55 : decode cX12_ask 55 = .ok (.iload_n 3, 1) := dk_29 (bs_at BX12_ask_37 12 rfl)
theorem dX12_ask_56 : decode cX12_ask 56 = .ok (.invokevirtual 515, 3) := dk_182 2 3 (bs_at BX12_ask_37 13 rfl) rfl
theorem dX12_ask_59 : decode cX12_ask 59 = .ok (.ifCond .eq 38, 3) := dk_153 0 38 (bs_at BX12_ask_37 14 rfl) rfl
theorem dX12_ask_62 : decode cX12_ask 62 = .ok (.iinc 2 1, 3) := dk_132 2 1 (bs_at BX12_ask_37 15 rfl) rfl
theorem dX12_ask_65 : decode cX12_ask 65 = .ok (.iconst 0, 1) := dk_3 (bs_at BX12_ask_37 16 rfl)
theorem dX12_ask_66 : decode cX12_ask 66 = .ok (.istore 4, 2) := dk_54 4 (bs_at BX12_ask_37 17 rfl)
theorem dX12_ask_68 : decode cX12_ask 68 = .ok (.iload 4, 2) := dk_21 4 (bs_at BX12_ask_37 18 rfl)
theorem dX12_ask_70 : decode cX12_ask 70 = .ok (.bipush 8, 2) := dk_16 8 (bs_at BX12_ask_37 19 rfl) rfl
theorem dX12_ask_72 : decode cX12_ask 72 = .ok (.if_icmp .ge 25, 3) := dk_162 0 25 (bs_at BX12_ask_37 20 rfl) rfl
theorem dX12_ask_75 : decode cX12_ask 75 = .ok (.aload_n 0, 1) := dk_42 (bs_at BX12_ask_37 21 rfl)
theorem dX12_ask_76 : decode cX12_ask 76 = .ok (.getfield 132, 3) := dk_180 0 132 (bs_at BX12_ask_37 22 rfl) rfl
theorem dX12_ask_79 : decode cX12_ask 79 = .ok (.iload 4, 2) := dk_21 4 (bs_at BX12_ask_37 23 rfl)
theorem BX12_ask_81 : bsegs (ByteArray.data cX12_ask |>.toList.drop 81) 81 [(81, [92]), (82, [46]), (83, [29]), (84, [21, 4]), (86, [122]), (87, [4]), (88, [126]), (89, [96]), (90, [79]), (91, [132, 4, 1]), (94, [167, 255, 230]), (97, [132, 3, 1]), (100, [167, 255, 198]), (103, [2]), (104, [62]), (105, [19, 1, 220]), (108, [54, 4]), (110, [3]), (111, [54, 5]), (113, [21, 5]), (115, [42]), (116, [180, 0, 13]), (119, [3]), (120, [46])] = true := by decide +kernel
theorem dX12_ask_81 : decode cX12_ask 81 = .ok (.dup2, 1) := dk_92 (bs_at BX12_ask_81 0 rfl)
theorem dX12_ask_82 : decode cX12_ask 82 = .ok (.iaload, 1) := dk_46 (bs_at BX12_ask_81 1 rfl)
theorem dX12_ask_83 : decode cX12_ask 83 = .ok (.iload_n 3, 1) := dk_29 (bs_at BX12_ask_81 2 rfl)
theorem dX12_ask_84 : decode cX12_ask 84 = .ok (.iload 4, 2) := dk_21 4 (bs_at BX12_ask_81 3 rfl)
theorem dX12_ask_86 : decode cX12_ask 86 = .ok (.ishr, 1) := dk_122 (bs_at BX12_ask_81 4 rfl)
theorem dX12_ask_87 : decode cX12_ask 87 = .ok (.iconst 1, 1) := dk_4 (bs_at BX12_ask_81 5 rfl)
theorem dX12_ask_88 : decode cX12_ask 88 = .ok (.iand, 1) := dk_126 (bs_at BX12_ask_81 6 rfl)
theorem dX12_ask_89 : decode cX12_ask 89 = .ok (.iadd, 1) := dk_96 (bs_at BX12_ask_81 7 rfl)
theorem dX12_ask_90 : decode cX12_ask 90 = .ok (.iastore, 1) := dk_79 (bs_at BX12_ask_81 8 rfl)
theorem dX12_ask_91 : decode cX12_ask 91 = .ok (.iinc 4 1, 3) := dk_132 4 1 (bs_at BX12_ask_81 9 rfl) rfl
theorem dX12_ask_94 : decode cX12_ask 94 = .ok (.goto (-26), 3) := dk_167 255 230 (bs_at BX12_ask_81 10 rfl) rfl
theorem dX12_ask_97 : decode cX12_ask 97 = .ok (.iinc 3 1, 3) := dk_132 3 1 (bs_at BX12_ask_81 11 rfl) rfl
theorem dX12_ask_100 : decode cX12_ask 100 = .ok (.goto (-58), 3) := dk_167 255 198 (bs_at BX12_ask_81 12 rfl) rfl
theorem dX12_ask_103 : decode cX12_ask 103 = .ok (.iconst (-1), 1) := dk_2 (bs_at BX12_ask_81 13 rfl)
theorem dX12_ask_104 : decode cX12_ask 104 = .ok (.istore_n 3, 1) := dk_62 (bs_at BX12_ask_81 14 rfl)
theorem dX12_ask_105 : decode cX12_ask 105 = .ok (.ldc_w 476, 3) := dk_19 1 220 (bs_at BX12_ask_81 15 rfl) rfl
theorem dX12_ask_108 : decode cX12_ask 108 = .ok (.istore 4, 2) := dk_54 4 (bs_at BX12_ask_81 16 rfl)
theorem dX12_ask_110 : decode cX12_ask 110 = .ok (.iconst 0, 1) := dk_3 (bs_at BX12_ask_81 17 rfl)
theorem dX12_ask_111 : decode cX12_ask 111 = .ok (.istore 5, 2) := dk_54 5 (bs_at BX12_ask_81 18 rfl)
theorem dX12_ask_113 : decode cX12_ask 113 = .ok (.iload 5, 2) := dk_21 5 (bs_at BX12_ask_81 19 rfl)
theorem dX12_ask_115 : decode cX12_ask 115 = .ok (.aload_n 0, 1) := dk_42 (bs_at BX12_ask_81 20 rfl)
theorem dX12_ask_116 : decode cX12_ask 116 = .ok (.getfield 13, 3) := dk_180 0 13 (bs_at BX12_ask_81 21 rfl) rfl
theorem dX12_ask_119 : decode cX12_ask 119 = .ok (.iconst 0, 1) := dk_3 (bs_at BX12_ask_81 22 rfl)
theorem dX12_ask_120 : decode cX12_ask 120 = .ok (.iaload, 1) := dk_46 (bs_at BX12_ask_81 23 rfl)
theorem BX12_ask_121 : bsegs (ByteArray.data cX12_ask |>.toList.drop 121) 121 [(121, [162, 0, 83]), (124, [28]), (125, [158, 0, 79]), (128, [42]), (129, [180, 0, 132]), (132, [21, 5]), (134, [46]), (135, [28]), (136, [42]), (137, [180, 0, 132]), (140, [21, 5]), (142, [46]), (143, [100]), (144, [164, 0, 13]), (147, [42]), (148, [180, 0, 132]), (151, [21, 5]), (153, [46]), (154, [167, 0, 12]), (157, [28]), (158, [42]), (159, [180, 0, 132]), (162, [21, 5]), (164, [46])] = true := by decide +kernel
theorem dX12_ask_121 : decode cX12_ask 121 = .ok (.if_icmp .ge 83, 3) := dk_162 0 83 (bs_at BX12_ask_121 0 rfl) rfl
theorem dX12_ask_124 : decode cX12_ask 124 = .ok (.iload_n 2, 1) := dk_28 (bs_at BX12_ask_121 1 rfl)
theorem dX12_ask_125 : decode cX12_ask 125 = .ok (.ifCond .le 79, 3) := dk_158 0 79 (bs_at BX12_ask_121 2 rfl) rfl
theorem dX12_ask_128 : decode cX12_ask 128 = .ok (.aload_n 0, 1) := dk_42 (bs_at BX12_ask_121 3 rfl)
theorem dX12_ask_129 : decode cX12_ask 129 = .ok (.getfield 132, 3) := dk_180 0 132 (bs_at BX12_ask_121 4 rfl) rfl
theorem dX12_ask_132 : decode cX12_ask 132 = .ok (.iload 5, 2) := dk_21 5 (bs_at BX12_ask_121 5 rfl)
theorem dX12_ask_134 : decode cX12_ask 134 = .ok (.iaload, 1) := dk_46 (bs_at BX12_ask_121 6 rfl)
theorem dX12_ask_135 : decode cX12_ask 135 = .ok (.iload_n 2, 1) := dk_28 (bs_at BX12_ask_121 7 rfl)
theorem dX12_ask_136 : decode cX12_ask 136 = .ok (.aload_n 0, 1) := dk_42 (bs_at BX12_ask_121 8 rfl)
theorem dX12_ask_137 : decode cX12_ask 137 = .ok (.getfield 132, 3) := dk_180 0 132 (bs_at BX12_ask_121 9 rfl) rfl
theorem dX12_ask_140 : decode cX12_ask 140 = .ok (.iload 5, 2) := dk_21 5 (bs_at BX12_ask_121 10 rfl)
theorem dX12_ask_142 : decode cX12_ask 142 = .ok (.iaload, 1) := dk_46 (bs_at BX12_ask_121 11 rfl)
theorem dX12_ask_143 : decode cX12_ask 143 = .ok (.isub, 1) := dk_100 (bs_at BX12_ask_121 12 rfl)
theorem dX12_ask_144 : decode cX12_ask 144 = .ok (.if_icmp .le 13, 3) := dk_164 0 13 (bs_at BX12_ask_121 13 rfl) rfl
theorem dX12_ask_147 : decode cX12_ask 147 = .ok (.aload_n 0, 1) := dk_42 (bs_at BX12_ask_121 14 rfl)
theorem dX12_ask_148 : decode cX12_ask 148 = .ok (.getfield 132, 3) := dk_180 0 132 (bs_at BX12_ask_121 15 rfl) rfl
theorem dX12_ask_151 : decode cX12_ask 151 = .ok (.iload 5, 2) := dk_21 5 (bs_at BX12_ask_121 16 rfl)
theorem dX12_ask_153 : decode cX12_ask 153 = .ok (.iaload, 1) := dk_46 (bs_at BX12_ask_121 17 rfl)
theorem dX12_ask_154 : decode cX12_ask 154 = .ok (.goto 12, 3) := dk_167 0 12 (bs_at BX12_ask_121 18 rfl) rfl
theorem dX12_ask_157 : decode cX12_ask 157 = .ok (.iload_n 2, 1) := dk_28 (bs_at BX12_ask_121 19 rfl)
theorem dX12_ask_158 : decode cX12_ask 158 = .ok (.aload_n 0, 1) := dk_42 (bs_at BX12_ask_121 20 rfl)
theorem dX12_ask_159 : decode cX12_ask 159 = .ok (.getfield 132, 3) := dk_180 0 132 (bs_at BX12_ask_121 21 rfl) rfl
theorem dX12_ask_162 : decode cX12_ask 162 = .ok (.iload 5, 2) := dk_21 5 (bs_at BX12_ask_121 22 rfl)
theorem dX12_ask_164 : decode cX12_ask 164 = .ok (.iaload, 1) := dk_46 (bs_at BX12_ask_121 23 rfl)
theorem BX12_ask_165 : bsegs (ByteArray.data cX12_ask |>.toList.drop 165) 165 [(165, [100]), (166, [54, 6]), (168, [21, 6]), (170, [21, 4]), (172, [162, 0, 8]), (175, [21, 5]), (177, [167, 0, 4]), (180, [29]), (181, [62]), (182, [21, 6]), (184, [21, 4]), (186, [162, 0, 8]), (189, [21, 6]), (191, [167, 0, 5]), (194, [21, 4]), (196, [54, 4]), (198, [132, 5, 1]), (201, [167, 255, 168]), (204, [29]), (205, [2]), (206, [159, 0, 7]), (209, [27]), (210, [154, 0, 7]), (213, [29])] = true := by decide +kernel
theorem dX12_ask_165 : decode cX12_ask 165 = .ok (.isub, 1) := dk_100 (bs_at BX12_ask_165 0 rfl)
theorem dX12_ask_166 : decode cX12_ask 166 = .ok (.istore 6, 2) := dk_54 6 (bs_at BX12_ask_165 1 rfl)
theorem dX12_ask_168 : decode cX12_ask 168 = .ok (.iload 6, 2) := dk_21 6 (bs_at BX12_ask_165 2 rfl)
theorem dX12_ask_170 : decode cX12_ask 170 = .ok (.iload 4, 2) := dk_21 4 (bs_at BX12_ask_165 3 rfl)
theorem dX12_ask_172 : decode cX12_ask 172 = .ok (.if_icmp .ge 8, 3) := dk_162 0 8 (bs_at BX12_ask_165 4 rfl) rfl
theorem dX12_ask_175 : decode cX12_ask 175 = .ok (.iload 5, 2) := dk_21 5 (bs_at BX12_ask_165 5 rfl)
theorem dX12_ask_177 : decode cX12_ask 177 = .ok (.goto 4, 3) := dk_167 0 4 (bs_at BX12_ask_165 6 rfl) rfl
theorem dX12_ask_180 : decode cX12_ask 180 = .ok (.iload_n 3, 1) := dk_29 (bs_at BX12_ask_165 7 rfl)
theorem dX12_ask_181 : decode cX12_ask 181 = .ok (.istore_n 3, 1) := dk_62 (bs_at BX12_ask_165 8 rfl)
theorem dX12_ask_182 : decode cX12_ask 182 = .ok (.iload 6, 2) := dk_21 6 (bs_at BX12_ask_165 9 rfl)
theorem dX12_ask_184 : decode cX12_ask 184 = .ok (.iload 4, 2) := dk_21 4 (bs_at BX12_ask_165 10 rfl)
theorem dX12_ask_186 : decode cX12_ask 186 = .ok (.if_icmp .ge 8, 3) := dk_162 0 8 (bs_at BX12_ask_165 11 rfl) rfl
theorem dX12_ask_189 : decode cX12_ask 189 = .ok (.iload 6, 2) := dk_21 6 (bs_at BX12_ask_165 12 rfl)
theorem dX12_ask_191 : decode cX12_ask 191 = .ok (.goto 5, 3) := dk_167 0 5 (bs_at BX12_ask_165 13 rfl) rfl
theorem dX12_ask_194 : decode cX12_ask 194 = .ok (.iload 4, 2) := dk_21 4 (bs_at BX12_ask_165 14 rfl)
theorem dX12_ask_196 : decode cX12_ask 196 = .ok (.istore 4, 2) := dk_54 4 (bs_at BX12_ask_165 15 rfl)
theorem dX12_ask_198 : decode cX12_ask 198 = .ok (.iinc 5 1, 3) := dk_132 5 1 (bs_at BX12_ask_165 16 rfl) rfl
theorem dX12_ask_201 : decode cX12_ask 201 = .ok (.goto (-88), 3) := dk_167 255 168 (bs_at BX12_ask_165 17 rfl) rfl
theorem dX12_ask_204 : decode cX12_ask 204 = .ok (.iload_n 3, 1) := dk_29 (bs_at BX12_ask_165 18 rfl)
theorem dX12_ask_205 : decode cX12_ask 205 = .ok (.iconst (-1), 1) := dk_2 (bs_at BX12_ask_165 19 rfl)
theorem dX12_ask_206 : decode cX12_ask 206 = .ok (.if_icmp .eq 7, 3) := dk_159 0 7 (bs_at BX12_ask_165 20 rfl) rfl
theorem dX12_ask_209 : decode cX12_ask 209 = .ok (.iload_n 1, 1) := dk_27 (bs_at BX12_ask_165 21 rfl)
theorem dX12_ask_210 : decode cX12_ask 210 = .ok (.ifCond .ne 7, 3) := dk_154 0 7 (bs_at BX12_ask_165 22 rfl) rfl
theorem dX12_ask_213 : decode cX12_ask 213 = .ok (.iload_n 3, 1) := dk_29 (bs_at BX12_ask_165 23 rfl)
theorem BX12_ask_214 : bsegs (ByteArray.data cX12_ask |>.toList.drop 214) 214 [(214, [167, 0, 5]), (217, [21, 4]), (219, [172])] = true := by decide +kernel
theorem dX12_ask_214 : decode cX12_ask 214 = .ok (.goto 5, 3) := dk_167 0 5 (bs_at BX12_ask_214 0 rfl) rfl
theorem dX12_ask_217 : decode cX12_ask 217 = .ok (.iload 4, 2) := dk_21 4 (bs_at BX12_ask_214 1 rfl)
theorem dX12_ask_219 : decode cX12_ask 219 = .ok (.ireturn, 1) := dk_172 (bs_at BX12_ask_214 2 rfl)
theorem BX12_chance_0 : bsegs (ByteArray.data cX12_chance |>.toList.drop 0) 0 [(0, [42]), (1, [3]), (2, [181, 0, 158]), (5, [27]), (6, [133]), (7, [9]), (8, [20, 0, 212]), (11, [184, 0, 178]), (14, [154, 0, 7]), (17, [20, 1, 10]), (20, [173]), (21, [20, 2, 6]), (24, [65]), (25, [3]), (26, [54, 4]), (28, [21, 4]), (30, [16, 7]), (32, [162, 0, 60]), (35, [27]), (36, [21, 4]), (38, [184, 1, 180]), (41, [153, 0, 45]), (44, [32]), (45, [55, 5])] = true := by decide +kernel
theorem dX12_chance_0 : decode cX12_chance 0 = .ok (.aload_n 0, 1) := dk_42 (bs_at BX12_chance_0 0 rfl)
theorem dX12_chance_1 : decode cX12_chance 1 = .ok (.iconst 0, 1) := dk_3 (bs_at BX12_chance_0 1 rfl)
theorem dX12_chance_2 : decode cX12_chance 2 = .ok (.putfield 158, 3) := dk_181 0 158 (bs_at BX12_chance_0 2 rfl) rfl
theorem dX12_chance_5 : decode cX12_chance 5 = .ok (.iload_n 1, 1) := dk_27 (bs_at BX12_chance_0 3 rfl)
theorem dX12_chance_6 : decode cX12_chance 6 = .ok (.i2l, 1) := dk_133 (bs_at BX12_chance_0 4 rfl)
theorem dX12_chance_7 : decode cX12_chance 7 = .ok (.lconst 0, 1) := dk_9 (bs_at BX12_chance_0 5 rfl)
theorem dX12_chance_8 : decode cX12_chance 8 = .ok (.ldc2_w 212, 3) := dk_20 0 212 (bs_at BX12_chance_0 6 rfl) rfl
theorem dX12_chance_11 : decode cX12_chance 11 = .ok (.invokestatic 178, 3) := dk_184 0 178 (bs_at BX12_chance_0 7 rfl) rfl
theorem dX12_chance_14 : decode cX12_chance 14 = .ok (.ifCond .ne 7, 3) := dk_154 0 7 (bs_at BX12_chance_0 8 rfl) rfl
theorem dX12_chance_17 : decode cX12_chance 17 = .ok (.ldc2_w 266, 3) := dk_20 1 10 (bs_at BX12_chance_0 9 rfl) rfl
theorem dX12_chance_20 : decode cX12_chance 20 = .ok (.lreturn, 1) := dk_173 (bs_at BX12_chance_0 10 rfl)
theorem dX12_chance_21 : decode cX12_chance 21 = .ok (.ldc2_w 518, 3) := dk_20 2 6 (bs_at BX12_chance_0 11 rfl) rfl
theorem dX12_chance_24 : decode cX12_chance 24 = .ok (.lstore_n 2, 1) := dk_65 (bs_at BX12_chance_0 12 rfl)
theorem dX12_chance_25 : decode cX12_chance 25 = .ok (.iconst 0, 1) := dk_3 (bs_at BX12_chance_0 13 rfl)
theorem dX12_chance_26 : decode cX12_chance 26 = .ok (.istore 4, 2) := dk_54 4 (bs_at BX12_chance_0 14 rfl)
theorem dX12_chance_28 : decode cX12_chance 28 = .ok (.iload 4, 2) := dk_21 4 (bs_at BX12_chance_0 15 rfl)
theorem dX12_chance_30 : decode cX12_chance 30 = .ok (.bipush 7, 2) := dk_16 7 (bs_at BX12_chance_0 16 rfl) rfl
theorem dX12_chance_32 : decode cX12_chance 32 = .ok (.if_icmp .ge 60, 3) := dk_162 0 60 (bs_at BX12_chance_0 17 rfl) rfl
theorem dX12_chance_35 : decode cX12_chance 35 = .ok (.iload_n 1, 1) := dk_27 (bs_at BX12_chance_0 18 rfl)
theorem dX12_chance_36 : decode cX12_chance 36 = .ok (.iload 4, 2) := dk_21 4 (bs_at BX12_chance_0 19 rfl)
theorem dX12_chance_38 : decode cX12_chance 38 = .ok (.invokestatic 436, 3) := dk_184 1 180 (bs_at BX12_chance_0 20 rfl) rfl
theorem dX12_chance_41 : decode cX12_chance 41 = .ok (.ifCond .eq 45, 3) := dk_153 0 45 (bs_at BX12_chance_0 21 rfl) rfl
theorem dX12_chance_44 : decode cX12_chance 44 = .ok (.lload_n 2, 1) := dk_32 (bs_at BX12_chance_0 22 rfl)
theorem dX12_chance_45 : decode cX12_chance 45 = .ok (.lstore 5, 2) := dk_55 5 (bs_at BX12_chance_0 23 rfl)
theorem BX12_chance_47 : bsegs (ByteArray.data cX12_chance |>.toList.drop 47) 47 [(47, [42]), (48, [21, 4]), (50, [182, 1, 136]), (53, [54, 7]), (55, [21, 7]), (57, [158, 0, 24]), (60, [22, 5]), (62, [42]), (63, [7]), (64, [182, 0, 182]), (67, [133]), (68, [105]), (69, [20, 0, 219]), (72, [109]), (73, [55, 5]), (75, [132, 7, 255]), (78, [167, 255, 233]), (81, [32]), (82, [22, 5]), (84, [101]), (85, [65]), (86, [132, 4, 1]), (89, [167, 255, 195]), (92, [32])] = true := by decide +kernel
theorem dX12_chance_47 : decode cX12_chance 47 = .ok (.aload_n 0, 1) := dk_42 (bs_at BX12_chance_47 0 rfl)
theorem dX12_chance_48 : decode cX12_chance 48 = .ok (.iload 4, 2) := dk_21 4 (bs_at BX12_chance_47 1 rfl)
theorem dX12_chance_50 : decode cX12_chance 50 = .ok (.invokevirtual 392, 3) := dk_182 1 136 (bs_at BX12_chance_47 2 rfl) rfl
theorem dX12_chance_53 : decode cX12_chance 53 = .ok (.istore 7, 2) := dk_54 7 (bs_at BX12_chance_47 3 rfl)
theorem dX12_chance_55 : decode cX12_chance 55 = .ok (.iload 7, 2) := dk_21 7 (bs_at BX12_chance_47 4 rfl)
theorem dX12_chance_57 : decode cX12_chance 57 = .ok (.ifCond .le 24, 3) := dk_158 0 24 (bs_at BX12_chance_47 5 rfl) rfl
theorem dX12_chance_60 : decode cX12_chance 60 = .ok (.lload 5, 2) := dk_22 5 (bs_at BX12_chance_47 6 rfl)
theorem dX12_chance_62 : decode cX12_chance 62 = .ok (.aload_n 0, 1) := dk_42 (bs_at BX12_chance_47 7 rfl)
theorem dX12_chance_63 : decode cX12_chance 63 = .ok (.iconst 4, 1) := dk_7 (bs_at BX12_chance_47 8 rfl)
theorem dX12_chance_64 : decode cX12_chance 64 = .ok (.invokevirtual 182, 3) := dk_182 0 182 (bs_at BX12_chance_47 9 rfl) rfl
theorem dX12_chance_67 : decode cX12_chance 67 = .ok (.i2l, 1) := dk_133 (bs_at BX12_chance_47 10 rfl)
theorem dX12_chance_68 : decode cX12_chance 68 = .ok (.lmul, 1) := dk_105 (bs_at BX12_chance_47 11 rfl)
theorem dX12_chance_69 : decode cX12_chance 69 = .ok (.ldc2_w 219, 3) := dk_20 0 219 (bs_at BX12_chance_47 12 rfl) rfl
theorem dX12_chance_72 : decode cX12_chance 72 = .ok (.ldiv, 1) := dk_109 (bs_at BX12_chance_47 13 rfl)
theorem dX12_chance_73 : decode cX12_chance 73 = .ok (.lstore 5, 2) := dk_55 5 (bs_at BX12_chance_47 14 rfl)
theorem dX12_chance_75 : decode cX12_chance 75 = .ok (.iinc 7 (-1), 3) := dk_132 7 255 (bs_at BX12_chance_47 15 rfl) rfl
theorem dX12_chance_78 : decode cX12_chance 78 = .ok (.goto (-23), 3) := dk_167 255 233 (bs_at BX12_chance_47 16 rfl) rfl
theorem dX12_chance_81 : decode cX12_chance 81 = .ok (.lload_n 2, 1) := dk_32 (bs_at BX12_chance_47 17 rfl)
theorem dX12_chance_82 : decode cX12_chance 82 = .ok (.lload 5, 2) := dk_22 5 (bs_at BX12_chance_47 18 rfl)
theorem dX12_chance_84 : decode cX12_chance 84 = .ok (.lsub, 1) := dk_101 (bs_at BX12_chance_47 19 rfl)
theorem dX12_chance_85 : decode cX12_chance 85 = .ok (.lstore_n 2, 1) := dk_65 (bs_at BX12_chance_47 20 rfl)
theorem dX12_chance_86 : decode cX12_chance 86 = .ok (.iinc 4 1, 3) := dk_132 4 1 (bs_at BX12_chance_47 21 rfl) rfl
theorem dX12_chance_89 : decode cX12_chance 89 = .ok (.goto (-61), 3) := dk_167 255 195 (bs_at BX12_chance_47 22 rfl) rfl
theorem dX12_chance_92 : decode cX12_chance 92 = .ok (.lload_n 2, 1) := dk_32 (bs_at BX12_chance_47 23 rfl)
theorem BX12_chance_93 : bsegs (ByteArray.data cX12_chance |>.toList.drop 93) 93 [(93, [173])] = true := by decide +kernel
theorem dX12_chance_93 : decode cX12_chance 93 = .ok (.lreturn, 1) := dk_173 (bs_at BX12_chance_93 0 rfl)
theorem ggX12_ask_X12_in : GoodIn wsX12_ask wsX12_in := gi_ch ch_X12_ask ch_X12_in (by decide +kernel)
theorem gX12_ask_X12_in : GoodIn wsX12_ask (va_wsS RX12 178 yX12_in wsX12_in) := gi_ch ch_X12_ask (ch_s [965, 966, 156] rfl ch_X12_in) (by decide +kernel)
theorem ggX12_ask_X12_isAsHeard : GoodIn wsX12_ask wsX12_isAsHeard := gi_ch ch_X12_ask ch_X12_isAsHeard (by decide +kernel)
theorem gX12_ask_X12_isAsHeard : GoodIn wsX12_ask (wsV RX12 515 RX12 yX12_isAsHeard wsX12_isAsHeard) := gi_ch ch_X12_ask (ch_v [1307, 1308, 136, 156] rfl ch_X12_isAsHeard) (by decide +kernel)
theorem ggX12_chance_X12_in : GoodIn wsX12_chance wsX12_in := gi_ch ch_X12_chance ch_X12_in (by decide +kernel)
theorem gX12_chance_X12_in : GoodIn wsX12_chance (va_wsS RX12 178 yX12_in wsX12_in) := gi_ch ch_X12_chance (ch_s [965, 966, 156] rfl ch_X12_in) (by decide +kernel)
theorem ggX12_chance_X12_is : GoodIn wsX12_chance wsX12_is := gi_ch ch_X12_chance ch_X12_is (by decide +kernel)
theorem gX12_chance_X12_is : GoodIn wsX12_chance (va_wsS RX12 436 yX12_is wsX12_is) := gi_ch ch_X12_chance (ch_s [1189, 1190, 156] rfl ch_X12_is) (by decide +kernel)
theorem ggX12_chance_X12_soundWith : GoodIn wsX12_chance wsX12_soundWith := gi_ch ch_X12_chance ch_X12_soundWith (by decide +kernel)
theorem gX12_chance_X12_soundWith : GoodIn wsX12_chance (wsV RX12 392 RX12 yX12_soundWith wsX12_soundWith) := gi_ch ch_X12_chance (ch_v [1005, 1006, 83, 156] rfl ch_X12_soundWith) (by decide +kernel)
theorem ggX12_chance_X12_term : GoodIn wsX12_chance wsX12_term := gi_ch ch_X12_chance ch_X12_term (by decide +kernel)
theorem gX12_chance_X12_term : GoodIn wsX12_chance (wsV RX12 182 RX12 yX12_term wsX12_term) := gi_ch ch_X12_chance (ch_v [990, 991, 78, 156] rfl ch_X12_term) (by decide +kernel)
set_option maxRecDepth 100000 in
noncomputable def E_v_ask_j213 (f_3749 : Nat → Int32) (v_4215 : Int32) : Int32 × (Nat → Int32) :=
  ((v_4215, f_3749) : Int32 × (Nat → Int32))
set_option maxRecDepth 100000 in
noncomputable def E_v_ask_j204 (x : Int32) (f_3749 : Nat → Int32) (v_4214 : Int32) (v_4215 : Int32) : Int32 × (Nat → Int32) :=
  if v_4215 = (-1) then (E_v_ask_j213 f_3749 v_4215) else (if x = 0 then (E_v_ask_j213 f_3749 v_4215) else (((v_4214, f_3749) : Int32 × (Nat → Int32))))
set_option maxRecDepth 100000 in
noncomputable def E_v_ask_l113 (x : Int32) (fw : Nat → Int32) (v_3748 : Int32) (f_3749 : Nat → Int32) (rec_4315 : Int32 → Int32 → Int32 → (Int32 × (Nat → Int32))) (v_4213 : Int32) (v_4214 : Int32) (v_4215 : Int32) : Int32 × (Nat → Int32) :=
  Lt (fw (0 : Int32).toNatClampNeg : Int32) (fun x_4317 => if x_4317 ≤ v_4213 then (E_v_ask_j204 x f_3749 v_4214 v_4215) else (if v_3748 ≤ 0 then (E_v_ask_j204 x f_3749 v_4214 v_4215) else (Lt (f_3749 (v_4213 : Int32).toNatClampNeg : Int32) (fun x_4354 => Lt (f_3749 (v_4213 : Int32).toNatClampNeg : Int32) (fun x_4355 => Lt (v_3748 - x_4355 : Int32) (fun x_4356 => if x_4354 ≤ x_4356 then (Lt (f_3749 (v_4213 : Int32).toNatClampNeg : Int32) (fun x_4358 => Lt (v_3748 - x_4358 : Int32) (fun x_4359 => if v_4214 ≤ x_4359 then (if v_4214 ≤ x_4359 then (Lt (v_4213 + Int32.ofInt 1 : Int32) (fun x_4362 => rec_4315 x_4362 v_4214 v_4215)) else (Lt (v_4213 + Int32.ofInt 1 : Int32) (fun x_4363 => rec_4315 x_4363 x_4359 v_4215))) else (if v_4214 ≤ x_4359 then (Lt (v_4213 + Int32.ofInt 1 : Int32) (fun x_4365 => rec_4315 x_4365 v_4214 v_4213)) else (Lt (v_4213 + Int32.ofInt 1 : Int32) (fun x_4366 => rec_4315 x_4366 x_4359 v_4213)))))) else (Lt (f_3749 (v_4213 : Int32).toNatClampNeg : Int32) (fun x_4367 => if v_4214 ≤ x_4367 then (if v_4214 ≤ x_4367 then (Lt (v_4213 + Int32.ofInt 1 : Int32) (fun x_4370 => rec_4315 x_4370 v_4214 v_4215)) else (Lt (v_4213 + Int32.ofInt 1 : Int32) (fun x_4371 => rec_4315 x_4371 x_4367 v_4215))) else (if v_4214 ≤ x_4367 then (Lt (v_4213 + Int32.ofInt 1 : Int32) (fun x_4373 => rec_4315 x_4373 v_4214 v_4213)) else (Lt (v_4213 + Int32.ofInt 1 : Int32) (fun x_4374 => rec_4315 x_4374 x_4367 v_4213)))))))))))
set_option maxRecDepth 100000 in
noncomputable def E_v_ask_j97 (v_3747 : Int32) (rec_4023 : Int32 → Int32 → (Nat → Int32) → (Int32 × (Nat → Int32))) (v_4440 : Int32) (f_4441 : Nat → Int32) : Int32 × (Nat → Int32) :=
  Lt (v_3747 + Int32.ofInt 1 : Int32) (fun x_4444 => rec_4023 x_4444 v_4440 f_4441)
set_option maxRecDepth 100000 in
noncomputable def E_v_ask_l68 (v_3747 : Int32) (rec_4023 : Int32 → Int32 → (Nat → Int32) → (Int32 × (Nat → Int32))) (x_4446 : Int32) (rec_4498 : Int32 → (Nat → Int32) → (Int32 × (Nat → Int32))) (v_4480 : Int32) (f_4481 : Nat → Int32) : Int32 × (Nat → Int32) :=
  if 8 ≤ v_4480 then (E_v_ask_j97 v_3747 rec_4023 x_4446 f_4481) else (Lt (f_4481 (v_4480 : Int32).toNatClampNeg : Int32) (fun x_4501 => Lt (v_3747 >>> (v_4480 &&& 31) : Int32) (fun x_4502 => Lt (x_4502 &&& 1 : Int32) (fun x_4503 => Lt (x_4501 + x_4503 : Int32) (fun x_4504 => Lt (upd f_4481 (v_4480 : Int32).toNatClampNeg x_4504 : Nat → Int32) (fun f_4505 => Lt (v_4480 + Int32.ofInt 1 : Int32) (fun x_4506 => rec_4498 x_4506 f_4505)))))))
set_option maxRecDepth 100000 in
noncomputable def E_v_ask_l42 (x : Int32) (fw : Nat → Int32) (rec_4023 : Int32 → Int32 → (Nat → Int32) → (Int32 × (Nat → Int32))) (v_3747 : Int32) (v_3748 : Int32) (f_3749 : Nat → Int32) : Int32 × (Nat → Int32) :=
  Lt (fw (0 : Int32).toNatClampNeg : Int32) (fun x_4025 => Lt (1 <<< (x_4025 &&& 31) : Int32) (fun x_4026 => if x_4026 ≤ v_3747 then (Lp (α := Int32 → Int32 → Int32 → (Int32 × (Nat → Int32))) (E_v_ask_l113 x fw v_3748 f_3749) (fun _ _ _ => ((0, fun _ => 0) : Int32 × (Nat → Int32))) ((9 - (0 : Int32).toInt : Int).toNat + 1) 0 100000000 (-1)) else (Lt (E_v_isAsHeard v_3747 fw) (fun r_4375 => if r_4375 = 0 then (E_v_ask_j97 v_3747 rec_4023 v_3748 f_3749) else (Lt (v_3748 + Int32.ofInt 1 : Int32) (fun x_4446 => Lp (α := Int32 → (Nat → Int32) → (Int32 × (Nat → Int32))) (E_v_ask_l68 v_3747 rec_4023 x_4446) (fun _ _ => ((0, fun _ => 0) : Int32 × (Nat → Int32))) ((9 - (0 : Int32).toInt : Int).toNat + 1) 0 f_3749))))))
set_option maxRecDepth 100000 in
noncomputable def E_v_ask_l21 (x : Int32) (fw : Nat → Int32) (rec_3061 : Int32 → (Nat → Int32) → (Int32 × (Nat → Int32))) (v_3051 : Int32) (f_3052 : Nat → Int32) : Int32 × (Nat → Int32) :=
  if 8 ≤ v_3051 then (Lp (α := Int32 → Int32 → (Nat → Int32) → (Int32 × (Nat → Int32))) (E_v_ask_l42 x fw) (fun _ _ _ => ((0, fun _ => 0) : Int32 × (Nat → Int32))) ((257 - (0 : Int32).toInt : Int).toNat + 1) 0 0 f_3052) else (Lt (upd f_3052 (v_3051 : Int32).toNatClampNeg 0 : Nat → Int32) (fun f_4507 => Lt (v_3051 + Int32.ofInt 1 : Int32) (fun x_4508 => rec_3061 x_4508 f_4507)))
set_option maxRecDepth 100000 in
noncomputable def E_v_ask (x : Int32) (thr : Int32) (fw : Nat → Int32) (fb : Nat → Int32) : Int32 × (Nat → Int32) :=
  Lt ((x : Int32).toInt64 : Int64) (fun x_3027 => Lt (E_v_in x_3027 0 1) (fun r_3028 => if r_3028 = 1 then (Lp (α := Int32 → (Nat → Int32) → (Int32 × (Nat → Int32))) (E_v_ask_l21 x fw) (fun _ _ => ((0, fun _ => 0) : Int32 × (Nat → Int32))) ((9 - (0 : Int32).toInt : Int).toNat + 1) 0 fb) else ((((-1), fb) : Int32 × (Nat → Int32)))))
set_option maxHeartbeats 4000000 in
set_option maxRecDepth 100000 in
theorem v_ask (l : Launch) (D : va_G) (K : Nat → ClassId) (m0 : Nat) (x : Int32) (thr : Int32) (m_1 : Value) (m_2 : Value) (w0 : Nat) (m_4 : Value) (m_5 : Value) (m_6 : Value) (m_7 : Value) (m_8 : Value) (m_9 : Value) (m_10 : Value) (m_11 : Value) (m_12 : Value) (m_13 : Value) (m_14 : Value) (m_15 : Value) (m_16 : Value) (m_17 : Value) (m_18 : Value) (m_19 : Value) (m_20 : Value) (m_21 : Value) (m_22 : Value) (m_23 : Value) (m_24 : Value) (m_25 : Value) (m_26 : Value) (m_27 : Value) (m_28 : Value) (m_29 : Value) (m_30 : Value) (m_31 : Value) (m_32 : Value) (m_33 : Value) (m_34 : Value) (m_35 : Value) (m_36 : Value) (m_37 : Value) (m_38 : Value) (m_39 : Value) (m_40 : Value) (m_41 : Value) (m_42 : Value) (m_43 : Value) (m_44 : Value) (m_45 : Value) (m_46 : Value) (m_47 : Value) (m_48 : Value) (b0 : Nat) (m_50 : Value) (m_51 : Value) (m_52 : Value) (m_53 : Value) (m_54 : Value) (m_55 : Value) (m_56 : Value) (m_57 : Value) (m_58 : Value) (m_59 : Value) (fw : Nat → Int32) (gr : Nat → Int32) (fb : Nat → Int32) (sz : Nat) (zfw : RwOK fw) (zgr : FzM gr fw) : Met l yX12_ask wsX12_ask ({ frames := 2, cells := 0, slots := 0, locals := 45 }) (va_Pc [.ref m0, .int x] (Pre D K [(cc_O m0 12 [.int thr, m_1, m_2, .ref w0, m_4, m_5, m_6, m_7, m_8, m_9, m_10, m_11, m_12, m_13, m_14, m_15, m_16, m_17, m_18, m_19, m_20, m_21, m_22, m_23, m_24, m_25, m_26, m_27, m_28, m_29, m_30, m_31, m_32, m_33, m_34, m_35, m_36, m_37, m_38, m_39, m_40, m_41, m_42, m_43, m_44, m_45, m_46, m_47, m_48, .ref b0, m_50, m_51, m_52, m_53, m_54, m_55, m_56, m_57, m_58, m_59]), (cc_l w0 (K 0) 5500 fw), (cc_l b0 (K 0) 8 fb)] sz)) (va_Qi (S := Su) (fun (r : Int32) (u : Su) => ((r, (u.2.1 0)) = E_v_ask x thr fw fb) ∧ True) (fun u t => Wd D (va_A [(cc_O m0 12 [.int thr, m_1, m_2, .ref w0, m_4, m_5, m_6, m_7, m_8, m_9, m_10, m_11, m_12, m_13, m_14, m_15, m_16, m_17, m_18, m_19, m_20, m_21, m_22, m_23, m_24, m_25, m_26, m_27, m_28, m_29, m_30, m_31, m_32, m_33, m_34, m_35, m_36, m_37, m_38, m_39, m_40, m_41, m_42, m_43, m_44, m_45, m_46, m_47, m_48, .ref b0, m_50, m_51, m_52, m_53, m_54, m_55, m_56, m_57, m_58, m_59]), (cc_l w0 (K 0) 5500 fw), (cc_l b0 (K 0) 8 fb)] sz) ((fun u => [(cc_O m0 12 [.int 0, m_1, m_2, .ref w0, m_4, m_5, m_6, m_7, m_8, m_9, m_10, m_11, m_12, m_13, m_14, m_15, m_16, m_17, m_18, m_19, m_20, m_21, m_22, m_23, m_24, m_25, m_26, m_27, m_28, m_29, m_30, m_31, m_32, m_33, m_34, m_35, m_36, m_37, m_38, m_39, m_40, m_41, m_42, m_43, m_44, m_45, m_46, m_47, m_48, .ref b0, m_50, m_51, m_52, m_53, m_54, m_55, m_56, m_57, m_58, m_59]), (cc_l w0 (K 0) 5500 fw), (cc_l b0 (K 0) 8 (u.2.1 0))]) u) t) (va_A [(cc_O m0 12 [.int thr, m_1, m_2, .ref w0, m_4, m_5, m_6, m_7, m_8, m_9, m_10, m_11, m_12, m_13, m_14, m_15, m_16, m_17, m_18, m_19, m_20, m_21, m_22, m_23, m_24, m_25, m_26, m_27, m_28, m_29, m_30, m_31, m_32, m_33, m_34, m_35, m_36, m_37, m_38, m_39, m_40, m_41, m_42, m_43, m_44, m_45, m_46, m_47, m_48, .ref b0, m_50, m_51, m_52, m_53, m_54, m_55, m_56, m_57, m_58, m_59]), (cc_l w0 (K 0) 5500 fw), (cc_l b0 (K 0) 8 fb)] sz)) 0 0 (va_A [(cc_O m0 12 [.int thr, m_1, m_2, .ref w0, m_4, m_5, m_6, m_7, m_8, m_9, m_10, m_11, m_12, m_13, m_14, m_15, m_16, m_17, m_18, m_19, m_20, m_21, m_22, m_23, m_24, m_25, m_26, m_27, m_28, m_29, m_30, m_31, m_32, m_33, m_34, m_35, m_36, m_37, m_38, m_39, m_40, m_41, m_42, m_43, m_44, m_45, m_46, m_47, m_48, .ref b0, m_50, m_51, m_52, m_53, m_54, m_55, m_56, m_57, m_58, m_59]), (cc_l w0 (K 0) 5500 fw), (cc_l b0 (K 0) 8 fb)] sz) := by
  refine Met.ofW (cc := cX12_ask) (maxL := 7) (ret := (some .int)) (by decide +kernel) rfl ?_
  intro p e s m args below meth c s₁ B hml hv
  obtain ⟨rfl, hsz, hP, hK, hD0, hN⟩ := hv
  have hx := B.exec
  have hb := B.bytes
  have hr := B.returns
  have hts := atoms_spec (ws := wsX12_ask) B.pre
  have hown : s.vm.findClass RX12 = some m.cls := findClass_of_methodNamed B.named
  have hlocks := B.notSynchronized
  subst hsz
  have hD := hD0.self (sz := s.heap.size)
  generalize hAe : va_A [(cc_O m0 12 [.int thr, m_1, m_2, .ref w0, m_4, m_5, m_6, m_7, m_8, m_9, m_10, m_11, m_12, m_13, m_14, m_15, m_16, m_17, m_18, m_19, m_20, m_21, m_22, m_23, m_24, m_25, m_26, m_27, m_28, m_29, m_30, m_31, m_32, m_33, m_34, m_35, m_36, m_37, m_38, m_39, m_40, m_41, m_42, m_43, m_44, m_45, m_46, m_47, m_48, .ref b0, m_50, m_51, m_52, m_53, m_54, m_55, m_56, m_57, m_58, m_59]), (cc_l w0 (K 0) 5500 fw), (cc_l b0 (K 0) 8 fb)] s.heap.size = A at hD ⊢
  have hA : ∀ q : Nat, s.heap.size ≤ q → A q := fun q h => by rw [← hAe]; exact Or.inr h
  clear hAe
  have hS : va_S A s.heap s.heap [] := va_S.rf
  replace hP : va_P D vwCl [(cc_O m0 12 [.int thr, m_1, m_2, .ref w0, m_4, m_5, m_6, m_7, m_8, m_9, m_10, m_11, m_12, m_13, m_14, m_15, m_16, m_17, m_18, m_19, m_20, m_21, m_22, m_23, m_24, m_25, m_26, m_27, m_28, m_29, m_30, m_31, m_32, m_33, m_34, m_35, m_36, m_37, m_38, m_39, m_40, m_41, m_42, m_43, m_44, m_45, m_46, m_47, m_48, .ref b0, m_50, m_51, m_52, m_53, m_54, m_55, m_56, m_57, m_58, m_59]), (cc_l w0 (K 0) 5500 fw), (cc_l b0 (K 0) 8 fb)] s.heap := hP
  have hl := lv_entry [.ref m0, .int x] (n := 7) (Nat.le_of_ble_eq_true rfl)
  rw [lg_entry_eq]
  generalize (lg_sl [.ref m0, .int x] ++ List.replicate (7 - (lg_sl [.ref m0, .int x]).length) Slot.unset).toArray = ls at hl ⊢
  have hl : lv_has ls 7 [(0, .ref m0), (1, .int x)] := hl
  have hw12 : ∀ w ∈ wsX120, w ∈ wsX12_ask := fun w h => (List.mem_cons_of_mem _ (List.mem_append_right _ h))
  generalize hQ : MQ below _ _ s _ _ _ = Q
  have hE := E_v_ask.eq_def x thr fw fb
  refine lv_aload_n hx hb dX12_ask_0 rfl (lv_at hl 0 rfl) (lv_iconst (v := 0) hx hb dX12_ask_1 (by decide +kernel) (va_put (ci := 12) (v := .int 0) (ty := .int) (C := RX12) (T := TX12) (N := 60) hx hb hts hw12 tyX12 tyX12_ok nmX12 hown hK hP hD hS 0 rfl rfl 0 (by decide +kernel) (hts _ mm_X12_ask_830) (fun _ h9 => h9) rfl (by decide +kernel) (by first | rfl | decide) (by first | rfl | decide) (Nat.le_of_ble_eq_true rfl) dX12_ask_2 (fun H locs hP0 hD0 hS0 => ?_)))
  replace hP : va_P D vwCl [(cc_O m0 12 [.int 0, m_1, m_2, .ref w0, m_4, m_5, m_6, m_7, m_8, m_9, m_10, m_11, m_12, m_13, m_14, m_15, m_16, m_17, m_18, m_19, m_20, m_21, m_22, m_23, m_24, m_25, m_26, m_27, m_28, m_29, m_30, m_31, m_32, m_33, m_34, m_35, m_36, m_37, m_38, m_39, m_40, m_41, m_42, m_43, m_44, m_45, m_46, m_47, m_48, .ref b0, m_50, m_51, m_52, m_53, m_54, m_55, m_56, m_57, m_58, m_59]), (cc_l w0 (K 0) 5500 fw), (cc_l b0 (K 0) 8 fb)] H := hP0
  replace hD := as_D hP hD0 rfl
  replace hS := hS0
  clear hP0 hD0 hS0
  refine lv_iload_n hx hb dX12_ask_5 rfl (lv_at hl 1 rfl) (lv_i2l hx hb dX12_ask_6 rfl (lv_topl (fun x_3027 ex_3027 => ?_)))
  replace hE := hE.trans (Lt_in ex_3027)
  have hx_3027 : x_3027.toInt = x.toInt := by rw [ex_3027]; exact i_wide rfl
  have hbx_3027 := i_rng (a := x) rfl
  refine lv_lconst (v := 0) hx hb dX12_ask_7 (by decide +kernel) (lv_lconst (v := 1) hx hb dX12_ask_8 (by decide +kernel) (pci (va_runS (As := [.long x_3027, .long 0, .long 1]) (rest := []) ⟨hx, hb, hml, hown, hts⟩ (v_in l D K x.toInt 0 1 x_3027 0 1 H.size hx_3027 (show (0 : Int64).toInt = 0 from rfl) (show (1 : Int64).toInt = 1 from rfl)) (va_cwS 3 hts gX12_ask_X12_in rfl rfl rfl (by decide +kernel) ⟨Nat.le_of_ble_eq_true rfl, Nat.le_of_ble_eq_true rfl⟩) (mkS hK hN (va_P.nil) (va_D.nil (A := fun _ => True))) rfl rfl hl.1 rfl (lv_room (Nat.le_of_ble_eq_true rfl)) dX12_ask_9 ⟨Nat.le_of_ble_eq_true rfl, Nat.le_of_ble_eq_true rfl⟩) (fun r_3028 hw => ?_)))
  obtain ⟨hw, k_3029, -⟩ := hw
  replace hE := hE.trans (Lt_in k_3029)
  rcases hw with ⟨rfl, h_3030, h_3031⟩ | ⟨rfl, h_3032⟩
  · replace hE := (hE).trans (if_pos rfl)
    refine lv_if_ne (tgt := 17) hx hb dX12_ask_12 (by decide +kernel) (fun c_3033 => ?_) (fun c_3033 => absurd c_3033 (by decide +kernel))
    refine lv_iconst (v := 0) hx hb dX12_ask_17 (by decide +kernel) (lv_istore_n (lv' := [(2, .int 0), (0, .ref m0), (1, .int x)]) hx hb dX12_ask_18 rfl hl (by decide +kernel) rfl (fun ls hl => ?_))
    refine lv_iconst (v := 0) hx hb dX12_ask_19 (by decide +kernel) (lv_istore_n (lv' := [(3, .int 0), (2, .int 0), (0, .ref m0), (1, .int x)]) hx hb dX12_ask_20 rfl hl (by decide +kernel) rfl (fun ls hl => ?_))
    have lp_3061 : ∀ (nn_ : Nat) (v_3051 : Int32) (f_3052 : Nat → Int32) (hv_3051 : 0 ≤ v_3051.toInt ∧ v_3051.toInt ≤ 8) (hn : (9 - v_3051.toInt : Int).toNat < nn_) (hE : E_v_ask x thr fw fb = Lp (α := Int32 → (Nat → Int32) → (Int32 × (Nat → Int32))) (E_v_ask_l21 x fw) (fun _ _ => ((0, fun _ => 0) : Int32 × (Nat → Int32))) nn_ v_3051 f_3052) (H : Heap) (locs : List Loc) (hP : va_P D vwCl [(cc_O m0 12 [.int 0, m_1, m_2, .ref w0, m_4, m_5, m_6, m_7, m_8, m_9, m_10, m_11, m_12, m_13, m_14, m_15, m_16, m_17, m_18, m_19, m_20, m_21, m_22, m_23, m_24, m_25, m_26, m_27, m_28, m_29, m_30, m_31, m_32, m_33, m_34, m_35, m_36, m_37, m_38, m_39, m_40, m_41, m_42, m_43, m_44, m_45, m_46, m_47, m_48, .ref b0, m_50, m_51, m_52, m_53, m_54, m_55, m_56, m_57, m_58, m_59]), (cc_l w0 (K 0) 5500 fw), (cc_l b0 (K 0) 8 f_3052)] H) (hD : va_D A [(cc_O m0 12 [.int 0, m_1, m_2, .ref w0, m_4, m_5, m_6, m_7, m_8, m_9, m_10, m_11, m_12, m_13, m_14, m_15, m_16, m_17, m_18, m_19, m_20, m_21, m_22, m_23, m_24, m_25, m_26, m_27, m_28, m_29, m_30, m_31, m_32, m_33, m_34, m_35, m_36, m_37, m_38, m_39, m_40, m_41, m_42, m_43, m_44, m_45, m_46, m_47, m_48, .ref b0, m_50, m_51, m_52, m_53, m_54, m_55, m_56, m_57, m_58, m_59]), (cc_l w0 (K 0) 5500 fw), (cc_l b0 (K 0) 8 f_3052)]) (hS : va_S A s.heap H locs) (ls : Array Slot) (hl : lv_has ls 7 [(3, .int v_3051), (2, .int 0), (0, .ref m0), (1, .int x)]), W p l e ({ frames := 2, cells := 0, slots := 0, locals := 45 }) s m (([.ref m0, .int x] : List Value).toArray) below meth c H locs 0 0 Q (F0 m 21 ls []) := by
      clear hE hP hD hS hl
      intro nn_
      induction nn_ with
      | zero =>
        intro v_3051 f_3052 hv_3051 hn hE H locs hP hD hS ls hl
        exact absurd hn (Nat.not_lt_zero _)
      | succ nn_ ih_3062 =>
        intro v_3051 f_3052 hv_3051 hn hE H locs hP hD hS ls hl
        replace hE : E_v_ask x thr fw fb = E_v_ask_l21 x fw (Lp (α := Int32 → (Nat → Int32) → (Int32 × (Nat → Int32))) (E_v_ask_l21 x fw) (fun _ _ => ((0, fun _ => 0) : Int32 × (Nat → Int32))) nn_) v_3051 f_3052 := hE
        obtain ⟨rec_3061, hrec_3061⟩ : ∃ z9, z9 = Lp (α := Int32 → (Nat → Int32) → (Int32 × (Nat → Int32))) (E_v_ask_l21 x fw) (fun _ _ => ((0, fun _ => 0) : Int32 × (Nat → Int32))) nn_ := ⟨_, rfl⟩
        rw [← hrec_3061] at hE
        replace hE := hE.trans (E_v_ask_l21.eq_def _ _ _ _ _)
        refine lv_iload_n hx hb dX12_ask_21 rfl (lv_at hl 0 rfl) (lv_bipush (v := 8) hx hb dX12_ask_22 (by decide +kernel) (lv_icmp_ge (tgt := 40) hx hb dX12_ask_24 (by decide +kernel) (fun c_3063 => ?_) (fun c_3063 => ?_)))
        · have c_3063i := i_le (x := 8) (y := v_3051.toInt) rfl rfl c_3063
          replace hE := hE.trans (if_pos c_3063)
          refine lv_iconst (v := 0) hx hb dX12_ask_40 (by decide +kernel) (lv_istore_n (lv' := [(3, .int 0), (2, .int 0), (0, .ref m0), (1, .int x)]) hx hb dX12_ask_41 rfl hl (by decide +kernel) rfl (fun ls hl => ?_))
          have lp_4023 : ∀ (nn_ : Nat) (v_3747 : Int32) (v_3748 : Int32) (f_3749 : Nat → Int32) (hv_3747 : 0 ≤ v_3747.toInt ∧ v_3747.toInt ≤ 256) (hn : (257 - v_3747.toInt : Int).toNat < nn_) (hE : E_v_ask x thr fw fb = Lp (α := Int32 → Int32 → (Nat → Int32) → (Int32 × (Nat → Int32))) (E_v_ask_l42 x fw) (fun _ _ _ => ((0, fun _ => 0) : Int32 × (Nat → Int32))) nn_ v_3747 v_3748 f_3749) (H : Heap) (locs : List Loc) (hP : va_P D vwCl [(cc_O m0 12 [.int 0, m_1, m_2, .ref w0, m_4, m_5, m_6, m_7, m_8, m_9, m_10, m_11, m_12, m_13, m_14, m_15, m_16, m_17, m_18, m_19, m_20, m_21, m_22, m_23, m_24, m_25, m_26, m_27, m_28, m_29, m_30, m_31, m_32, m_33, m_34, m_35, m_36, m_37, m_38, m_39, m_40, m_41, m_42, m_43, m_44, m_45, m_46, m_47, m_48, .ref b0, m_50, m_51, m_52, m_53, m_54, m_55, m_56, m_57, m_58, m_59]), (cc_l w0 (K 0) 5500 fw), (cc_l b0 (K 0) 8 f_3749)] H) (hD : va_D A [(cc_O m0 12 [.int 0, m_1, m_2, .ref w0, m_4, m_5, m_6, m_7, m_8, m_9, m_10, m_11, m_12, m_13, m_14, m_15, m_16, m_17, m_18, m_19, m_20, m_21, m_22, m_23, m_24, m_25, m_26, m_27, m_28, m_29, m_30, m_31, m_32, m_33, m_34, m_35, m_36, m_37, m_38, m_39, m_40, m_41, m_42, m_43, m_44, m_45, m_46, m_47, m_48, .ref b0, m_50, m_51, m_52, m_53, m_54, m_55, m_56, m_57, m_58, m_59]), (cc_l w0 (K 0) 5500 fw), (cc_l b0 (K 0) 8 f_3749)]) (hS : va_S A s.heap H locs) (ls : Array Slot) (hl : lv_has ls 7 [(3, .int v_3747), (2, .int v_3748), (0, .ref m0), (1, .int x)]), W p l e ({ frames := 2, cells := 0, slots := 0, locals := 45 }) s m (([.ref m0, .int x] : List Value).toArray) below meth c H locs 0 0 Q (F0 m 42 ls []) := by
            clear hE hP hD hS hl
            intro nn_
            induction nn_ with
            | zero =>
              intro v_3747 v_3748 f_3749 hv_3747 hn hE H locs hP hD hS ls hl
              exact absurd hn (Nat.not_lt_zero _)
            | succ nn_ ih_4024 =>
              intro v_3747 v_3748 f_3749 hv_3747 hn hE H locs hP hD hS ls hl
              replace hE : E_v_ask x thr fw fb = E_v_ask_l42 x fw (Lp (α := Int32 → Int32 → (Nat → Int32) → (Int32 × (Nat → Int32))) (E_v_ask_l42 x fw) (fun _ _ _ => ((0, fun _ => 0) : Int32 × (Nat → Int32))) nn_) v_3747 v_3748 f_3749 := hE
              obtain ⟨rec_4023, hrec_4023⟩ : ∃ z9, z9 = Lp (α := Int32 → Int32 → (Nat → Int32) → (Int32 × (Nat → Int32))) (E_v_ask_l42 x fw) (fun _ _ _ => ((0, fun _ => 0) : Int32 × (Nat → Int32))) nn_ := ⟨_, rfl⟩
              rw [← hrec_4023] at hE
              replace hE := hE.trans (E_v_ask_l42.eq_def _ _ _ _ _ _)
              refine lv_iload_n hx hb dX12_ask_42 rfl (lv_at hl 0 rfl) (lv_iconst (v := 1) hx hb dX12_ask_43 (by decide +kernel) (lv_aload_n hx hb dX12_ask_44 rfl (lv_at hl 2 rfl) (va_get (ci := 12) (v := .ref w0) (C := RX12) (T := TX12) (N := 60) hx hb hts hw12 hown hK hP 0 rfl rfl 3 (by decide +kernel) (hts _ mm_X12_ask_833) (fun _ h9 => h9) rfl dX12_ask_45 (lv_iconst (v := 0) hx hb dX12_ask_48 (by decide +kernel) (va_iald hx hb hK hP 1 0 rfl rfl (i_in (x := 0) rfl (by omega)) dX12_ask_49 (lv_topi (fun x_4025 ex_4025 => ?_)))))))
              replace hE := hE.trans (Lt_in ex_4025)
              have px_4025 := RwOK.at zfw (show (0 : Int32).toInt = 0 from rfl) (show 0 ≤ 0 ∧ 0 < 100 by omega)
              rw [← ex_4025] at px_4025
              have hx_4025 := PR.r_0 px_4025 (by omega)
              refine lv_ishl hx hb dX12_ask_50 (lv_topi (fun x_4026 ex_4026 => ?_))
              replace hE := hE.trans (Lt_in ex_4026)
              have hx_4026 : 1 ≤ x_4026.toInt ∧ x_4026.toInt ≤ 256 := by rw [ex_4026]; exact i_shl1 rfl (n := 8) (by decide +kernel) (by omega)
              refine lv_icmp_ge (tgt := 103) hx hb dX12_ask_51 (by decide +kernel) (fun c_4027 => ?_) (fun c_4027 => ?_)
              · have c_4027i := i_le (x := x_4026.toInt) (y := v_3747.toInt) rfl rfl c_4027
                replace hE := hE.trans (if_pos c_4027)
                refine lv_iconst (v := (-1)) hx hb dX12_ask_103 (by decide +kernel) (lv_istore_n (lv' := [(3, .int (-1)), (2, .int v_3748), (0, .ref m0), (1, .int x)]) hx hb dX12_ask_104 rfl hl (by decide +kernel) rfl (fun ls hl => ?_))
                refine lv_ldcw (v := 100000000) hx hb hown (hts _ mm_X12_ask_1262) dX12_ask_105 (lv_istore (lv' := [(4, .int 100000000), (3, .int (-1)), (2, .int v_3748), (0, .ref m0), (1, .int x)]) hx hb dX12_ask_108 hl (by decide +kernel) rfl (fun ls hl => ?_))
                refine lv_iconst (v := 0) hx hb dX12_ask_110 (by decide +kernel) (lv_istore (lv' := [(5, .int 0), (4, .int 100000000), (3, .int (-1)), (2, .int v_3748), (0, .ref m0), (1, .int x)]) hx hb dX12_ask_111 hl (by decide +kernel) rfl (fun ls hl => ?_))
                have lp_4315 : ∀ (nn_ : Nat) (v_4213 : Int32) (v_4214 : Int32) (v_4215 : Int32) (hv_4213 : 0 ≤ v_4213.toInt ∧ v_4213.toInt ≤ 8) (hv_4214 : v_4214.toInt ≤ 100000000) (hv_4215 : (-1) ≤ v_4215.toInt) (hn : (9 - v_4213.toInt : Int).toNat < nn_) (hE : E_v_ask x thr fw fb = Lp (α := Int32 → Int32 → Int32 → (Int32 × (Nat → Int32))) (E_v_ask_l113 x fw v_3748 f_3749) (fun _ _ _ => ((0, fun _ => 0) : Int32 × (Nat → Int32))) nn_ v_4213 v_4214 v_4215) (H : Heap) (locs : List Loc) (hP : va_P D vwCl [(cc_O m0 12 [.int 0, m_1, m_2, .ref w0, m_4, m_5, m_6, m_7, m_8, m_9, m_10, m_11, m_12, m_13, m_14, m_15, m_16, m_17, m_18, m_19, m_20, m_21, m_22, m_23, m_24, m_25, m_26, m_27, m_28, m_29, m_30, m_31, m_32, m_33, m_34, m_35, m_36, m_37, m_38, m_39, m_40, m_41, m_42, m_43, m_44, m_45, m_46, m_47, m_48, .ref b0, m_50, m_51, m_52, m_53, m_54, m_55, m_56, m_57, m_58, m_59]), (cc_l w0 (K 0) 5500 fw), (cc_l b0 (K 0) 8 f_3749)] H) (hD : va_D A [(cc_O m0 12 [.int 0, m_1, m_2, .ref w0, m_4, m_5, m_6, m_7, m_8, m_9, m_10, m_11, m_12, m_13, m_14, m_15, m_16, m_17, m_18, m_19, m_20, m_21, m_22, m_23, m_24, m_25, m_26, m_27, m_28, m_29, m_30, m_31, m_32, m_33, m_34, m_35, m_36, m_37, m_38, m_39, m_40, m_41, m_42, m_43, m_44, m_45, m_46, m_47, m_48, .ref b0, m_50, m_51, m_52, m_53, m_54, m_55, m_56, m_57, m_58, m_59]), (cc_l w0 (K 0) 5500 fw), (cc_l b0 (K 0) 8 f_3749)]) (hS : va_S A s.heap H locs) (ls : Array Slot) (hl : lv_has ls 7 [(5, .int v_4213), (4, .int v_4214), (3, .int v_4215), (2, .int v_3748), (0, .ref m0), (1, .int x)]), W p l e ({ frames := 2, cells := 0, slots := 0, locals := 45 }) s m (([.ref m0, .int x] : List Value).toArray) below meth c H locs 0 0 Q (F0 m 113 ls []) := by
                  clear hE hP hD hS hl
                  intro nn_
                  induction nn_ with
                  | zero =>
                    intro v_4213 v_4214 v_4215 hv_4213 hv_4214 hv_4215 hn hE H locs hP hD hS ls hl
                    exact absurd hn (Nat.not_lt_zero _)
                  | succ nn_ ih_4316 =>
                    intro v_4213 v_4214 v_4215 hv_4213 hv_4214 hv_4215 hn hE H locs hP hD hS ls hl
                    replace hE : E_v_ask x thr fw fb = E_v_ask_l113 x fw v_3748 f_3749 (Lp (α := Int32 → Int32 → Int32 → (Int32 × (Nat → Int32))) (E_v_ask_l113 x fw v_3748 f_3749) (fun _ _ _ => ((0, fun _ => 0) : Int32 × (Nat → Int32))) nn_) v_4213 v_4214 v_4215 := hE
                    obtain ⟨rec_4315, hrec_4315⟩ : ∃ z9, z9 = Lp (α := Int32 → Int32 → Int32 → (Int32 × (Nat → Int32))) (E_v_ask_l113 x fw v_3748 f_3749) (fun _ _ _ => ((0, fun _ => 0) : Int32 × (Nat → Int32))) nn_ := ⟨_, rfl⟩
                    rw [← hrec_4315] at hE
                    replace hE := hE.trans (E_v_ask_l113.eq_def _ _ _ _ _ _ _ _)
                    refine lv_iload hx hb dX12_ask_113 (lv_at hl 0 rfl) (lv_aload_n hx hb dX12_ask_115 rfl (lv_at hl 4 rfl) (va_get (ci := 12) (v := .ref w0) (C := RX12) (T := TX12) (N := 60) hx hb hts hw12 hown hK hP 0 rfl rfl 3 (by decide +kernel) (hts _ mm_X12_ask_833) (fun _ h9 => h9) rfl dX12_ask_116 (lv_iconst (v := 0) hx hb dX12_ask_119 (by decide +kernel) (va_iald hx hb hK hP 1 0 rfl rfl (i_in (x := 0) rfl (by omega)) dX12_ask_120 (lv_topi (fun x_4317 ex_4317 => ?_))))))
                    replace hE := hE.trans (Lt_in ex_4317)
                    have px_4317 := RwOK.at zfw (show (0 : Int32).toInt = 0 from rfl) (show 0 ≤ 0 ∧ 0 < 100 by omega)
                    rw [← ex_4317] at px_4317
                    have hx_4317 := PR.r_0 px_4317 (by omega)
                    have j_4346 : ∀ (hE : E_v_ask x thr fw fb = E_v_ask_j204 x f_3749 v_4214 v_4215) (H : Heap) (locs : List Loc) (hP : va_P D vwCl [(cc_O m0 12 [.int 0, m_1, m_2, .ref w0, m_4, m_5, m_6, m_7, m_8, m_9, m_10, m_11, m_12, m_13, m_14, m_15, m_16, m_17, m_18, m_19, m_20, m_21, m_22, m_23, m_24, m_25, m_26, m_27, m_28, m_29, m_30, m_31, m_32, m_33, m_34, m_35, m_36, m_37, m_38, m_39, m_40, m_41, m_42, m_43, m_44, m_45, m_46, m_47, m_48, .ref b0, m_50, m_51, m_52, m_53, m_54, m_55, m_56, m_57, m_58, m_59]), (cc_l w0 (K 0) 5500 fw), (cc_l b0 (K 0) 8 f_3749)] H) (hD : va_D A [(cc_O m0 12 [.int 0, m_1, m_2, .ref w0, m_4, m_5, m_6, m_7, m_8, m_9, m_10, m_11, m_12, m_13, m_14, m_15, m_16, m_17, m_18, m_19, m_20, m_21, m_22, m_23, m_24, m_25, m_26, m_27, m_28, m_29, m_30, m_31, m_32, m_33, m_34, m_35, m_36, m_37, m_38, m_39, m_40, m_41, m_42, m_43, m_44, m_45, m_46, m_47, m_48, .ref b0, m_50, m_51, m_52, m_53, m_54, m_55, m_56, m_57, m_58, m_59]), (cc_l w0 (K 0) 5500 fw), (cc_l b0 (K 0) 8 f_3749)]) (hS : va_S A s.heap H locs) (ls : Array Slot) (hl : lv_has ls 7 [(4, .int v_4214), (3, .int v_4215), (1, .int x)]), W p l e ({ frames := 2, cells := 0, slots := 0, locals := 45 }) s m (([.ref m0, .int x] : List Value).toArray) below meth c H locs 0 0 Q (F0 m 204 ls []) := by
                      clear hE hP hD hS hl
                      intro hE H locs hP hD hS ls hl
                      replace hE := hE.trans (E_v_ask_j204.eq_def _ _ _ _)
                      refine lv_iload_n hx hb dX12_ask_204 rfl (lv_at hl 1 rfl) (lv_iconst (v := (-1)) hx hb dX12_ask_205 (by decide +kernel) ?_)
                      have j_4349 : ∀ (hE : E_v_ask x thr fw fb = E_v_ask_j213 f_3749 v_4215) (H : Heap) (locs : List Loc) (hP : va_P D vwCl [(cc_O m0 12 [.int 0, m_1, m_2, .ref w0, m_4, m_5, m_6, m_7, m_8, m_9, m_10, m_11, m_12, m_13, m_14, m_15, m_16, m_17, m_18, m_19, m_20, m_21, m_22, m_23, m_24, m_25, m_26, m_27, m_28, m_29, m_30, m_31, m_32, m_33, m_34, m_35, m_36, m_37, m_38, m_39, m_40, m_41, m_42, m_43, m_44, m_45, m_46, m_47, m_48, .ref b0, m_50, m_51, m_52, m_53, m_54, m_55, m_56, m_57, m_58, m_59]), (cc_l w0 (K 0) 5500 fw), (cc_l b0 (K 0) 8 f_3749)] H) (hD : va_D A [(cc_O m0 12 [.int 0, m_1, m_2, .ref w0, m_4, m_5, m_6, m_7, m_8, m_9, m_10, m_11, m_12, m_13, m_14, m_15, m_16, m_17, m_18, m_19, m_20, m_21, m_22, m_23, m_24, m_25, m_26, m_27, m_28, m_29, m_30, m_31, m_32, m_33, m_34, m_35, m_36, m_37, m_38, m_39, m_40, m_41, m_42, m_43, m_44, m_45, m_46, m_47, m_48, .ref b0, m_50, m_51, m_52, m_53, m_54, m_55, m_56, m_57, m_58, m_59]), (cc_l w0 (K 0) 5500 fw), (cc_l b0 (K 0) 8 f_3749)]) (hS : va_S A s.heap H locs) (ls : Array Slot) (hl : lv_has ls 7 [(3, .int v_4215)]), W p l e ({ frames := 2, cells := 0, slots := 0, locals := 45 }) s m (([.ref m0, .int x] : List Value).toArray) below meth c H locs 0 0 Q (F0 m 213 ls []) := by
                        clear hE hP hD hS hl
                        intro hE H locs hP hD hS ls hl
                        replace hE := hE.trans (E_v_ask_j213.eq_def _ _)
                        refine lv_iload_n hx hb dX12_ask_213 rfl (lv_at hl 0 rfl) (lv_goto (tgt := 219) hx hb dX12_ask_214 (by decide +kernel) ?_)
                        rw [← hQ]
                        have hP9 := hP.sub (ws' := [(cc_O m0 12 [.int 0, m_1, m_2, .ref w0, m_4, m_5, m_6, m_7, m_8, m_9, m_10, m_11, m_12, m_13, m_14, m_15, m_16, m_17, m_18, m_19, m_20, m_21, m_22, m_23, m_24, m_25, m_26, m_27, m_28, m_29, m_30, m_31, m_32, m_33, m_34, m_35, m_36, m_37, m_38, m_39, m_40, m_41, m_42, m_43, m_44, m_45, m_46, m_47, m_48, .ref b0, m_50, m_51, m_52, m_53, m_54, m_55, m_56, m_57, m_58, m_59]), (cc_l w0 (K 0) 5500 fw), (cc_l b0 (K 0) 8 f_3749)]) [0, 1, 2] rfl
                        have hD9 := sub_D hP9 hD [0, 1, 2] (by decide +kernel) rfl
                        exact W.iret (v := v_4215) hx hb hr (fun t ht hW => ⟨⟨v_4215, ((fun _ => 0, fun i => match i with | _ => f_3749, fun _ => fun _ => 0, fun _ => 0, fun _ => 0, fun _ => fun _ => none) : Su), rfl, ⟨hE.symm, trivial⟩, (⟨by rw [ht]; exact hP9, hD9⟩ : Wd D A _ t)⟩, hS.F ht⟩) hS.2.2 dX12_ask_219
                      refine lv_icmp_eq (tgt := 213) hx hb dX12_ask_206 (by decide +kernel) (fun c_4350 => ?_) (fun c_4350 => ?_)
                      · have c_4350i := i_eq (x := v_4215.toInt) (y := (-1)) rfl rfl c_4350
                        replace hE := hE.trans (if_pos c_4350)
                        exact j_4349   hE _ _ hP hD hS ls (lv_sub hl [1] rfl)
                      · have c_4350i := i_ne (x := v_4215.toInt) (y := (-1)) rfl rfl c_4350
                        replace hE := hE.trans (if_neg c_4350)
                        refine lv_iload_n hx hb dX12_ask_209 rfl (lv_at hl 2 rfl) (lv_if_ne (tgt := 217) hx hb dX12_ask_210 (by decide +kernel) (fun c_4351 => ?_) (fun c_4351 => ?_))
                        · have c_4351i := i_ne (x := x.toInt) (y := 0) rfl rfl c_4351
                          replace hE := hE.trans (if_neg c_4351)
                          refine lv_iload hx hb dX12_ask_217 (lv_at hl 0 rfl) ?_
                          rw [← hQ]
                          have hP9 := hP.sub (ws' := [(cc_O m0 12 [.int 0, m_1, m_2, .ref w0, m_4, m_5, m_6, m_7, m_8, m_9, m_10, m_11, m_12, m_13, m_14, m_15, m_16, m_17, m_18, m_19, m_20, m_21, m_22, m_23, m_24, m_25, m_26, m_27, m_28, m_29, m_30, m_31, m_32, m_33, m_34, m_35, m_36, m_37, m_38, m_39, m_40, m_41, m_42, m_43, m_44, m_45, m_46, m_47, m_48, .ref b0, m_50, m_51, m_52, m_53, m_54, m_55, m_56, m_57, m_58, m_59]), (cc_l w0 (K 0) 5500 fw), (cc_l b0 (K 0) 8 f_3749)]) [0, 1, 2] rfl
                          have hD9 := sub_D hP9 hD [0, 1, 2] (by decide +kernel) rfl
                          exact W.iret (v := v_4214) hx hb hr (fun t ht hW => ⟨⟨v_4214, ((fun _ => 0, fun i => match i with | _ => f_3749, fun _ => fun _ => 0, fun _ => 0, fun _ => 0, fun _ => fun _ => none) : Su), rfl, ⟨hE.symm, trivial⟩, (⟨by rw [ht]; exact hP9, hD9⟩ : Wd D A _ t)⟩, hS.F ht⟩) hS.2.2 dX12_ask_219
                        · have c_4351i := i_eq (x := x.toInt) (y := 0) rfl rfl c_4351
                          replace hE := hE.trans (if_pos c_4351)
                          exact j_4349   hE _ _ hP hD hS ls (lv_sub hl [1] rfl)
                    refine lv_icmp_ge (tgt := 204) hx hb dX12_ask_121 (by decide +kernel) (fun c_4352 => ?_) (fun c_4352 => ?_)
                    · have c_4352i := i_le (x := x_4317.toInt) (y := v_4213.toInt) rfl rfl c_4352
                      replace hE := hE.trans (if_pos c_4352)
                      exact j_4346   hE _ _ hP hD hS ls (lv_sub hl [1, 2, 5] rfl)
                    · have c_4352i := i_nle (x := x_4317.toInt) (y := v_4213.toInt) rfl rfl c_4352
                      replace hE := hE.trans (if_neg c_4352)
                      refine lv_iload_n hx hb dX12_ask_124 rfl (lv_at hl 3 rfl) (lv_if_le (tgt := 204) hx hb dX12_ask_125 (by decide +kernel) (fun c_4353 => ?_) (fun c_4353 => ?_))
                      · have c_4353i := i_le (x := v_3748.toInt) (y := 0) rfl rfl c_4353
                        replace hE := hE.trans (if_pos c_4353)
                        exact j_4346   hE _ _ hP hD hS ls (lv_sub hl [1, 2, 5] rfl)
                      · have c_4353i := i_nle (x := v_3748.toInt) (y := 0) rfl rfl c_4353
                        replace hE := hE.trans (if_neg c_4353)
                        refine lv_aload_n hx hb dX12_ask_128 rfl (lv_at hl 4 rfl) (va_get (ci := 12) (v := .ref b0) (C := RX12) (T := TX12) (N := 60) hx hb hts hw12 hown hK hP 0 rfl rfl 49 (by decide +kernel) (hts _ mm_X12_ask_879) (fun _ h9 => h9) rfl dX12_ask_129 (lv_iload hx hb dX12_ask_132 (lv_at hl 0 rfl) (va_iald hx hb hK hP 2 0 rfl rfl (i_in rfl (by omega)) dX12_ask_134 (lv_topi (fun x_4354 ex_4354 => ?_)))))
                        replace hE := hE.trans (Lt_in ex_4354)
                        refine lv_iload_n hx hb dX12_ask_135 rfl (lv_at hl 3 rfl) (lv_aload_n hx hb dX12_ask_136 rfl (lv_at hl 4 rfl) (va_get (ci := 12) (v := .ref b0) (C := RX12) (T := TX12) (N := 60) hx hb hts hw12 hown hK hP 0 rfl rfl 49 (by decide +kernel) (hts _ mm_X12_ask_879) (fun _ h9 => h9) rfl dX12_ask_137 (lv_iload hx hb dX12_ask_140 (lv_at hl 0 rfl) (va_iald hx hb hK hP 2 0 rfl rfl (i_in rfl (by omega)) dX12_ask_142 (lv_topi (fun x_4355 ex_4355 => ?_))))))
                        replace hE := hE.trans (Lt_in ex_4355)
                        refine lv_isub hx hb dX12_ask_143 (lv_topi (fun x_4356 ex_4356 => ?_))
                        replace hE := hE.trans (Lt_in ex_4356)
                        refine lv_icmp_le (tgt := 157) hx hb dX12_ask_144 (by decide +kernel) (fun c_4357 => ?_) (fun c_4357 => ?_)
                        · have c_4357i := i_le (x := x_4354.toInt) (y := x_4356.toInt) rfl rfl c_4357
                          replace hE := hE.trans (if_pos c_4357)
                          refine lv_iload_n hx hb dX12_ask_157 rfl (lv_at hl 3 rfl) (lv_aload_n hx hb dX12_ask_158 rfl (lv_at hl 4 rfl) (va_get (ci := 12) (v := .ref b0) (C := RX12) (T := TX12) (N := 60) hx hb hts hw12 hown hK hP 0 rfl rfl 49 (by decide +kernel) (hts _ mm_X12_ask_879) (fun _ h9 => h9) rfl dX12_ask_159 (lv_iload hx hb dX12_ask_162 (lv_at hl 0 rfl) (va_iald hx hb hK hP 2 0 rfl rfl (i_in rfl (by omega)) dX12_ask_164 (lv_topi (fun x_4358 ex_4358 => ?_))))))
                          replace hE := hE.trans (Lt_in ex_4358)
                          refine lv_isub hx hb dX12_ask_165 (lv_topi (fun x_4359 ex_4359 => ?_))
                          replace hE := hE.trans (Lt_in ex_4359)
                          refine lv_istore (lv' := [(6, .int x_4359), (5, .int v_4213), (4, .int v_4214), (3, .int v_4215), (2, .int v_3748), (0, .ref m0), (1, .int x)]) hx hb dX12_ask_166 hl (by decide +kernel) rfl (fun ls hl => ?_)
                          refine lv_iload hx hb dX12_ask_168 (lv_at hl 0 rfl) (lv_iload hx hb dX12_ask_170 (lv_at hl 2 rfl) (lv_icmp_ge (tgt := 180) hx hb dX12_ask_172 (by decide +kernel) (fun c_4360 => ?_) (fun c_4360 => ?_)))
                          · have c_4360i := i_le (x := v_4214.toInt) (y := x_4359.toInt) rfl rfl c_4360
                            replace hE := hE.trans (if_pos c_4360)
                            refine lv_iload_n hx hb dX12_ask_180 rfl (lv_at hl 3 rfl) (lv_istore_n (lv' := [(3, .int v_4215), (6, .int x_4359), (5, .int v_4213), (4, .int v_4214), (2, .int v_3748), (0, .ref m0), (1, .int x)]) hx hb dX12_ask_181 rfl hl (by decide +kernel) rfl (fun ls hl => ?_))
                            refine lv_iload hx hb dX12_ask_182 (lv_at hl 1 rfl) (lv_iload hx hb dX12_ask_184 (lv_at hl 3 rfl) (lv_icmp_ge (tgt := 194) hx hb dX12_ask_186 (by decide +kernel) (fun c_4361 => ?_) (fun c_4361 => ?_)))
                            · have c_4361i := i_le (x := v_4214.toInt) (y := x_4359.toInt) rfl rfl c_4361
                              replace hE := hE.trans (if_pos c_4361)
                              refine lv_iload hx hb dX12_ask_194 (lv_at hl 3 rfl) (lv_istore (lv' := [(4, .int v_4214), (3, .int v_4215), (6, .int x_4359), (5, .int v_4213), (2, .int v_3748), (0, .ref m0), (1, .int x)]) hx hb dX12_ask_196 hl (by decide +kernel) rfl (fun ls hl => ?_))
                              obtain ⟨x_4362, ex_4362⟩ : ∃ y : Int32, y = v_4213 + Int32.ofInt 1 := ⟨_, rfl⟩
                              replace hE := hE.trans (Lt_in ex_4362)
                              have hx_4362 : x_4362.toInt = (v_4213.toInt + 1) := by rw [ex_4362]; exact i_add rfl (show (Int32.ofInt 1).toInt = 1 from rfl) (by omega)
                              refine lv_iinc (v := x_4362) (lv' := [(5, .int x_4362), (4, .int v_4214), (3, .int v_4215), (6, .int x_4359), (2, .int v_3748), (0, .ref m0), (1, .int x)]) hx hb dX12_ask_198 hl (k := 3) rfl (by rw [ex_4362]) (by decide +kernel) rfl (fun ls hl => ?_)
                              refine lv_goto (tgt := 113) hx hb dX12_ask_201 (by decide +kernel) ?_
                              exact ih_4316 x_4362 v_4214 v_4215 (by rw [hx_4362]; omega) (by omega) (by omega) (by omega) (hE.trans (by rw [hrec_4315])) _ _ hP hD hS ls (lv_sub hl [0, 1, 2, 4, 5, 6] rfl)
                            · have c_4361i := i_nle (x := v_4214.toInt) (y := x_4359.toInt) rfl rfl c_4361
                              replace hE := hE.trans (if_neg c_4361)
                              refine lv_iload hx hb dX12_ask_189 (lv_at hl 1 rfl) (lv_goto (tgt := 196) hx hb dX12_ask_191 (by decide +kernel) (lv_istore (lv' := [(4, .int x_4359), (3, .int v_4215), (6, .int x_4359), (5, .int v_4213), (2, .int v_3748), (0, .ref m0), (1, .int x)]) hx hb dX12_ask_196 hl (by decide +kernel) rfl (fun ls hl => ?_)))
                              obtain ⟨x_4363, ex_4363⟩ : ∃ y : Int32, y = v_4213 + Int32.ofInt 1 := ⟨_, rfl⟩
                              replace hE := hE.trans (Lt_in ex_4363)
                              have hx_4363 : x_4363.toInt = (v_4213.toInt + 1) := by rw [ex_4363]; exact i_add rfl (show (Int32.ofInt 1).toInt = 1 from rfl) (by omega)
                              refine lv_iinc (v := x_4363) (lv' := [(5, .int x_4363), (4, .int x_4359), (3, .int v_4215), (6, .int x_4359), (2, .int v_3748), (0, .ref m0), (1, .int x)]) hx hb dX12_ask_198 hl (k := 3) rfl (by rw [ex_4363]) (by decide +kernel) rfl (fun ls hl => ?_)
                              refine lv_goto (tgt := 113) hx hb dX12_ask_201 (by decide +kernel) ?_
                              exact ih_4316 x_4363 x_4359 v_4215 (by rw [hx_4363]; omega) (by omega) (by omega) (by omega) (hE.trans (by rw [hrec_4315])) _ _ hP hD hS ls (lv_sub hl [0, 1, 2, 4, 5, 6] rfl)
                          · have c_4360i := i_nle (x := v_4214.toInt) (y := x_4359.toInt) rfl rfl c_4360
                            replace hE := hE.trans (if_neg c_4360)
                            refine lv_iload hx hb dX12_ask_175 (lv_at hl 1 rfl) (lv_goto (tgt := 181) hx hb dX12_ask_177 (by decide +kernel) (lv_istore_n (lv' := [(3, .int v_4213), (6, .int x_4359), (5, .int v_4213), (4, .int v_4214), (2, .int v_3748), (0, .ref m0), (1, .int x)]) hx hb dX12_ask_181 rfl hl (by decide +kernel) rfl (fun ls hl => ?_)))
                            refine lv_iload hx hb dX12_ask_182 (lv_at hl 1 rfl) (lv_iload hx hb dX12_ask_184 (lv_at hl 3 rfl) (lv_icmp_ge (tgt := 194) hx hb dX12_ask_186 (by decide +kernel) (fun c_4364 => ?_) (fun c_4364 => ?_)))
                            · have c_4364i := i_le (x := v_4214.toInt) (y := x_4359.toInt) rfl rfl c_4364
                              replace hE := hE.trans (if_pos c_4364)
                              refine lv_iload hx hb dX12_ask_194 (lv_at hl 3 rfl) (lv_istore (lv' := [(4, .int v_4214), (3, .int v_4213), (6, .int x_4359), (5, .int v_4213), (2, .int v_3748), (0, .ref m0), (1, .int x)]) hx hb dX12_ask_196 hl (by decide +kernel) rfl (fun ls hl => ?_))
                              obtain ⟨x_4365, ex_4365⟩ : ∃ y : Int32, y = v_4213 + Int32.ofInt 1 := ⟨_, rfl⟩
                              replace hE := hE.trans (Lt_in ex_4365)
                              have hx_4365 : x_4365.toInt = (v_4213.toInt + 1) := by rw [ex_4365]; exact i_add rfl (show (Int32.ofInt 1).toInt = 1 from rfl) (by omega)
                              refine lv_iinc (v := x_4365) (lv' := [(5, .int x_4365), (4, .int v_4214), (3, .int v_4213), (6, .int x_4359), (2, .int v_3748), (0, .ref m0), (1, .int x)]) hx hb dX12_ask_198 hl (k := 3) rfl (by rw [ex_4365]) (by decide +kernel) rfl (fun ls hl => ?_)
                              refine lv_goto (tgt := 113) hx hb dX12_ask_201 (by decide +kernel) ?_
                              exact ih_4316 x_4365 v_4214 v_4213 (by rw [hx_4365]; omega) (by omega) (by omega) (by omega) (hE.trans (by rw [hrec_4315])) _ _ hP hD hS ls (lv_sub hl [0, 1, 2, 4, 5, 6] rfl)
                            · have c_4364i := i_nle (x := v_4214.toInt) (y := x_4359.toInt) rfl rfl c_4364
                              replace hE := hE.trans (if_neg c_4364)
                              refine lv_iload hx hb dX12_ask_189 (lv_at hl 1 rfl) (lv_goto (tgt := 196) hx hb dX12_ask_191 (by decide +kernel) (lv_istore (lv' := [(4, .int x_4359), (3, .int v_4213), (6, .int x_4359), (5, .int v_4213), (2, .int v_3748), (0, .ref m0), (1, .int x)]) hx hb dX12_ask_196 hl (by decide +kernel) rfl (fun ls hl => ?_)))
                              obtain ⟨x_4366, ex_4366⟩ : ∃ y : Int32, y = v_4213 + Int32.ofInt 1 := ⟨_, rfl⟩
                              replace hE := hE.trans (Lt_in ex_4366)
                              have hx_4366 : x_4366.toInt = (v_4213.toInt + 1) := by rw [ex_4366]; exact i_add rfl (show (Int32.ofInt 1).toInt = 1 from rfl) (by omega)
                              refine lv_iinc (v := x_4366) (lv' := [(5, .int x_4366), (4, .int x_4359), (3, .int v_4213), (6, .int x_4359), (2, .int v_3748), (0, .ref m0), (1, .int x)]) hx hb dX12_ask_198 hl (k := 3) rfl (by rw [ex_4366]) (by decide +kernel) rfl (fun ls hl => ?_)
                              refine lv_goto (tgt := 113) hx hb dX12_ask_201 (by decide +kernel) ?_
                              exact ih_4316 x_4366 x_4359 v_4213 (by rw [hx_4366]; omega) (by omega) (by omega) (by omega) (hE.trans (by rw [hrec_4315])) _ _ hP hD hS ls (lv_sub hl [0, 1, 2, 4, 5, 6] rfl)
                        · have c_4357i := i_nle (x := x_4354.toInt) (y := x_4356.toInt) rfl rfl c_4357
                          replace hE := hE.trans (if_neg c_4357)
                          refine lv_aload_n hx hb dX12_ask_147 rfl (lv_at hl 4 rfl) (va_get (ci := 12) (v := .ref b0) (C := RX12) (T := TX12) (N := 60) hx hb hts hw12 hown hK hP 0 rfl rfl 49 (by decide +kernel) (hts _ mm_X12_ask_879) (fun _ h9 => h9) rfl dX12_ask_148 (lv_iload hx hb dX12_ask_151 (lv_at hl 0 rfl) (va_iald hx hb hK hP 2 0 rfl rfl (i_in rfl (by omega)) dX12_ask_153 (lv_topi (fun x_4367 ex_4367 => ?_)))))
                          replace hE := hE.trans (Lt_in ex_4367)
                          refine lv_goto (tgt := 166) hx hb dX12_ask_154 (by decide +kernel) (lv_istore (lv' := [(6, .int x_4367), (5, .int v_4213), (4, .int v_4214), (3, .int v_4215), (2, .int v_3748), (0, .ref m0), (1, .int x)]) hx hb dX12_ask_166 hl (by decide +kernel) rfl (fun ls hl => ?_))
                          refine lv_iload hx hb dX12_ask_168 (lv_at hl 0 rfl) (lv_iload hx hb dX12_ask_170 (lv_at hl 2 rfl) (lv_icmp_ge (tgt := 180) hx hb dX12_ask_172 (by decide +kernel) (fun c_4368 => ?_) (fun c_4368 => ?_)))
                          · have c_4368i := i_le (x := v_4214.toInt) (y := x_4367.toInt) rfl rfl c_4368
                            replace hE := hE.trans (if_pos c_4368)
                            refine lv_iload_n hx hb dX12_ask_180 rfl (lv_at hl 3 rfl) (lv_istore_n (lv' := [(3, .int v_4215), (6, .int x_4367), (5, .int v_4213), (4, .int v_4214), (2, .int v_3748), (0, .ref m0), (1, .int x)]) hx hb dX12_ask_181 rfl hl (by decide +kernel) rfl (fun ls hl => ?_))
                            refine lv_iload hx hb dX12_ask_182 (lv_at hl 1 rfl) (lv_iload hx hb dX12_ask_184 (lv_at hl 3 rfl) (lv_icmp_ge (tgt := 194) hx hb dX12_ask_186 (by decide +kernel) (fun c_4369 => ?_) (fun c_4369 => ?_)))
                            · have c_4369i := i_le (x := v_4214.toInt) (y := x_4367.toInt) rfl rfl c_4369
                              replace hE := hE.trans (if_pos c_4369)
                              refine lv_iload hx hb dX12_ask_194 (lv_at hl 3 rfl) (lv_istore (lv' := [(4, .int v_4214), (3, .int v_4215), (6, .int x_4367), (5, .int v_4213), (2, .int v_3748), (0, .ref m0), (1, .int x)]) hx hb dX12_ask_196 hl (by decide +kernel) rfl (fun ls hl => ?_))
                              obtain ⟨x_4370, ex_4370⟩ : ∃ y : Int32, y = v_4213 + Int32.ofInt 1 := ⟨_, rfl⟩
                              replace hE := hE.trans (Lt_in ex_4370)
                              have hx_4370 : x_4370.toInt = (v_4213.toInt + 1) := by rw [ex_4370]; exact i_add rfl (show (Int32.ofInt 1).toInt = 1 from rfl) (by omega)
                              refine lv_iinc (v := x_4370) (lv' := [(5, .int x_4370), (4, .int v_4214), (3, .int v_4215), (6, .int x_4367), (2, .int v_3748), (0, .ref m0), (1, .int x)]) hx hb dX12_ask_198 hl (k := 3) rfl (by rw [ex_4370]) (by decide +kernel) rfl (fun ls hl => ?_)
                              refine lv_goto (tgt := 113) hx hb dX12_ask_201 (by decide +kernel) ?_
                              exact ih_4316 x_4370 v_4214 v_4215 (by rw [hx_4370]; omega) (by omega) (by omega) (by omega) (hE.trans (by rw [hrec_4315])) _ _ hP hD hS ls (lv_sub hl [0, 1, 2, 4, 5, 6] rfl)
                            · have c_4369i := i_nle (x := v_4214.toInt) (y := x_4367.toInt) rfl rfl c_4369
                              replace hE := hE.trans (if_neg c_4369)
                              refine lv_iload hx hb dX12_ask_189 (lv_at hl 1 rfl) (lv_goto (tgt := 196) hx hb dX12_ask_191 (by decide +kernel) (lv_istore (lv' := [(4, .int x_4367), (3, .int v_4215), (6, .int x_4367), (5, .int v_4213), (2, .int v_3748), (0, .ref m0), (1, .int x)]) hx hb dX12_ask_196 hl (by decide +kernel) rfl (fun ls hl => ?_)))
                              obtain ⟨x_4371, ex_4371⟩ : ∃ y : Int32, y = v_4213 + Int32.ofInt 1 := ⟨_, rfl⟩
                              replace hE := hE.trans (Lt_in ex_4371)
                              have hx_4371 : x_4371.toInt = (v_4213.toInt + 1) := by rw [ex_4371]; exact i_add rfl (show (Int32.ofInt 1).toInt = 1 from rfl) (by omega)
                              refine lv_iinc (v := x_4371) (lv' := [(5, .int x_4371), (4, .int x_4367), (3, .int v_4215), (6, .int x_4367), (2, .int v_3748), (0, .ref m0), (1, .int x)]) hx hb dX12_ask_198 hl (k := 3) rfl (by rw [ex_4371]) (by decide +kernel) rfl (fun ls hl => ?_)
                              refine lv_goto (tgt := 113) hx hb dX12_ask_201 (by decide +kernel) ?_
                              exact ih_4316 x_4371 x_4367 v_4215 (by rw [hx_4371]; omega) (by omega) (by omega) (by omega) (hE.trans (by rw [hrec_4315])) _ _ hP hD hS ls (lv_sub hl [0, 1, 2, 4, 5, 6] rfl)
                          · have c_4368i := i_nle (x := v_4214.toInt) (y := x_4367.toInt) rfl rfl c_4368
                            replace hE := hE.trans (if_neg c_4368)
                            refine lv_iload hx hb dX12_ask_175 (lv_at hl 1 rfl) (lv_goto (tgt := 181) hx hb dX12_ask_177 (by decide +kernel) (lv_istore_n (lv' := [(3, .int v_4213), (6, .int x_4367), (5, .int v_4213), (4, .int v_4214), (2, .int v_3748), (0, .ref m0), (1, .int x)]) hx hb dX12_ask_181 rfl hl (by decide +kernel) rfl (fun ls hl => ?_)))
                            refine lv_iload hx hb dX12_ask_182 (lv_at hl 1 rfl) (lv_iload hx hb dX12_ask_184 (lv_at hl 3 rfl) (lv_icmp_ge (tgt := 194) hx hb dX12_ask_186 (by decide +kernel) (fun c_4372 => ?_) (fun c_4372 => ?_)))
                            · have c_4372i := i_le (x := v_4214.toInt) (y := x_4367.toInt) rfl rfl c_4372
                              replace hE := hE.trans (if_pos c_4372)
                              refine lv_iload hx hb dX12_ask_194 (lv_at hl 3 rfl) (lv_istore (lv' := [(4, .int v_4214), (3, .int v_4213), (6, .int x_4367), (5, .int v_4213), (2, .int v_3748), (0, .ref m0), (1, .int x)]) hx hb dX12_ask_196 hl (by decide +kernel) rfl (fun ls hl => ?_))
                              obtain ⟨x_4373, ex_4373⟩ : ∃ y : Int32, y = v_4213 + Int32.ofInt 1 := ⟨_, rfl⟩
                              replace hE := hE.trans (Lt_in ex_4373)
                              have hx_4373 : x_4373.toInt = (v_4213.toInt + 1) := by rw [ex_4373]; exact i_add rfl (show (Int32.ofInt 1).toInt = 1 from rfl) (by omega)
                              refine lv_iinc (v := x_4373) (lv' := [(5, .int x_4373), (4, .int v_4214), (3, .int v_4213), (6, .int x_4367), (2, .int v_3748), (0, .ref m0), (1, .int x)]) hx hb dX12_ask_198 hl (k := 3) rfl (by rw [ex_4373]) (by decide +kernel) rfl (fun ls hl => ?_)
                              refine lv_goto (tgt := 113) hx hb dX12_ask_201 (by decide +kernel) ?_
                              exact ih_4316 x_4373 v_4214 v_4213 (by rw [hx_4373]; omega) (by omega) (by omega) (by omega) (hE.trans (by rw [hrec_4315])) _ _ hP hD hS ls (lv_sub hl [0, 1, 2, 4, 5, 6] rfl)
                            · have c_4372i := i_nle (x := v_4214.toInt) (y := x_4367.toInt) rfl rfl c_4372
                              replace hE := hE.trans (if_neg c_4372)
                              refine lv_iload hx hb dX12_ask_189 (lv_at hl 1 rfl) (lv_goto (tgt := 196) hx hb dX12_ask_191 (by decide +kernel) (lv_istore (lv' := [(4, .int x_4367), (3, .int v_4213), (6, .int x_4367), (5, .int v_4213), (2, .int v_3748), (0, .ref m0), (1, .int x)]) hx hb dX12_ask_196 hl (by decide +kernel) rfl (fun ls hl => ?_)))
                              obtain ⟨x_4374, ex_4374⟩ : ∃ y : Int32, y = v_4213 + Int32.ofInt 1 := ⟨_, rfl⟩
                              replace hE := hE.trans (Lt_in ex_4374)
                              have hx_4374 : x_4374.toInt = (v_4213.toInt + 1) := by rw [ex_4374]; exact i_add rfl (show (Int32.ofInt 1).toInt = 1 from rfl) (by omega)
                              refine lv_iinc (v := x_4374) (lv' := [(5, .int x_4374), (4, .int x_4367), (3, .int v_4213), (6, .int x_4367), (2, .int v_3748), (0, .ref m0), (1, .int x)]) hx hb dX12_ask_198 hl (k := 3) rfl (by rw [ex_4374]) (by decide +kernel) rfl (fun ls hl => ?_)
                              refine lv_goto (tgt := 113) hx hb dX12_ask_201 (by decide +kernel) ?_
                              exact ih_4316 x_4374 x_4367 v_4213 (by rw [hx_4374]; omega) (by omega) (by omega) (by omega) (hE.trans (by rw [hrec_4315])) _ _ hP hD hS ls (lv_sub hl [0, 1, 2, 4, 5, 6] rfl)
                exact lp_4315 ((9 - (0 : Int32).toInt : Int).toNat + 1) 0 100000000 (-1) (by decide +kernel) (by decide +kernel) (by decide +kernel) (Nat.lt_succ_self _) hE _ _ hP hD hS ls (lv_sub hl [0, 1, 2, 3, 4, 5] rfl)
              · have c_4027i := i_nle (x := x_4026.toInt) (y := v_3747.toInt) rfl rfl c_4027
                replace hE := hE.trans (if_neg c_4027)
                refine lv_aload_n hx hb dX12_ask_54 rfl (lv_at hl 2 rfl) (lv_iload_n hx hb dX12_ask_55 rfl (lv_at hl 0 rfl) (pci (va_runV (As := [.int v_3747]) (rest := []) ⟨hx, hb, hml, hown, hts⟩ (v_isAsHeard l D K m0 v_3747 (.int 0) m_1 m_2 w0 m_4 m_5 m_6 m_7 m_8 m_9 m_10 m_11 m_12 m_13 m_14 m_15 m_16 m_17 m_18 m_19 m_20 m_21 m_22 m_23 m_24 m_25 m_26 m_27 m_28 m_29 m_30 m_31 m_32 m_33 m_34 m_35 m_36 m_37 m_38 m_39 m_40 m_41 m_42 m_43 m_44 m_45 m_46 m_47 m_48 (.ref b0) m_50 m_51 m_52 m_53 m_54 m_55 m_56 m_57 m_58 m_59 fw H.size zfw) (cwV 1 hts gX12_ask_X12_isAsHeard rfl rfl rfl (by decide +kernel) ⟨Nat.le_of_ble_eq_true rfl, Nat.le_of_ble_eq_true rfl⟩) (mkV hK hN (hP.sub [0, 1] rfl) (hD.sub [0, 1] (by decide +kernel) rfl) (ci := 12) (q0 := 0) rfl rfl) rfl rfl hl.1 rfl (lv_room (Nat.le_of_ble_eq_true rfl)) dX12_ask_56 ⟨Nat.le_of_ble_eq_true rfl, Nat.le_of_ble_eq_true rfl⟩) (fun r_4375 hw => ?_)))
                obtain ⟨h_4377, k_4376, -⟩ := hw
                replace hE := hE.trans (Lt_in k_4376)
                have j_4443 : ∀ (v_4440 : Int32) (f_4441 : Nat → Int32) (hE : E_v_ask x thr fw fb = E_v_ask_j97 v_3747 rec_4023 v_4440 f_4441) (H : Heap) (locs : List Loc) (hP : va_P D vwCl [(cc_O m0 12 [.int 0, m_1, m_2, .ref w0, m_4, m_5, m_6, m_7, m_8, m_9, m_10, m_11, m_12, m_13, m_14, m_15, m_16, m_17, m_18, m_19, m_20, m_21, m_22, m_23, m_24, m_25, m_26, m_27, m_28, m_29, m_30, m_31, m_32, m_33, m_34, m_35, m_36, m_37, m_38, m_39, m_40, m_41, m_42, m_43, m_44, m_45, m_46, m_47, m_48, .ref b0, m_50, m_51, m_52, m_53, m_54, m_55, m_56, m_57, m_58, m_59]), (cc_l w0 (K 0) 5500 fw), (cc_l b0 (K 0) 8 f_4441)] H) (hD : va_D A [(cc_O m0 12 [.int 0, m_1, m_2, .ref w0, m_4, m_5, m_6, m_7, m_8, m_9, m_10, m_11, m_12, m_13, m_14, m_15, m_16, m_17, m_18, m_19, m_20, m_21, m_22, m_23, m_24, m_25, m_26, m_27, m_28, m_29, m_30, m_31, m_32, m_33, m_34, m_35, m_36, m_37, m_38, m_39, m_40, m_41, m_42, m_43, m_44, m_45, m_46, m_47, m_48, .ref b0, m_50, m_51, m_52, m_53, m_54, m_55, m_56, m_57, m_58, m_59]), (cc_l w0 (K 0) 5500 fw), (cc_l b0 (K 0) 8 f_4441)]) (hS : va_S A s.heap H locs) (ls : Array Slot) (hl : lv_has ls 7 [(3, .int v_3747), (2, .int v_4440), (0, .ref m0), (1, .int x)]), W p l e ({ frames := 2, cells := 0, slots := 0, locals := 45 }) s m (([.ref m0, .int x] : List Value).toArray) below meth c H locs 0 0 Q (F0 m 97 ls []) := by
                  clear hE hP hD hS hl
                  intro v_4440 f_4441 hE H locs hP hD hS ls hl
                  replace hE := hE.trans (E_v_ask_j97.eq_def _ _ _ _)
                  obtain ⟨x_4444, ex_4444⟩ : ∃ y : Int32, y = v_3747 + Int32.ofInt 1 := ⟨_, rfl⟩
                  replace hE := hE.trans (Lt_in ex_4444)
                  have hx_4444 : x_4444.toInt = (v_3747.toInt + 1) := by rw [ex_4444]; exact i_add rfl (show (Int32.ofInt 1).toInt = 1 from rfl) (by omega)
                  refine lv_iinc (v := x_4444) (lv' := [(3, .int x_4444), (2, .int v_4440), (0, .ref m0), (1, .int x)]) hx hb dX12_ask_97 hl (k := 0) rfl (by rw [ex_4444]) (by decide +kernel) rfl (fun ls hl => ?_)
                  refine lv_goto (tgt := 42) hx hb dX12_ask_100 (by decide +kernel) ?_
                  exact ih_4024 x_4444 v_4440 f_4441 (by rw [hx_4444]; omega) (by omega) (hE.trans (by rw [hrec_4023])) _ _ hP hD hS ls (lv_sub hl [0, 1, 2, 3] rfl)
                refine lv_if_eq (tgt := 97) hx hb dX12_ask_59 (by decide +kernel) (fun c_4445 => ?_) (fun c_4445 => ?_)
                · have c_4445i := i_eq (x := r_4375.toInt) (y := 0) rfl rfl c_4445
                  replace hE := hE.trans (if_pos c_4445)
                  exact j_4443 v_3748 f_3749  hE _ _ hP hD hS ls (lv_sub hl [0, 1, 2, 3] rfl)
                · have c_4445i := i_ne (x := r_4375.toInt) (y := 0) rfl rfl c_4445
                  replace hE := hE.trans (if_neg c_4445)
                  obtain ⟨x_4446, ex_4446⟩ : ∃ y : Int32, y = v_3748 + Int32.ofInt 1 := ⟨_, rfl⟩
                  replace hE := hE.trans (Lt_in ex_4446)
                  refine lv_iinc (v := x_4446) (lv' := [(2, .int x_4446), (3, .int v_3747), (0, .ref m0), (1, .int x)]) hx hb dX12_ask_62 hl (k := 1) rfl (by rw [ex_4446]) (by decide +kernel) rfl (fun ls hl => ?_)
                  refine lv_iconst (v := 0) hx hb dX12_ask_65 (by decide +kernel) (lv_istore (lv' := [(4, .int 0), (2, .int x_4446), (3, .int v_3747), (0, .ref m0), (1, .int x)]) hx hb dX12_ask_66 hl (by decide +kernel) rfl (fun ls hl => ?_))
                  have lp_4498 : ∀ (nn_ : Nat) (v_4480 : Int32) (f_4481 : Nat → Int32) (hv_4480 : 0 ≤ v_4480.toInt ∧ v_4480.toInt ≤ 8) (hn : (9 - v_4480.toInt : Int).toNat < nn_) (hE : E_v_ask x thr fw fb = Lp (α := Int32 → (Nat → Int32) → (Int32 × (Nat → Int32))) (E_v_ask_l68 v_3747 rec_4023 x_4446) (fun _ _ => ((0, fun _ => 0) : Int32 × (Nat → Int32))) nn_ v_4480 f_4481) (H : Heap) (locs : List Loc) (hP : va_P D vwCl [(cc_O m0 12 [.int 0, m_1, m_2, .ref w0, m_4, m_5, m_6, m_7, m_8, m_9, m_10, m_11, m_12, m_13, m_14, m_15, m_16, m_17, m_18, m_19, m_20, m_21, m_22, m_23, m_24, m_25, m_26, m_27, m_28, m_29, m_30, m_31, m_32, m_33, m_34, m_35, m_36, m_37, m_38, m_39, m_40, m_41, m_42, m_43, m_44, m_45, m_46, m_47, m_48, .ref b0, m_50, m_51, m_52, m_53, m_54, m_55, m_56, m_57, m_58, m_59]), (cc_l w0 (K 0) 5500 fw), (cc_l b0 (K 0) 8 f_4481)] H) (hD : va_D A [(cc_O m0 12 [.int 0, m_1, m_2, .ref w0, m_4, m_5, m_6, m_7, m_8, m_9, m_10, m_11, m_12, m_13, m_14, m_15, m_16, m_17, m_18, m_19, m_20, m_21, m_22, m_23, m_24, m_25, m_26, m_27, m_28, m_29, m_30, m_31, m_32, m_33, m_34, m_35, m_36, m_37, m_38, m_39, m_40, m_41, m_42, m_43, m_44, m_45, m_46, m_47, m_48, .ref b0, m_50, m_51, m_52, m_53, m_54, m_55, m_56, m_57, m_58, m_59]), (cc_l w0 (K 0) 5500 fw), (cc_l b0 (K 0) 8 f_4481)]) (hS : va_S A s.heap H locs) (ls : Array Slot) (hl : lv_has ls 7 [(4, .int v_4480), (2, .int x_4446), (3, .int v_3747), (0, .ref m0), (1, .int x)]), W p l e ({ frames := 2, cells := 0, slots := 0, locals := 45 }) s m (([.ref m0, .int x] : List Value).toArray) below meth c H locs 0 0 Q (F0 m 68 ls []) := by
                    clear hE hP hD hS hl
                    intro nn_
                    induction nn_ with
                    | zero =>
                      intro v_4480 f_4481 hv_4480 hn hE H locs hP hD hS ls hl
                      exact absurd hn (Nat.not_lt_zero _)
                    | succ nn_ ih_4499 =>
                      intro v_4480 f_4481 hv_4480 hn hE H locs hP hD hS ls hl
                      replace hE : E_v_ask x thr fw fb = E_v_ask_l68 v_3747 rec_4023 x_4446 (Lp (α := Int32 → (Nat → Int32) → (Int32 × (Nat → Int32))) (E_v_ask_l68 v_3747 rec_4023 x_4446) (fun _ _ => ((0, fun _ => 0) : Int32 × (Nat → Int32))) nn_) v_4480 f_4481 := hE
                      obtain ⟨rec_4498, hrec_4498⟩ : ∃ z9, z9 = Lp (α := Int32 → (Nat → Int32) → (Int32 × (Nat → Int32))) (E_v_ask_l68 v_3747 rec_4023 x_4446) (fun _ _ => ((0, fun _ => 0) : Int32 × (Nat → Int32))) nn_ := ⟨_, rfl⟩
                      rw [← hrec_4498] at hE
                      replace hE := hE.trans (E_v_ask_l68.eq_def _ _ _ _ _ _)
                      refine lv_iload hx hb dX12_ask_68 (lv_at hl 0 rfl) (lv_bipush (v := 8) hx hb dX12_ask_70 (by decide +kernel) (lv_icmp_ge (tgt := 97) hx hb dX12_ask_72 (by decide +kernel) (fun c_4500 => ?_) (fun c_4500 => ?_)))
                      · have c_4500i := i_le (x := 8) (y := v_4480.toInt) rfl rfl c_4500
                        replace hE := hE.trans (if_pos c_4500)
                        exact j_4443 x_4446 f_4481  hE _ _ hP hD hS ls (lv_sub hl [2, 1, 3, 4] rfl)
                      · have c_4500i := i_nle (x := 8) (y := v_4480.toInt) rfl rfl c_4500
                        replace hE := hE.trans (if_neg c_4500)
                        refine lv_aload_n hx hb dX12_ask_75 rfl (lv_at hl 3 rfl) (va_get (ci := 12) (v := .ref b0) (C := RX12) (T := TX12) (N := 60) hx hb hts hw12 hown hK hP 0 rfl rfl 49 (by decide +kernel) (hts _ mm_X12_ask_879) (fun _ h9 => h9) rfl dX12_ask_76 (lv_iload hx hb dX12_ask_79 (lv_at hl 0 rfl) (lv_dup2_11 hx hb dX12_ask_81 rfl rfl (va_iald hx hb hK hP 2 0 rfl rfl (i_in rfl (by omega)) dX12_ask_82 (lv_topi (fun x_4501 ex_4501 => ?_))))))
                        replace hE := hE.trans (Lt_in ex_4501)
                        refine lv_iload_n hx hb dX12_ask_83 rfl (lv_at hl 2 rfl) (lv_iload hx hb dX12_ask_84 (lv_at hl 0 rfl) (lv_ishr hx hb dX12_ask_86 (lv_topi (fun x_4502 ex_4502 => ?_))))
                        replace hE := hE.trans (Lt_in ex_4502)
                        have hx_4502 : 0 ≤ x_4502.toInt ∧ x_4502.toInt ≤ v_3747.toInt := by rw [ex_4502]; exact i_shr rfl (by omega)
                        refine lv_iconst (v := 1) hx hb dX12_ask_87 (by decide +kernel) (lv_iand hx hb dX12_ask_88 (lv_topi (fun x_4503 ex_4503 => ?_)))
                        replace hE := hE.trans (Lt_in ex_4503)
                        have hx_4503 : 0 ≤ x_4503.toInt ∧ x_4503.toInt ≤ 1 := by rw [ex_4503]; exact i_mask x_4502 1 rfl (by decide +kernel)
                        refine lv_iadd hx hb dX12_ask_89 (lv_topi (fun x_4504 ex_4504 => ?_))
                        replace hE := hE.trans (Lt_in ex_4504)
                        refine va_iast hx hb hK hP hD hS 2 0 rfl rfl (i_in rfl (by omega)) dX12_ask_90 (fun H locs hP0 hD0 hS0 => ?_)
                        replace hP := hP0
                        replace hD := hD0
                        replace hS := hS0
                        clear hP0 hD0 hS0
                        generalize hf_4505 : (upd f_4481 (v_4480 : Int32).toNatClampNeg x_4504) = f_4505 at hP hD
                        replace hE := hE.trans (Lt_in hf_4505.symm)
                        replace hP : va_P D vwCl [(cc_O m0 12 [.int 0, m_1, m_2, .ref w0, m_4, m_5, m_6, m_7, m_8, m_9, m_10, m_11, m_12, m_13, m_14, m_15, m_16, m_17, m_18, m_19, m_20, m_21, m_22, m_23, m_24, m_25, m_26, m_27, m_28, m_29, m_30, m_31, m_32, m_33, m_34, m_35, m_36, m_37, m_38, m_39, m_40, m_41, m_42, m_43, m_44, m_45, m_46, m_47, m_48, .ref b0, m_50, m_51, m_52, m_53, m_54, m_55, m_56, m_57, m_58, m_59]), (cc_l w0 (K 0) 5500 fw), (cc_l b0 (K 0) 8 f_4505)] H := hP
                        replace hD := as_D hP hD rfl
                        obtain ⟨x_4506, ex_4506⟩ : ∃ y : Int32, y = v_4480 + Int32.ofInt 1 := ⟨_, rfl⟩
                        replace hE := hE.trans (Lt_in ex_4506)
                        have hx_4506 : x_4506.toInt = (v_4480.toInt + 1) := by rw [ex_4506]; exact i_add rfl (show (Int32.ofInt 1).toInt = 1 from rfl) (by omega)
                        refine lv_iinc (v := x_4506) (lv' := [(4, .int x_4506), (2, .int x_4446), (3, .int v_3747), (0, .ref m0), (1, .int x)]) hx hb dX12_ask_91 hl (k := 0) rfl (by rw [ex_4506]) (by decide +kernel) rfl (fun ls hl => ?_)
                        refine lv_goto (tgt := 68) hx hb dX12_ask_94 (by decide +kernel) ?_
                        exact ih_4499 x_4506 f_4505 (by rw [hx_4506]; omega) (by omega) (hE.trans (by rw [hrec_4498])) _ _ hP hD hS ls (lv_sub hl [0, 1, 2, 3, 4] rfl)
                  exact lp_4498 ((9 - (0 : Int32).toInt : Int).toNat + 1) 0 f_3749 (by decide +kernel) (Nat.lt_succ_self _) hE _ _ hP hD hS ls (lv_sub hl [0, 1, 2, 3, 4] rfl)
          exact lp_4023 ((257 - (0 : Int32).toInt : Int).toNat + 1) 0 0 f_3052 (by decide +kernel) (Nat.lt_succ_self _) hE _ _ hP hD hS ls (lv_sub hl [0, 1, 2, 3] rfl)
        · have c_3063i := i_nle (x := 8) (y := v_3051.toInt) rfl rfl c_3063
          replace hE := hE.trans (if_neg c_3063)
          refine lv_aload_n hx hb dX12_ask_27 rfl (lv_at hl 2 rfl) (va_get (ci := 12) (v := .ref b0) (C := RX12) (T := TX12) (N := 60) hx hb hts hw12 hown hK hP 0 rfl rfl 49 (by decide +kernel) (hts _ mm_X12_ask_879) (fun _ h9 => h9) rfl dX12_ask_28 (lv_iload_n hx hb dX12_ask_31 rfl (lv_at hl 0 rfl) (lv_iconst (v := 0) hx hb dX12_ask_32 (by decide +kernel) (va_iast hx hb hK hP hD hS 2 0 rfl rfl (i_in rfl (by omega)) dX12_ask_33 (fun H locs hP0 hD0 hS0 => ?_)))))
          replace hP := hP0
          replace hD := hD0
          replace hS := hS0
          clear hP0 hD0 hS0
          generalize hf_4507 : (upd f_3052 (v_3051 : Int32).toNatClampNeg 0) = f_4507 at hP hD
          replace hE := hE.trans (Lt_in hf_4507.symm)
          replace hP : va_P D vwCl [(cc_O m0 12 [.int 0, m_1, m_2, .ref w0, m_4, m_5, m_6, m_7, m_8, m_9, m_10, m_11, m_12, m_13, m_14, m_15, m_16, m_17, m_18, m_19, m_20, m_21, m_22, m_23, m_24, m_25, m_26, m_27, m_28, m_29, m_30, m_31, m_32, m_33, m_34, m_35, m_36, m_37, m_38, m_39, m_40, m_41, m_42, m_43, m_44, m_45, m_46, m_47, m_48, .ref b0, m_50, m_51, m_52, m_53, m_54, m_55, m_56, m_57, m_58, m_59]), (cc_l w0 (K 0) 5500 fw), (cc_l b0 (K 0) 8 f_4507)] H := hP
          replace hD := as_D hP hD rfl
          obtain ⟨x_4508, ex_4508⟩ : ∃ y : Int32, y = v_3051 + Int32.ofInt 1 := ⟨_, rfl⟩
          replace hE := hE.trans (Lt_in ex_4508)
          have hx_4508 : x_4508.toInt = (v_3051.toInt + 1) := by rw [ex_4508]; exact i_add rfl (show (Int32.ofInt 1).toInt = 1 from rfl) (by omega)
          refine lv_iinc (v := x_4508) (lv' := [(3, .int x_4508), (2, .int 0), (0, .ref m0), (1, .int x)]) hx hb dX12_ask_34 hl (k := 0) rfl (by rw [ex_4508]) (by decide +kernel) rfl (fun ls hl => ?_)
          refine lv_goto (tgt := 21) hx hb dX12_ask_37 (by decide +kernel) ?_
          exact ih_3062 x_4508 f_4507 (by rw [hx_4508]; omega) (by omega) (hE.trans (by rw [hrec_3061])) _ _ hP hD hS ls (lv_sub hl [0, 1, 2, 3] rfl)
    exact lp_3061 ((9 - (0 : Int32).toInt : Int).toNat + 1) 0 fb (by decide +kernel) (Nat.lt_succ_self _) hE _ _ hP hD hS ls (lv_sub hl [0, 1, 2, 3] rfl)
  · replace hE := (hE).trans (if_neg (by first | decide | (intro h9; have h8 := congrArg Int32.toInt h9; omega)))
    refine lv_if_ne (tgt := 17) hx hb dX12_ask_12 (by decide +kernel) (fun c_4509 => absurd (by decide +kernel) c_4509) (fun c_4509 => ?_)
    refine lv_iconst (v := (-1)) hx hb dX12_ask_15 (by decide +kernel) ?_
    rw [← hQ]
    have hP9 := hP.sub (ws' := [(cc_O m0 12 [.int 0, m_1, m_2, .ref w0, m_4, m_5, m_6, m_7, m_8, m_9, m_10, m_11, m_12, m_13, m_14, m_15, m_16, m_17, m_18, m_19, m_20, m_21, m_22, m_23, m_24, m_25, m_26, m_27, m_28, m_29, m_30, m_31, m_32, m_33, m_34, m_35, m_36, m_37, m_38, m_39, m_40, m_41, m_42, m_43, m_44, m_45, m_46, m_47, m_48, .ref b0, m_50, m_51, m_52, m_53, m_54, m_55, m_56, m_57, m_58, m_59]), (cc_l w0 (K 0) 5500 fw), (cc_l b0 (K 0) 8 fb)]) [0, 1, 2] rfl
    have hD9 := sub_D hP9 hD [0, 1, 2] (by decide +kernel) rfl
    exact W.iret (v := (-1)) hx hb hr (fun t ht hW => ⟨⟨(-1), ((fun _ => 0, fun i => match i with | _ => fb, fun _ => fun _ => 0, fun _ => 0, fun _ => 0, fun _ => fun _ => none) : Su), rfl, ⟨hE.symm, trivial⟩, (⟨by rw [ht]; exact hP9, hD9⟩ : Wd D A _ t)⟩, hS.F ht⟩) hS.2.2 dX12_ask_16
set_option maxRecDepth 100000 in
noncomputable def E_v_chance_j86 (v_2034 : Int32) (rec_2252 : Int32 → Int64 → (Int64)) (v_2306 : Int64) : Int64 :=
  Lt (v_2034 + Int32.ofInt 1 : Int32) (fun x_2309 => rec_2252 x_2309 v_2306)
set_option maxRecDepth 100000 in
noncomputable def E_v_chance_l55 (fw : Nat → Int32) (v_2034 : Int32) (v_2035 : Int64) (rec_2252 : Int32 → Int64 → (Int64)) (rec_2351 : Int32 → Int64 → (Int64)) (v_2333 : Int32) (v_2334 : Int64) : Int64 :=
  if v_2333 ≤ 0 then (Lt (v_2035 - v_2334 : Int64) (fun x_2354 => E_v_chance_j86 v_2034 rec_2252 x_2354)) else (Lt (E_v_term 4 fw) (fun r_2355 => Lt ((r_2355 : Int32).toInt64 : Int64) (fun x_2357 => Lt (v_2334 * x_2357 : Int64) (fun x_2358 => Lt (x_2358 / 10 : Int64) (fun x_2359 => Lt (v_2333 + Int32.ofInt (-1) : Int32) (fun x_2360 => rec_2351 x_2360 x_2359))))))
set_option maxRecDepth 100000 in
noncomputable def E_v_chance_l28 (x : Int32) (fw : Nat → Int32) (rec_2252 : Int32 → Int64 → (Int64)) (v_2034 : Int32) (v_2035 : Int64) : Int64 :=
  if 7 ≤ v_2034 then ((v_2035 : Int64)) else (Lt (E_v_is x v_2034) (fun r_2310 => if r_2310 = 0 then (E_v_chance_j86 v_2034 rec_2252 v_2035) else (Lt (E_v_soundWith v_2034 fw) (fun r_2314 => Lp (α := Int32 → Int64 → (Int64)) (E_v_chance_l55 fw v_2034 v_2035 rec_2252) (fun _ _ => ((0) : Int64)) (((r_2314 : Int32).toInt - (-1) : Int).toNat + 1) r_2314 v_2035))))
set_option maxRecDepth 100000 in
noncomputable def E_v_chance (x : Int32) (thr : Int32) (fw : Nat → Int32) : Int64 :=
  Lt ((x : Int32).toInt64 : Int64) (fun x_1595 => Lt (E_v_in x_1595 0 127) (fun r_1596 => if r_1596 = 1 then (Lp (α := Int32 → Int64 → (Int64)) (E_v_chance_l28 x fw) (fun _ _ => ((0) : Int64)) ((8 - (0 : Int32).toInt : Int).toNat + 1) 0 1000000000000) else (((-1) : Int64))))
set_option maxHeartbeats 4000000 in
set_option maxRecDepth 100000 in
theorem v_chance (l : Launch) (D : va_G) (K : Nat → ClassId) (m0 : Nat) (x : Int32) (thr : Int32) (m_1 : Value) (m_2 : Value) (w0 : Nat) (m_4 : Value) (m_5 : Value) (m_6 : Value) (m_7 : Value) (m_8 : Value) (m_9 : Value) (m_10 : Value) (m_11 : Value) (m_12 : Value) (m_13 : Value) (m_14 : Value) (m_15 : Value) (m_16 : Value) (m_17 : Value) (m_18 : Value) (m_19 : Value) (m_20 : Value) (m_21 : Value) (m_22 : Value) (m_23 : Value) (m_24 : Value) (m_25 : Value) (m_26 : Value) (m_27 : Value) (m_28 : Value) (m_29 : Value) (m_30 : Value) (m_31 : Value) (m_32 : Value) (m_33 : Value) (m_34 : Value) (m_35 : Value) (m_36 : Value) (m_37 : Value) (m_38 : Value) (m_39 : Value) (m_40 : Value) (m_41 : Value) (m_42 : Value) (m_43 : Value) (m_44 : Value) (m_45 : Value) (m_46 : Value) (m_47 : Value) (m_48 : Value) (m_49 : Value) (m_50 : Value) (m_51 : Value) (m_52 : Value) (m_53 : Value) (m_54 : Value) (m_55 : Value) (m_56 : Value) (m_57 : Value) (m_58 : Value) (m_59 : Value) (fw : Nat → Int32) (gr : Nat → Int32) (sz : Nat) (zfw : RwOK fw) (zgr : FzM gr fw) : Met l yX12_chance wsX12_chance ({ frames := 3, cells := 0, slots := 0, locals := 69 }) (va_Pc [.ref m0, .int x] (Pre D K [(cc_O m0 12 [.int thr, m_1, m_2, .ref w0, m_4, m_5, m_6, m_7, m_8, m_9, m_10, m_11, m_12, m_13, m_14, m_15, m_16, m_17, m_18, m_19, m_20, m_21, m_22, m_23, m_24, m_25, m_26, m_27, m_28, m_29, m_30, m_31, m_32, m_33, m_34, m_35, m_36, m_37, m_38, m_39, m_40, m_41, m_42, m_43, m_44, m_45, m_46, m_47, m_48, m_49, m_50, m_51, m_52, m_53, m_54, m_55, m_56, m_57, m_58, m_59]), (cc_l w0 (K 0) 5500 fw)] sz)) (va_Ql (S := Su) (fun (r : Int64) (u : Su) => (r = E_v_chance x thr fw) ∧ True) (fun u t => Wd D (va_A [(cc_O m0 12 [.int thr, m_1, m_2, .ref w0, m_4, m_5, m_6, m_7, m_8, m_9, m_10, m_11, m_12, m_13, m_14, m_15, m_16, m_17, m_18, m_19, m_20, m_21, m_22, m_23, m_24, m_25, m_26, m_27, m_28, m_29, m_30, m_31, m_32, m_33, m_34, m_35, m_36, m_37, m_38, m_39, m_40, m_41, m_42, m_43, m_44, m_45, m_46, m_47, m_48, m_49, m_50, m_51, m_52, m_53, m_54, m_55, m_56, m_57, m_58, m_59]), (cc_l w0 (K 0) 5500 fw)] sz) ((fun u => [(cc_O m0 12 [.int 0, m_1, m_2, .ref w0, m_4, m_5, m_6, m_7, m_8, m_9, m_10, m_11, m_12, m_13, m_14, m_15, m_16, m_17, m_18, m_19, m_20, m_21, m_22, m_23, m_24, m_25, m_26, m_27, m_28, m_29, m_30, m_31, m_32, m_33, m_34, m_35, m_36, m_37, m_38, m_39, m_40, m_41, m_42, m_43, m_44, m_45, m_46, m_47, m_48, m_49, m_50, m_51, m_52, m_53, m_54, m_55, m_56, m_57, m_58, m_59]), (cc_l w0 (K 0) 5500 fw)]) u) t) (va_A [(cc_O m0 12 [.int thr, m_1, m_2, .ref w0, m_4, m_5, m_6, m_7, m_8, m_9, m_10, m_11, m_12, m_13, m_14, m_15, m_16, m_17, m_18, m_19, m_20, m_21, m_22, m_23, m_24, m_25, m_26, m_27, m_28, m_29, m_30, m_31, m_32, m_33, m_34, m_35, m_36, m_37, m_38, m_39, m_40, m_41, m_42, m_43, m_44, m_45, m_46, m_47, m_48, m_49, m_50, m_51, m_52, m_53, m_54, m_55, m_56, m_57, m_58, m_59]), (cc_l w0 (K 0) 5500 fw)] sz)) 0 0 (va_A [(cc_O m0 12 [.int thr, m_1, m_2, .ref w0, m_4, m_5, m_6, m_7, m_8, m_9, m_10, m_11, m_12, m_13, m_14, m_15, m_16, m_17, m_18, m_19, m_20, m_21, m_22, m_23, m_24, m_25, m_26, m_27, m_28, m_29, m_30, m_31, m_32, m_33, m_34, m_35, m_36, m_37, m_38, m_39, m_40, m_41, m_42, m_43, m_44, m_45, m_46, m_47, m_48, m_49, m_50, m_51, m_52, m_53, m_54, m_55, m_56, m_57, m_58, m_59]), (cc_l w0 (K 0) 5500 fw)] sz) := by
  refine Met.ofW (cc := cX12_chance) (maxL := 8) (ret := (some .long)) (by decide +kernel) rfl ?_
  intro p e s m args below meth c s₁ B hml hv
  obtain ⟨rfl, hsz, hP, hK, hD0, hN⟩ := hv
  have hx := B.exec
  have hb := B.bytes
  have hr := B.returns
  have hts := atoms_spec (ws := wsX12_chance) B.pre
  have hown : s.vm.findClass RX12 = some m.cls := findClass_of_methodNamed B.named
  have hlocks := B.notSynchronized
  subst hsz
  have hD := hD0.self (sz := s.heap.size)
  generalize hAe : va_A [(cc_O m0 12 [.int thr, m_1, m_2, .ref w0, m_4, m_5, m_6, m_7, m_8, m_9, m_10, m_11, m_12, m_13, m_14, m_15, m_16, m_17, m_18, m_19, m_20, m_21, m_22, m_23, m_24, m_25, m_26, m_27, m_28, m_29, m_30, m_31, m_32, m_33, m_34, m_35, m_36, m_37, m_38, m_39, m_40, m_41, m_42, m_43, m_44, m_45, m_46, m_47, m_48, m_49, m_50, m_51, m_52, m_53, m_54, m_55, m_56, m_57, m_58, m_59]), (cc_l w0 (K 0) 5500 fw)] s.heap.size = A at hD ⊢
  have hA : ∀ q : Nat, s.heap.size ≤ q → A q := fun q h => by rw [← hAe]; exact Or.inr h
  clear hAe
  have hS : va_S A s.heap s.heap [] := va_S.rf
  replace hP : va_P D vwCl [(cc_O m0 12 [.int thr, m_1, m_2, .ref w0, m_4, m_5, m_6, m_7, m_8, m_9, m_10, m_11, m_12, m_13, m_14, m_15, m_16, m_17, m_18, m_19, m_20, m_21, m_22, m_23, m_24, m_25, m_26, m_27, m_28, m_29, m_30, m_31, m_32, m_33, m_34, m_35, m_36, m_37, m_38, m_39, m_40, m_41, m_42, m_43, m_44, m_45, m_46, m_47, m_48, m_49, m_50, m_51, m_52, m_53, m_54, m_55, m_56, m_57, m_58, m_59]), (cc_l w0 (K 0) 5500 fw)] s.heap := hP
  have hl := lv_entry [.ref m0, .int x] (n := 8) (Nat.le_of_ble_eq_true rfl)
  rw [lg_entry_eq]
  generalize (lg_sl [.ref m0, .int x] ++ List.replicate (8 - (lg_sl [.ref m0, .int x]).length) Slot.unset).toArray = ls at hl ⊢
  have hl : lv_has ls 8 [(0, .ref m0), (1, .int x)] := hl
  have hw12 : ∀ w ∈ wsX120, w ∈ wsX12_chance := fun w h => (List.mem_cons_of_mem _ (List.mem_append_right _ h))
  generalize hQ : MQ below _ _ s _ _ _ = Q
  have hE := E_v_chance.eq_def x thr fw
  refine lv_aload_n hx hb dX12_chance_0 rfl (lv_at hl 0 rfl) (lv_iconst (v := 0) hx hb dX12_chance_1 (by decide +kernel) (va_put (ci := 12) (v := .int 0) (ty := .int) (C := RX12) (T := TX12) (N := 60) hx hb hts hw12 tyX12 tyX12_ok nmX12 hown hK hP hD hS 0 rfl rfl 0 (by decide +kernel) (hts _ mm_X12_chance_830) (fun _ h9 => h9) rfl (by decide +kernel) (by first | rfl | decide) (by first | rfl | decide) (Nat.le_of_ble_eq_true rfl) dX12_chance_2 (fun H locs hP0 hD0 hS0 => ?_)))
  replace hP : va_P D vwCl [(cc_O m0 12 [.int 0, m_1, m_2, .ref w0, m_4, m_5, m_6, m_7, m_8, m_9, m_10, m_11, m_12, m_13, m_14, m_15, m_16, m_17, m_18, m_19, m_20, m_21, m_22, m_23, m_24, m_25, m_26, m_27, m_28, m_29, m_30, m_31, m_32, m_33, m_34, m_35, m_36, m_37, m_38, m_39, m_40, m_41, m_42, m_43, m_44, m_45, m_46, m_47, m_48, m_49, m_50, m_51, m_52, m_53, m_54, m_55, m_56, m_57, m_58, m_59]), (cc_l w0 (K 0) 5500 fw)] H := hP0
  replace hD := as_D hP hD0 rfl
  replace hS := hS0
  clear hP0 hD0 hS0
  refine lv_iload_n hx hb dX12_chance_5 rfl (lv_at hl 1 rfl) (lv_i2l hx hb dX12_chance_6 rfl (lv_topl (fun x_1595 ex_1595 => ?_)))
  replace hE := hE.trans (Lt_in ex_1595)
  have hx_1595 : x_1595.toInt = x.toInt := by rw [ex_1595]; exact i_wide rfl
  have hbx_1595 := i_rng (a := x) rfl
  refine lv_lconst (v := 0) hx hb dX12_chance_7 (by decide +kernel) (lv_ldc2 (v := 127) hx hb hown (hts _ mm_X12_chance_1029) dX12_chance_8 (pci (va_runS (As := [.long x_1595, .long 0, .long 127]) (rest := []) ⟨hx, hb, hml, hown, hts⟩ (v_in l D K x.toInt 0 127 x_1595 0 127 H.size hx_1595 (show (0 : Int64).toInt = 0 from rfl) (show (127 : Int64).toInt = 127 from rfl)) (va_cwS 3 hts gX12_chance_X12_in rfl rfl rfl (by decide +kernel) ⟨Nat.le_of_ble_eq_true rfl, Nat.le_of_ble_eq_true rfl⟩) (mkS hK hN (va_P.nil) (va_D.nil (A := fun _ => True))) rfl rfl hl.1 rfl (lv_room (Nat.le_of_ble_eq_true rfl)) dX12_chance_11 ⟨Nat.le_of_ble_eq_true rfl, Nat.le_of_ble_eq_true rfl⟩) (fun r_1596 hw => ?_)))
  obtain ⟨hw, k_1597, -⟩ := hw
  replace hE := hE.trans (Lt_in k_1597)
  rcases hw with ⟨rfl, h_1598, h_1599⟩ | ⟨rfl, h_1600⟩
  · replace hE := (hE).trans (if_pos rfl)
    refine lv_if_ne (tgt := 21) hx hb dX12_chance_14 (by decide +kernel) (fun c_1601 => ?_) (fun c_1601 => absurd c_1601 (by decide +kernel))
    refine lv_ldc2 (v := 1000000000000) hx hb hown (hts _ mm_X12_chance_1318) dX12_chance_21 (lv_lstore_n (lv' := [(2, .long 1000000000000), (0, .ref m0), (1, .int x)]) hx hb dX12_chance_24 rfl hl (by decide +kernel) rfl (fun ls hl => ?_))
    refine lv_iconst (v := 0) hx hb dX12_chance_25 (by decide +kernel) (lv_istore (lv' := [(4, .int 0), (2, .long 1000000000000), (0, .ref m0), (1, .int x)]) hx hb dX12_chance_26 hl (by decide +kernel) rfl (fun ls hl => ?_))
    have lp_2252 : ∀ (nn_ : Nat) (v_2034 : Int32) (v_2035 : Int64) (hv_2034 : 0 ≤ v_2034.toInt ∧ v_2034.toInt ≤ 7) (hn : (8 - v_2034.toInt : Int).toNat < nn_) (hE : E_v_chance x thr fw = Lp (α := Int32 → Int64 → (Int64)) (E_v_chance_l28 x fw) (fun _ _ => ((0) : Int64)) nn_ v_2034 v_2035) (H : Heap) (locs : List Loc) (hP : va_P D vwCl [(cc_O m0 12 [.int 0, m_1, m_2, .ref w0, m_4, m_5, m_6, m_7, m_8, m_9, m_10, m_11, m_12, m_13, m_14, m_15, m_16, m_17, m_18, m_19, m_20, m_21, m_22, m_23, m_24, m_25, m_26, m_27, m_28, m_29, m_30, m_31, m_32, m_33, m_34, m_35, m_36, m_37, m_38, m_39, m_40, m_41, m_42, m_43, m_44, m_45, m_46, m_47, m_48, m_49, m_50, m_51, m_52, m_53, m_54, m_55, m_56, m_57, m_58, m_59]), (cc_l w0 (K 0) 5500 fw)] H) (hD : va_D A [(cc_O m0 12 [.int 0, m_1, m_2, .ref w0, m_4, m_5, m_6, m_7, m_8, m_9, m_10, m_11, m_12, m_13, m_14, m_15, m_16, m_17, m_18, m_19, m_20, m_21, m_22, m_23, m_24, m_25, m_26, m_27, m_28, m_29, m_30, m_31, m_32, m_33, m_34, m_35, m_36, m_37, m_38, m_39, m_40, m_41, m_42, m_43, m_44, m_45, m_46, m_47, m_48, m_49, m_50, m_51, m_52, m_53, m_54, m_55, m_56, m_57, m_58, m_59]), (cc_l w0 (K 0) 5500 fw)]) (hS : va_S A s.heap H locs) (ls : Array Slot) (hl : lv_has ls 8 [(4, .int v_2034), (2, .long v_2035), (0, .ref m0), (1, .int x)]), W p l e ({ frames := 3, cells := 0, slots := 0, locals := 69 }) s m (([.ref m0, .int x] : List Value).toArray) below meth c H locs 0 0 Q (F0 m 28 ls []) := by
      clear hE hP hD hS hl
      intro nn_
      induction nn_ with
      | zero =>
        intro v_2034 v_2035 hv_2034 hn hE H locs hP hD hS ls hl
        exact absurd hn (Nat.not_lt_zero _)
      | succ nn_ ih_2253 =>
        intro v_2034 v_2035 hv_2034 hn hE H locs hP hD hS ls hl
        replace hE : E_v_chance x thr fw = E_v_chance_l28 x fw (Lp (α := Int32 → Int64 → (Int64)) (E_v_chance_l28 x fw) (fun _ _ => ((0) : Int64)) nn_) v_2034 v_2035 := hE
        obtain ⟨rec_2252, hrec_2252⟩ : ∃ z9, z9 = Lp (α := Int32 → Int64 → (Int64)) (E_v_chance_l28 x fw) (fun _ _ => ((0) : Int64)) nn_ := ⟨_, rfl⟩
        rw [← hrec_2252] at hE
        replace hE := hE.trans (E_v_chance_l28.eq_def _ _ _ _ _)
        refine lv_iload hx hb dX12_chance_28 (lv_at hl 0 rfl) (lv_bipush (v := 7) hx hb dX12_chance_30 (by decide +kernel) (lv_icmp_ge (tgt := 92) hx hb dX12_chance_32 (by decide +kernel) (fun c_2254 => ?_) (fun c_2254 => ?_)))
        · have c_2254i := i_le (x := 7) (y := v_2034.toInt) rfl rfl c_2254
          replace hE := hE.trans (if_pos c_2254)
          refine lv_lload_n hx hb dX12_chance_92 rfl (lv_at hl 1 rfl) ?_
          rw [← hQ]
          have hP9 := hP.sub (ws' := [(cc_O m0 12 [.int 0, m_1, m_2, .ref w0, m_4, m_5, m_6, m_7, m_8, m_9, m_10, m_11, m_12, m_13, m_14, m_15, m_16, m_17, m_18, m_19, m_20, m_21, m_22, m_23, m_24, m_25, m_26, m_27, m_28, m_29, m_30, m_31, m_32, m_33, m_34, m_35, m_36, m_37, m_38, m_39, m_40, m_41, m_42, m_43, m_44, m_45, m_46, m_47, m_48, m_49, m_50, m_51, m_52, m_53, m_54, m_55, m_56, m_57, m_58, m_59]), (cc_l w0 (K 0) 5500 fw)]) [0, 1] rfl
          have hD9 := sub_D hP9 hD [0, 1] (by decide +kernel) rfl
          exact W.lret (v := v_2035) hx hb hr (fun t ht hW => ⟨⟨v_2035, ((fun _ => 0, fun _ => fun _ => 0, fun _ => fun _ => 0, fun _ => 0, fun _ => 0, fun _ => fun _ => none) : Su), rfl, ⟨hE.symm, trivial⟩, (⟨by rw [ht]; exact hP9, hD9⟩ : Wd D A _ t)⟩, hS.F ht⟩) hS.2.2 dX12_chance_93
        · have c_2254i := i_nle (x := 7) (y := v_2034.toInt) rfl rfl c_2254
          replace hE := hE.trans (if_neg c_2254)
          refine lv_iload_n hx hb dX12_chance_35 rfl (lv_at hl 3 rfl) (lv_iload hx hb dX12_chance_36 (lv_at hl 0 rfl) ?_)
          have j_2308 : ∀ (v_2306 : Int64) (hE : E_v_chance x thr fw = E_v_chance_j86 v_2034 rec_2252 v_2306) (H : Heap) (locs : List Loc) (hP : va_P D vwCl [(cc_O m0 12 [.int 0, m_1, m_2, .ref w0, m_4, m_5, m_6, m_7, m_8, m_9, m_10, m_11, m_12, m_13, m_14, m_15, m_16, m_17, m_18, m_19, m_20, m_21, m_22, m_23, m_24, m_25, m_26, m_27, m_28, m_29, m_30, m_31, m_32, m_33, m_34, m_35, m_36, m_37, m_38, m_39, m_40, m_41, m_42, m_43, m_44, m_45, m_46, m_47, m_48, m_49, m_50, m_51, m_52, m_53, m_54, m_55, m_56, m_57, m_58, m_59]), (cc_l w0 (K 0) 5500 fw)] H) (hD : va_D A [(cc_O m0 12 [.int 0, m_1, m_2, .ref w0, m_4, m_5, m_6, m_7, m_8, m_9, m_10, m_11, m_12, m_13, m_14, m_15, m_16, m_17, m_18, m_19, m_20, m_21, m_22, m_23, m_24, m_25, m_26, m_27, m_28, m_29, m_30, m_31, m_32, m_33, m_34, m_35, m_36, m_37, m_38, m_39, m_40, m_41, m_42, m_43, m_44, m_45, m_46, m_47, m_48, m_49, m_50, m_51, m_52, m_53, m_54, m_55, m_56, m_57, m_58, m_59]), (cc_l w0 (K 0) 5500 fw)]) (hS : va_S A s.heap H locs) (ls : Array Slot) (hl : lv_has ls 8 [(4, .int v_2034), (2, .long v_2306), (0, .ref m0), (1, .int x)]), W p l e ({ frames := 3, cells := 0, slots := 0, locals := 69 }) s m (([.ref m0, .int x] : List Value).toArray) below meth c H locs 0 0 Q (F0 m 86 ls []) := by
            clear hE hP hD hS hl
            intro v_2306 hE H locs hP hD hS ls hl
            replace hE := hE.trans (E_v_chance_j86.eq_def _ _ _)
            obtain ⟨x_2309, ex_2309⟩ : ∃ y : Int32, y = v_2034 + Int32.ofInt 1 := ⟨_, rfl⟩
            replace hE := hE.trans (Lt_in ex_2309)
            have hx_2309 : x_2309.toInt = (v_2034.toInt + 1) := by rw [ex_2309]; exact i_add rfl (show (Int32.ofInt 1).toInt = 1 from rfl) (by omega)
            refine lv_iinc (v := x_2309) (lv' := [(4, .int x_2309), (2, .long v_2306), (0, .ref m0), (1, .int x)]) hx hb dX12_chance_86 hl (k := 0) rfl (by rw [ex_2309]) (by decide +kernel) rfl (fun ls hl => ?_)
            refine lv_goto (tgt := 28) hx hb dX12_chance_89 (by decide +kernel) ?_
            exact ih_2253 x_2309 v_2306 (by rw [hx_2309]; omega) (by omega) (hE.trans (by rw [hrec_2252])) _ _ hP hD hS ls (lv_sub hl [0, 1, 2, 3] rfl)
          refine pci (va_runS (As := [.int x, .int v_2034]) (rest := []) ⟨hx, hb, hml, hown, hts⟩ (v_is l D K x v_2034 H.size) (va_cwS 2 hts gX12_chance_X12_is rfl rfl rfl (by decide +kernel) ⟨Nat.le_of_ble_eq_true rfl, Nat.le_of_ble_eq_true rfl⟩) (mkS hK hN (va_P.nil) (va_D.nil (A := fun _ => True))) rfl rfl hl.1 rfl (lv_room (Nat.le_of_ble_eq_true rfl)) dX12_chance_38 ⟨Nat.le_of_ble_eq_true rfl, Nat.le_of_ble_eq_true rfl⟩) (fun r_2310 hw => ?_)
          obtain ⟨h_2312, k_2311, -⟩ := hw
          replace hE := hE.trans (Lt_in k_2311)
          refine lv_if_eq (tgt := 86) hx hb dX12_chance_41 (by decide +kernel) (fun c_2313 => ?_) (fun c_2313 => ?_)
          · have c_2313i := i_eq (x := r_2310.toInt) (y := 0) rfl rfl c_2313
            replace hE := hE.trans (if_pos c_2313)
            exact j_2308 v_2035  hE _ _ hP hD hS ls (lv_sub hl [0, 1, 2, 3] rfl)
          · have c_2313i := i_ne (x := r_2310.toInt) (y := 0) rfl rfl c_2313
            replace hE := hE.trans (if_neg c_2313)
            refine lv_lload_n hx hb dX12_chance_44 rfl (lv_at hl 1 rfl) (lv_lstore (lv' := [(5, .long v_2035), (4, .int v_2034), (2, .long v_2035), (0, .ref m0), (1, .int x)]) hx hb dX12_chance_45 hl (by decide +kernel) rfl (fun ls hl => ?_))
            refine lv_aload_n hx hb dX12_chance_47 rfl (lv_at hl 3 rfl) (lv_iload hx hb dX12_chance_48 (lv_at hl 1 rfl) (pci (va_runV (As := [.int v_2034]) (rest := []) ⟨hx, hb, hml, hown, hts⟩ (v_soundWith l D K m0 v_2034 (.int 0) m_1 m_2 w0 m_4 m_5 m_6 m_7 m_8 m_9 m_10 m_11 m_12 m_13 m_14 m_15 m_16 m_17 m_18 m_19 m_20 m_21 m_22 m_23 m_24 m_25 m_26 m_27 m_28 m_29 m_30 m_31 m_32 m_33 m_34 m_35 m_36 m_37 m_38 m_39 m_40 m_41 m_42 m_43 m_44 m_45 m_46 m_47 m_48 m_49 m_50 m_51 m_52 m_53 m_54 m_55 m_56 m_57 m_58 m_59 fw H.size zfw) (cwV 1 hts gX12_chance_X12_soundWith rfl rfl rfl (by decide +kernel) ⟨Nat.le_of_ble_eq_true rfl, Nat.le_of_ble_eq_true rfl⟩) (mkV hK hN (hP.sub [0, 1] rfl) (hD.sub [0, 1] (by decide +kernel) rfl) (ci := 12) (q0 := 0) rfl rfl) rfl rfl hl.1 rfl (lv_room (Nat.le_of_ble_eq_true rfl)) dX12_chance_50 ⟨Nat.le_of_ble_eq_true rfl, Nat.le_of_ble_eq_true rfl⟩) (fun r_2314 hw => ?_)))
            obtain ⟨h_2316, k_2315, -⟩ := hw
            replace hE := hE.trans (Lt_in k_2315)
            refine lv_istore (lv' := [(7, .int r_2314), (5, .long v_2035), (4, .int v_2034), (2, .long v_2035), (0, .ref m0), (1, .int x)]) hx hb dX12_chance_53 hl (by decide +kernel) rfl (fun ls hl => ?_)
            have lp_2351 : ∀ (nn_ : Nat) (v_2333 : Int32) (v_2334 : Int64) (hv_2333 : 0 ≤ v_2333.toInt ∧ v_2333.toInt ≤ 8) (hn : (v_2333.toInt - (-1) : Int).toNat < nn_) (hE : E_v_chance x thr fw = Lp (α := Int32 → Int64 → (Int64)) (E_v_chance_l55 fw v_2034 v_2035 rec_2252) (fun _ _ => ((0) : Int64)) nn_ v_2333 v_2334) (H : Heap) (locs : List Loc) (hP : va_P D vwCl [(cc_O m0 12 [.int 0, m_1, m_2, .ref w0, m_4, m_5, m_6, m_7, m_8, m_9, m_10, m_11, m_12, m_13, m_14, m_15, m_16, m_17, m_18, m_19, m_20, m_21, m_22, m_23, m_24, m_25, m_26, m_27, m_28, m_29, m_30, m_31, m_32, m_33, m_34, m_35, m_36, m_37, m_38, m_39, m_40, m_41, m_42, m_43, m_44, m_45, m_46, m_47, m_48, m_49, m_50, m_51, m_52, m_53, m_54, m_55, m_56, m_57, m_58, m_59]), (cc_l w0 (K 0) 5500 fw)] H) (hD : va_D A [(cc_O m0 12 [.int 0, m_1, m_2, .ref w0, m_4, m_5, m_6, m_7, m_8, m_9, m_10, m_11, m_12, m_13, m_14, m_15, m_16, m_17, m_18, m_19, m_20, m_21, m_22, m_23, m_24, m_25, m_26, m_27, m_28, m_29, m_30, m_31, m_32, m_33, m_34, m_35, m_36, m_37, m_38, m_39, m_40, m_41, m_42, m_43, m_44, m_45, m_46, m_47, m_48, m_49, m_50, m_51, m_52, m_53, m_54, m_55, m_56, m_57, m_58, m_59]), (cc_l w0 (K 0) 5500 fw)]) (hS : va_S A s.heap H locs) (ls : Array Slot) (hl : lv_has ls 8 [(7, .int v_2333), (5, .long v_2334), (4, .int v_2034), (2, .long v_2035), (0, .ref m0), (1, .int x)]), W p l e ({ frames := 3, cells := 0, slots := 0, locals := 69 }) s m (([.ref m0, .int x] : List Value).toArray) below meth c H locs 0 0 Q (F0 m 55 ls []) := by
              clear hE hP hD hS hl
              intro nn_
              induction nn_ with
              | zero =>
                intro v_2333 v_2334 hv_2333 hn hE H locs hP hD hS ls hl
                exact absurd hn (Nat.not_lt_zero _)
              | succ nn_ ih_2352 =>
                intro v_2333 v_2334 hv_2333 hn hE H locs hP hD hS ls hl
                replace hE : E_v_chance x thr fw = E_v_chance_l55 fw v_2034 v_2035 rec_2252 (Lp (α := Int32 → Int64 → (Int64)) (E_v_chance_l55 fw v_2034 v_2035 rec_2252) (fun _ _ => ((0) : Int64)) nn_) v_2333 v_2334 := hE
                obtain ⟨rec_2351, hrec_2351⟩ : ∃ z9, z9 = Lp (α := Int32 → Int64 → (Int64)) (E_v_chance_l55 fw v_2034 v_2035 rec_2252) (fun _ _ => ((0) : Int64)) nn_ := ⟨_, rfl⟩
                rw [← hrec_2351] at hE
                replace hE := hE.trans (E_v_chance_l55.eq_def _ _ _ _ _ _ _)
                refine lv_iload hx hb dX12_chance_55 (lv_at hl 0 rfl) (lv_if_le (tgt := 81) hx hb dX12_chance_57 (by decide +kernel) (fun c_2353 => ?_) (fun c_2353 => ?_))
                · have c_2353i := i_le (x := v_2333.toInt) (y := 0) rfl rfl c_2353
                  replace hE := hE.trans (if_pos c_2353)
                  refine lv_lload_n hx hb dX12_chance_81 rfl (lv_at hl 3 rfl) (lv_lload hx hb dX12_chance_82 (lv_at hl 1 rfl) (lv_lsub hx hb dX12_chance_84 (lv_topl (fun x_2354 ex_2354 => ?_))))
                  replace hE := hE.trans (Lt_in ex_2354)
                  refine lv_lstore_n (lv' := [(2, .long x_2354), (7, .int v_2333), (5, .long v_2334), (4, .int v_2034), (0, .ref m0), (1, .int x)]) hx hb dX12_chance_85 rfl hl (by decide +kernel) rfl (fun ls hl => ?_)
                  exact j_2308 x_2354  hE _ _ hP hD hS ls (lv_sub hl [3, 0, 4, 5] rfl)
                · have c_2353i := i_nle (x := v_2333.toInt) (y := 0) rfl rfl c_2353
                  replace hE := hE.trans (if_neg c_2353)
                  refine lv_lload hx hb dX12_chance_60 (lv_at hl 1 rfl) (lv_aload_n hx hb dX12_chance_62 rfl (lv_at hl 4 rfl) (lv_iconst (v := 4) hx hb dX12_chance_63 (by decide +kernel) (pci (va_runV (As := [.int 4]) (rest := [.long v_2334]) ⟨hx, hb, hml, hown, hts⟩ (v_term l D K m0 4 (.int 0) m_1 m_2 w0 m_4 m_5 m_6 m_7 m_8 m_9 m_10 m_11 m_12 m_13 m_14 m_15 m_16 m_17 m_18 m_19 m_20 m_21 m_22 m_23 m_24 m_25 m_26 m_27 m_28 m_29 m_30 m_31 m_32 m_33 m_34 m_35 m_36 m_37 m_38 m_39 m_40 m_41 m_42 m_43 m_44 m_45 m_46 m_47 m_48 m_49 m_50 m_51 m_52 m_53 m_54 m_55 m_56 m_57 m_58 m_59 fw H.size (by first | omega | decide) zfw) (cwV 1 hts gX12_chance_X12_term rfl rfl rfl (by decide +kernel) ⟨Nat.le_of_ble_eq_true rfl, Nat.le_of_ble_eq_true rfl⟩) (mkV hK hN (hP.sub [0, 1] rfl) (hD.sub [0, 1] (by decide +kernel) rfl) (ci := 12) (q0 := 0) rfl rfl) rfl rfl hl.1 rfl (lv_room (Nat.le_of_ble_eq_true rfl)) dX12_chance_64 ⟨Nat.le_of_ble_eq_true rfl, Nat.le_of_ble_eq_true rfl⟩) (fun r_2355 hw => ?_))))
                  obtain ⟨k_2356, -⟩ := hw
                  replace hE := hE.trans (Lt_in k_2356)
                  refine lv_i2l hx hb dX12_chance_67 rfl (lv_topl (fun x_2357 ex_2357 => ?_))
                  replace hE := hE.trans (Lt_in ex_2357)
                  have hx_2357 : x_2357.toInt = r_2355.toInt := by rw [ex_2357]; exact i_wide rfl
                  refine lv_lmul hx hb dX12_chance_68 (lv_topl (fun x_2358 ex_2358 => ?_))
                  replace hE := hE.trans (Lt_in ex_2358)
                  refine lv_ldc2 (v := 10) hx hb hown (hts _ mm_X12_chance_1045) dX12_chance_69 (lv_ldiv hx hb dX12_chance_72 (by decide +kernel) (lv_topl (fun x_2359 ex_2359 => ?_)))
                  replace hE := hE.trans (Lt_in ex_2359)
                  refine lv_lstore (lv' := [(5, .long x_2359), (7, .int v_2333), (4, .int v_2034), (2, .long v_2035), (0, .ref m0), (1, .int x)]) hx hb dX12_chance_73 hl (by decide +kernel) rfl (fun ls hl => ?_)
                  obtain ⟨x_2360, ex_2360⟩ : ∃ y : Int32, y = v_2333 + Int32.ofInt (-1) := ⟨_, rfl⟩
                  replace hE := hE.trans (Lt_in ex_2360)
                  have hx_2360 : x_2360.toInt = (v_2333.toInt + (-1)) := by rw [ex_2360]; exact i_add rfl (show (Int32.ofInt (-1)).toInt = (-1) from rfl) (by omega)
                  refine lv_iinc (v := x_2360) (lv' := [(7, .int x_2360), (5, .long x_2359), (4, .int v_2034), (2, .long v_2035), (0, .ref m0), (1, .int x)]) hx hb dX12_chance_75 hl (k := 1) rfl (by rw [ex_2360]) (by decide +kernel) rfl (fun ls hl => ?_)
                  refine lv_goto (tgt := 55) hx hb dX12_chance_78 (by decide +kernel) ?_
                  exact ih_2352 x_2360 x_2359 (by rw [hx_2360]; omega) (by omega) (hE.trans (by rw [hrec_2351])) _ _ hP hD hS ls (lv_sub hl [0, 1, 2, 3, 4, 5] rfl)
            exact lp_2351 (((r_2314 : Int32).toInt - (-1) : Int).toNat + 1) r_2314 v_2035 (by omega) (Nat.lt_succ_self _) hE _ _ hP hD hS ls (lv_sub hl [0, 1, 2, 3, 4, 5] rfl)
    exact lp_2252 ((8 - (0 : Int32).toInt : Int).toNat + 1) 0 1000000000000 (by decide +kernel) (Nat.lt_succ_self _) hE _ _ hP hD hS ls (lv_sub hl [0, 1, 2, 3] rfl)
  · replace hE := (hE).trans (if_neg (by first | decide | (intro h9; have h8 := congrArg Int32.toInt h9; omega)))
    refine lv_if_ne (tgt := 21) hx hb dX12_chance_14 (by decide +kernel) (fun c_2361 => absurd (by decide +kernel) c_2361) (fun c_2361 => ?_)
    refine lv_ldc2 (v := (-1)) hx hb hown (hts _ mm_X12_chance_1008) dX12_chance_17 ?_
    rw [← hQ]
    have hP9 := hP.sub (ws' := [(cc_O m0 12 [.int 0, m_1, m_2, .ref w0, m_4, m_5, m_6, m_7, m_8, m_9, m_10, m_11, m_12, m_13, m_14, m_15, m_16, m_17, m_18, m_19, m_20, m_21, m_22, m_23, m_24, m_25, m_26, m_27, m_28, m_29, m_30, m_31, m_32, m_33, m_34, m_35, m_36, m_37, m_38, m_39, m_40, m_41, m_42, m_43, m_44, m_45, m_46, m_47, m_48, m_49, m_50, m_51, m_52, m_53, m_54, m_55, m_56, m_57, m_58, m_59]), (cc_l w0 (K 0) 5500 fw)]) [0, 1] rfl
    have hD9 := sub_D hP9 hD [0, 1] (by decide +kernel) rfl
    exact W.lret (v := (-1)) hx hb hr (fun t ht hW => ⟨⟨(-1), ((fun _ => 0, fun _ => fun _ => 0, fun _ => fun _ => 0, fun _ => 0, fun _ => 0, fun _ => fun _ => none) : Su), rfl, ⟨hE.symm, trivial⟩, (⟨by rw [ht]; exact hP9, hD9⟩ : Wd D A _ t)⟩, hS.F ht⟩) hS.2.2 dX12_chance_20
