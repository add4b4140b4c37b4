theorem dX1_turn_186 : decode cX1_turn 186 = .ok (.tableswitch 75 0 2 #[26, 41, 58], 26) := by decide +kernel
theorem BX1_look_0 : bsegs (ByteArray.data cX1_look |>.toList.drop 0) 0 [(0, [42]), (1, [180, 0, 25]), (4, [3]), (5, [43]), (6, [180, 0, 109]), (9, [3]), (10, [46]), (11, [79]), (12, [42]), (13, [180, 0, 25]), (16, [4]), (17, [43]), (18, [180, 0, 109]), (21, [4]), (22, [46]), (23, [79]), (24, [42]), (25, [180, 0, 25]), (28, [5]), (29, [43]), (30, [180, 0, 112]), (33, [79]), (34, [42]), (35, [180, 0, 25])] = true := by decide +kernel
theorem dX1_look_0 : decode cX1_look 0 = .ok (.aload_n 0, 1) := dk_42 (bs_at BX1_look_0 0 rfl)
theorem dX1_look_1 : decode cX1_look 1 = .ok (.getfield 25, 3) := dk_180 0 25 (bs_at BX1_look_0 1 rfl) rfl
theorem dX1_look_4 : decode cX1_look 4 = .ok (.iconst 0, 1) := dk_3 (bs_at BX1_look_0 2 rfl)
theorem dX1_look_5 : decode cX1_look 5 = .ok (.aload_n 1, 1) := dk_43 (bs_at BX1_look_0 3 rfl)
theorem dX1_look_6 : decode cX1_look 6 = .ok (.getfield 109, 3) := dk_180 0 109 (bs_at BX1_look_0 4 rfl) rfl
theorem dX1_look_9 : decode cX1_look 9 = .ok (.iconst 0, 1) := dk_3 (bs_at BX1_look_0 5 rfl)
theorem dX1_look_10 : decode cX1_look 10 = .ok (.iaload, 1) := dk_46 (bs_at BX1_look_0 6 rfl)
theorem dX1_look_11 : decode cX1_look 11 = .ok (.iastore, 1) := dk_79 (bs_at BX1_look_0 7 rfl)
theorem dX1_look_12 : decode cX1_look 12 = .ok (.aload_n 0, 1) := dk_42 (bs_at BX1_look_0 8 rfl)
theorem dX1_look_13 : decode cX1_look 13 = .ok (.getfield 25, 3) := dk_180 0 25 (bs_at BX1_look_0 9 rfl) rfl
theorem dX1_look_16 : decode cX1_look 16 = .ok (.iconst 1, 1) := dk_4 (bs_at BX1_look_0 10 rfl)
theorem dX1_look_17 : decode cX1_look 17 = .ok (.aload_n 1, 1) := dk_43 (bs_at BX1_look_0 11 rfl)
theorem dX1_look_18 : decode cX1_look 18 = .ok (.getfield 109, 3) := dk_180 0 109 (bs_at BX1_look_0 12 rfl) rfl
theorem dX1_look_21 : decode cX1_look 21 = .ok (.iconst 1, 1) := dk_4 (bs_at BX1_look_0 13 rfl)
theorem dX1_look_22 : decode cX1_look 22 = .ok (.iaload, 1) := dk_46 (bs_at BX1_look_0 14 rfl)
theorem dX1_look_23 : decode cX1_look 23 = .ok (.iastore, 1) := dk_79 (bs_at BX1_look_0 15 rfl)
theorem dX1_look_24 : decode cX1_look 24 = .ok (.aload_n 0, 1) := dk_42 (bs_at BX1_look_0 16 rfl)
theorem dX1_look_25 : decode cX1_look 25 = .ok (.getfield 25, 3) := dk_180 0 25 (bs_at BX1_look_0 17 rfl) rfl
theorem dX1_look_28 : decode cX1_look 28 = .ok (.iconst 2, 1) := dk_5 (bs_at BX1_look_0 18 rfl)
theorem dX1_look_29 : decode cX1_look 29 = .ok (.aload_n 1, 1) := dk_43 (bs_at BX1_look_0 19 rfl)
theorem dX1_look_30 : decode cX1_look 30 = .ok (.getfield 112, 3) := dk_180 0 112 (bs_at BX1_look_0 20 rfl) rfl
theorem dX1_look_33 : decode cX1_look 33 = .ok (.iastore, 1) := dk_79 (bs_at BX1_look_0 21 rfl)
theorem dX1_look_34 : decode cX1_look 34 = .ok (.aload_n 0, 1) := dk_42 (bs_at BX1_look_0 22 rfl)
theorem dX1_look_35 : decode cX1_look 35 = .ok (.getfield 25, 3) := dk_180 0 25 (bs_at BX1_look_0 23 rfl) rfl
theorem BX1_look_38 : bsegs (ByteArray.data cX1_look |>.toList.drop 38) 38 [(38, [6]), (39, [42]), (40, [180, 0, 43]), (43, [79]), (44, [42]), (45, [180, 0, 25]), (48, [7]), (49, [42]), (50, [180, 0, 47]), (53, [79]), (54, [3]), (55, [61]), (56, [28]), (57, [16, 7]), (59, [162, 0, 19]), (62, [42]), (63, [180, 0, 25]), (66, [16, 21]), (68, [28]), (69, [96]), (70, [3]), (71, [79]), (72, [132, 2, 1]), (75, [167, 255, 237])] = true := by decide +kernel
theorem dX1_look_38 : decode cX1_look 38 = .ok (.iconst 3, 1) := dk_6 (bs_at BX1_look_38 0 rfl)
theorem dX1_look_39 : decode cX1_look 39 = .ok (.aload_n 0, 1) := dk_42 (bs_at BX1_look_38 1 rfl)
theorem dX1_look_40 : decode cX1_look 40 = .ok (.getfield 43, 3) := dk_180 0 43 (bs_at BX1_look_38 2 rfl) rfl
theorem dX1_look_43 : decode cX1_look 43 = .ok (.iastore, 1) := dk_79 (bs_at BX1_look_38 3 rfl)
theorem dX1_look_44 : decode cX1_look 44 = .ok (.aload_n 0, 1) := dk_42 (bs_at BX1_look_38 4 rfl)
theorem dX1_look_45 : decode cX1_look 45 = .ok (.getfield 25, 3) := dk_180 0 25 (bs_at BX1_look_38 5 rfl) rfl
theorem dX1_look_48 : decode cX1_look 48 = .ok (.iconst 4, 1) := dk_7 (bs_at BX1_look_38 6 rfl)
theorem dX1_look_49 : decode cX1_look 49 = .ok (.aload_n 0, 1) := dk_42 (bs_at BX1_look_38 7 rfl)
theorem dX1_look_50 : decode cX1_look 50 = .ok (.getfield 47, 3) := dk_180 0 47 (bs_at BX1_look_38 8 rfl) rfl
theorem dX1_look_53 : decode cX1_look 53 = .ok (.iastore, 1) := dk_79 (bs_at BX1_look_38 9 rfl)
theorem dX1_look_54 : decode cX1_look 54 = .ok (.iconst 0, 1) := dk_3 (bs_at BX1_look_38 10 rfl)
theorem dX1_look_55 : decode cX1_look 55 = .ok (.istore_n 2, 1) := dk_61 (bs_at BX1_look_38 11 rfl)
theorem dX1_look_56 : decode cX1_look 56 = .ok (.iload_n 2, 1) := dk_28 (bs_at BX1_look_38 12 rfl)
theorem dX1_look_57 : decode cX1_look 57 = .ok (.bipush 7, 2) := dk_16 7 (bs_at BX1_look_38 13 rfl) rfl
theorem dX1_look_59 : decode cX1_look 59 = .ok (.if_icmp .ge 19, 3) := dk_162 0 19 (bs_at BX1_look_38 14 rfl) rfl
theorem dX1_look_62 : decode cX1_look 62 = .ok (.aload_n 0, 1) := dk_42 (bs_at BX1_look_38 15 rfl)
theorem dX1_look_63 : decode cX1_look 63 = .ok (.getfield 25, 3) := dk_180 0 25 (bs_at BX1_look_38 16 rfl) rfl
theorem dX1_look_66 : decode cX1_look 66 = .ok (.bipush 21, 2) := dk_16 21 (bs_at BX1_look_38 17 rfl) rfl
theorem dX1_look_68 : decode cX1_look 68 = .ok (.iload_n 2, 1) := dk_28 (bs_at BX1_look_38 18 rfl)
theorem dX1_look_69 : decode cX1_look 69 = .ok (.iadd, 1) := dk_96 (bs_at BX1_look_38 19 rfl)
theorem dX1_look_70 : decode cX1_look 70 = .ok (.iconst 0, 1) := dk_3 (bs_at BX1_look_38 20 rfl)
theorem dX1_look_71 : decode cX1_look 71 = .ok (.iastore, 1) := dk_79 (bs_at BX1_look_38 21 rfl)
theorem dX1_look_72 : decode cX1_look 72 = .ok (.iinc 2 1, 3) := dk_132 2 1 (bs_at BX1_look_38 22 rfl) rfl
theorem dX1_look_75 : decode cX1_look 75 = .ok (.goto (-19), 3) := dk_167 255 237 (bs_at BX1_look_38 23 rfl) rfl
theorem BX1_look_78 : bsegs (ByteArray.data cX1_look |>.toList.drop 78) 78 [(78, [3]), (79, [61]), (80, [28]), (81, [16, 8]), (83, [162, 0, 108]), (86, [43]), (87, [28]), (88, [182, 0, 115]), (91, [62]), (92, [42]), (93, [180, 0, 25]), (96, [8]), (97, [28]), (98, [96]), (99, [29]), (100, [153, 0, 12]), (103, [43]), (104, [28]), (105, [8]), (106, [182, 0, 119]), (109, [167, 0, 4]), (112, [2]), (113, [79]), (114, [42])] = true := by decide +kernel
theorem dX1_look_78 : decode cX1_look 78 = .ok (.iconst 0, 1) := dk_3 (bs_at BX1_look_78 0 rfl)
theorem dX1_look_79 : decode cX1_look 79 = .ok (.istore_n 2, 1) := dk_61 (bs_at BX1_look_78 1 rfl)
theorem dX1_look_80 : decode cX1_look 80 = .ok (.iload_n 2, 1) := dk_28 (bs_at BX1_look_78 2 rfl)
theorem dX1_look_81 : decode cX1_look 81 = .ok (.bipush 8, 2) := dk_16 8 (bs_at BX1_look_78 3 rfl) rfl
theorem dX1_look_83 : decode cX1_look 83 = .ok (.if_icmp .ge 108, 3) := dk_162 0 108 (bs_at BX1_look_78 4 rfl) rfl
theorem dX1_look_86 : decode cX1_look 86 = .ok (.aload_n 1, 1) := dk_43 (bs_at BX1_look_78 5 rfl)
theorem dX1_look_87 : decode cX1_look 87 = .ok (.iload_n 2, 1) := dk_28 (bs_at BX1_look_78 6 rfl)
theorem dX1_look_88 : decode cX1_look 88 = .ok (.invokevirtual 115, 3) := dk_182 0 115 (bs_at BX1_look_78 7 rfl) rfl
theorem dX1_look_91 : decode cX1_look 91 = .ok (.istore_n 3, 1) := dk_62 (bs_at BX1_look_78 8 rfl)
theorem dX1_look_92 : decode cX1_look 92 = .ok (.aload_n 0, 1) := dk_42 (bs_at BX1_look_78 9 rfl)
theorem dX1_look_93 : decode cX1_look 93 = .ok (.getfield 25, 3) := dk_180 0 25 (bs_at BX1_look_78 10 rfl) rfl
theorem dX1_look_96 : decode cX1_look 96 = .ok (.iconst 5, 1) := dk_8 (bs_at BX1_look_78 11 rfl)
theorem dX1_look_97 : decode cX1_look 97 = .ok (.iload_n 2, 1) := dk_28 (bs_at BX1_look_78 12 rfl)
theorem dX1_look_98 : decode cX1_look 98 = .ok (.iadd, 1) := dk_96 (bs_at BX1_look_78 13 rfl)
theorem dX1_look_99 : decode cX1_look 99 = .ok (.iload_n 3, 1) := dk_29 (bs_at BX1_look_78 14 rfl)
theorem dX1_look_100 : decode cX1_look 100 = .ok (.ifCond .eq 12, 3) := dk_153 0 12 (bs_at BX1_look_78 15 rfl) rfl
theorem dX1_look_103 : decode cX1_look 103 = .ok (.aload_n 1, 1) := dk_43 (bs_at BX1_look_78 16 rfl)
theorem dX1_look_104 : decode cX1_look 104 = .ok (.iload_n 2, 1) := dk_28 (bs_at BX1_look_78 17 rfl)
theorem dX1_look_105 : decode cX1_look 105 = .ok (.iconst 5, 1) := dk_8 (bs_at BX1_look_78 18 rfl)
theorem dX1_look_106 : decode cX1_look 106 = .ok (.invokevirtual 119, 3) := dk_182 0 119 (bs_at BX1_look_78 19 rfl) rfl
theorem dX1_look_109 : decode cX1_look 109 = .ok (.goto 4, 3) := dk_167 0 4 (bs_at BX1_look_78 20 rfl) rfl
theorem dX1_look_112 : decode cX1_look 112 = .ok (.iconst (-1), 1) := dk_2 (bs_at BX1_look_78 21 rfl)
theorem dX1_look_113 : decode cX1_look 113 = .ok (.iastore, 1) := dk_79 (bs_at BX1_look_78 22 rfl)
theorem dX1_look_114 : decode cX1_look 114 = .ok (.aload_n 0, 1) := dk_42 (bs_at BX1_look_78 23 rfl)
theorem BX1_look_115 : bsegs (ByteArray.data cX1_look |>.toList.drop 115) 115 [(115, [180, 0, 25]), (118, [16, 13]), (120, [28]), (121, [96]), (122, [29]), (123, [153, 0, 12]), (126, [43]), (127, [28]), (128, [5]), (129, [182, 0, 119]), (132, [167, 0, 4]), (135, [2]), (136, [79]), (137, [16, 21]), (139, [43]), (140, [28]), (141, [3]), (142, [182, 0, 119]), (145, [96]), (146, [54, 4]), (148, [29]), (149, [153, 0, 36]), (152, [43]), (153, [28])] = true := by decide +kernel
theorem dX1_look_115 : decode cX1_look 115 = .ok (.getfield 25, 3) := dk_180 0 25 (bs_at BX1_look_115 0 rfl) rfl
theorem dX1_look_118 : decode cX1_look 118 = .ok (.bipush 13, 2) := dk_16 13 (bs_at BX1_look_115 1 rfl) rfl
theorem dX1_look_120 : decode cX1_look 120 = .ok (.iload_n 2, 1) := dk_28 (bs_at BX1_look_115 2 rfl)
theorem dX1_look_121 : decode cX1_look 121 = .ok (.iadd, 1) := dk_96 (bs_at BX1_look_115 3 rfl)
theorem dX1_look_122 : decode cX1_look 122 = .ok (.iload_n 3, 1) := dk_29 (bs_at BX1_look_115 4 rfl)
theorem dX1_look_123 : decode cX1_look 123 = .ok (.ifCond .eq 12, 3) := dk_153 0 12 (bs_at BX1_look_115 5 rfl) rfl
theorem dX1_look_126 : decode cX1_look 126 = .ok (.aload_n 1, 1) := dk_43 (bs_at BX1_look_115 6 rfl)
theorem dX1_look_127 : decode cX1_look 127 = .ok (.iload_n 2, 1) := dk_28 (bs_at BX1_look_115 7 rfl)
theorem dX1_look_128 : decode cX1_look 128 = .ok (.iconst 2, 1) := dk_5 (bs_at BX1_look_115 8 rfl)
theorem dX1_look_129 : decode cX1_look 129 = .ok (.invokevirtual 119, 3) := dk_182 0 119 (bs_at BX1_look_115 9 rfl) rfl
theorem dX1_look_132 : decode cX1_look 132 = .ok (.goto 4, 3) := dk_167 0 4 (bs_at BX1_look_115 10 rfl) rfl
theorem dX1_look_135 : decode cX1_look 135 = .ok (.iconst (-1), 1) := dk_2 (bs_at BX1_look_115 11 rfl)
theorem dX1_look_136 : decode cX1_look 136 = .ok (.iastore, 1) := dk_79 (bs_at BX1_look_115 12 rfl)
theorem dX1_look_137 : decode cX1_look 137 = .ok (.bipush 21, 2) := dk_16 21 (bs_at BX1_look_115 13 rfl) rfl
theorem dX1_look_139 : decode cX1_look 139 = .ok (.aload_n 1, 1) := dk_43 (bs_at BX1_look_115 14 rfl)
theorem dX1_look_140 : decode cX1_look 140 = .ok (.iload_n 2, 1) := dk_28 (bs_at BX1_look_115 15 rfl)
theorem dX1_look_141 : decode cX1_look 141 = .ok (.iconst 0, 1) := dk_3 (bs_at BX1_look_115 16 rfl)
theorem dX1_look_142 : decode cX1_look 142 = .ok (.invokevirtual 119, 3) := dk_182 0 119 (bs_at BX1_look_115 17 rfl) rfl
theorem dX1_look_145 : decode cX1_look 145 = .ok (.iadd, 1) := dk_96 (bs_at BX1_look_115 18 rfl)
theorem dX1_look_146 : decode cX1_look 146 = .ok (.istore 4, 2) := dk_54 4 (bs_at BX1_look_115 19 rfl)
theorem dX1_look_148 : decode cX1_look 148 = .ok (.iload_n 3, 1) := dk_29 (bs_at BX1_look_115 20 rfl)
theorem dX1_look_149 : decode cX1_look 149 = .ok (.ifCond .eq 36, 3) := dk_153 0 36 (bs_at BX1_look_115 21 rfl) rfl
theorem dX1_look_152 : decode cX1_look 152 = .ok (.aload_n 1, 1) := dk_43 (bs_at BX1_look_115 22 rfl)
theorem dX1_look_153 : decode cX1_look 153 = .ok (.iload_n 2, 1) := dk_28 (bs_at BX1_look_115 23 rfl)
theorem BX1_look_154 : bsegs (ByteArray.data cX1_look |>.toList.drop 154) 154 [(154, [182, 0, 122]), (157, [153, 0, 28]), (160, [21, 4]), (162, [16, 21]), (164, [161, 0, 21]), (167, [21, 4]), (169, [16, 28]), (171, [162, 0, 14]), (174, [42]), (175, [180, 0, 25]), (178, [21, 4]), (180, [92]), (181, [46]), (182, [4]), (183, [96]), (184, [79]), (185, [132, 2, 1]), (188, [167, 255, 148]), (191, [177])] = true := by decide +kernel
theorem dX1_look_154 : decode cX1_look 154 = .ok (.invokevirtual 122, 3) := dk_182 0 122 (bs_at BX1_look_154 0 rfl) rfl
theorem dX1_look_157 : decode cX1_look 157 = .ok (.ifCond .eq 28, 3) := dk_153 0 28 (bs_at BX1_look_154 1 rfl) rfl
theorem dX1_look_160 : decode cX1_look 160 = .ok (.iload 4, 2) := dk_21 4 (bs_at BX1_look_154 2 rfl)
theorem dX1_look_162 : decode cX1_look 162 = .ok (.bipush 21, 2) := dk_16 21 (bs_at BX1_look_154 3 rfl) rfl
theorem dX1_look_164 : decode cX1_look 164 = .ok (.if_icmp .lt 21, 3) := dk_161 0 21 (bs_at BX1_look_154 4 rfl) rfl
theorem dX1_look_167 : decode cX1_look 167 = .ok (.iload 4, 2) := dk_21 4 (bs_at BX1_look_154 5 rfl)
theorem dX1_look_169 : decode cX1_look 169 = .ok (.bipush 28, 2) := dk_16 28 (bs_at BX1_look_154 6 rfl) rfl
theorem dX1_look_171 : decode cX1_look 171 = .ok (.if_icmp .ge 14, 3) := dk_162 0 14 (bs_at BX1_look_154 7 rfl) rfl
theorem dX1_look_174 : decode cX1_look 174 = .ok (.aload_n 0, 1) := dk_42 (bs_at BX1_look_154 8 rfl)
theorem dX1_look_175 : decode cX1_look 175 = .ok (.getfield 25, 3) := dk_180 0 25 (bs_at BX1_look_154 9 rfl) rfl
theorem dX1_look_178 : decode cX1_look 178 = .ok (.iload 4, 2) := dk_21 4 (bs_at BX1_look_154 10 rfl)
theorem dX1_look_180 : decode cX1_look 180 = .ok (.dup2, 1) := dk_92 (bs_at BX1_look_154 11 rfl)
theorem dX1_look_181 : decode cX1_look 181 = .ok (.iaload, 1) := dk_46 (bs_at BX1_look_154 12 rfl)
theorem dX1_look_182 : decode cX1_look 182 = .ok (.iconst 1, 1) := dk_4 (bs_at BX1_look_154 13 rfl)
theorem dX1_look_183 : decode cX1_look 183 = .ok (.iadd, 1) := dk_96 (bs_at BX1_look_154 14 rfl)
theorem dX1_look_184 : decode cX1_look 184 = .ok (.iastore, 1) := dk_79 (bs_at BX1_look_154 15 rfl)
theorem dX1_look_185 : decode cX1_look 185 = .ok (.iinc 2 1, 3) := dk_132 2 1 (bs_at BX1_look_154 16 rfl) rfl
theorem dX1_look_188 : decode cX1_look 188 = .ok (.goto (-108), 3) := dk_167 255 148 (bs_at BX1_look_154 17 rfl) rfl
theorem dX1_look_191 : decode cX1_look 191 = .ok (.return_, 1) := dk_177 (bs_at BX1_look_154 18 rfl)
theorem BX9_become_0 : bsegs (ByteArray.data cX9_become |>.toList.drop 0) 0 [(0, [43]), (1, [180, 0, 9]), (4, [3]), (5, [42]), (6, [180, 0, 9]), (9, [3]), (10, [42]), (11, [180, 0, 9]), (14, [190]), (15, [184, 0, 46]), (18, [43]), (19, [180, 0, 15]), (22, [3]), (23, [42]), (24, [180, 0, 15]), (27, [3]), (28, [42]), (29, [180, 0, 15]), (32, [190]), (33, [184, 0, 46]), (36, [43]), (37, [180, 0, 18]), (40, [3]), (41, [42])] = true := by decide +kernel
theorem dX9_become_0 : decode cX9_become 0 = .ok (.aload_n 1, 1) := dk_43 (bs_at BX9_become_0 0 rfl)
theorem dX9_become_1 : decode cX9_become 1 = .ok (.getfield 9, 3) := dk_180 0 9 (bs_at BX9_become_0 1 rfl) rfl
theorem dX9_become_4 : decode cX9_become 4 = .ok (.iconst 0, 1) := dk_3 (bs_at BX9_become_0 2 rfl)
theorem dX9_become_5 : decode cX9_become 5 = .ok (.aload_n 0, 1) := dk_42 (bs_at BX9_become_0 3 rfl)
theorem dX9_become_6 : decode cX9_become 6 = .ok (.getfield 9, 3) := dk_180 0 9 (bs_at BX9_become_0 4 rfl) rfl
theorem dX9_become_9 : decode cX9_become 9 = .ok (.iconst 0, 1) := dk_3 (bs_at BX9_become_0 5 rfl)
theorem dX9_become_10 : decode cX9_become 10 = .ok (.aload_n 0, 1) := dk_42 (bs_at BX9_become_0 6 rfl)
theorem dX9_become_11 : decode cX9_become 11 = .ok (.getfield 9, 3) := dk_180 0 9 (bs_at BX9_become_0 7 rfl) rfl
theorem dX9_become_14 : decode cX9_become 14 = .ok (.arraylength, 1) := dk_190 (bs_at BX9_become_0 8 rfl)
theorem dX9_become_15 : decode cX9_become 15 = .ok (.invokestatic 46, 3) := dk_184 0 46 (bs_at BX9_become_0 9 rfl) rfl
theorem dX9_become_18 : decode cX9_become 18 = .ok (.aload_n 1, 1) := dk_43 (bs_at BX9_become_0 10 rfl)
theorem dX9_become_19 : decode cX9_become 19 = .ok (.getfield 15, 3) := dk_180 0 15 (bs_at BX9_become_0 11 rfl) rfl
theorem dX9_become_22 : decode cX9_become 22 = .ok (.iconst 0, 1) := dk_3 (bs_at BX9_become_0 12 rfl)
theorem dX9_become_23 : decode cX9_become 23 = .ok (.aload_n 0, 1) := dk_42 (bs_at BX9_become_0 13 rfl)
theorem dX9_become_24 : decode cX9_become 24 = .ok (.getfield 15, 3) := dk_180 0 15 (bs_at BX9_become_0 14 rfl) rfl
theorem dX9_become_27 : decode cX9_become 27 = .ok (.iconst 0, 1) := dk_3 (bs_at BX9_become_0 15 rfl)
theorem dX9_become_28 : decode cX9_become 28 = .ok (.aload_n 0, 1) := dk_42 (bs_at BX9_become_0 16 rfl)
theorem dX9_become_29 : decode cX9_become 29 = .ok (.getfield 15, 3) := dk_180 0 15 (bs_at BX9_become_0 17 rfl) rfl
theorem dX9_become_32 : decode cX9_become 32 = .ok (.arraylength, 1) := dk_190 (bs_at BX9_become_0 18 rfl)
theorem dX9_become_33 : decode cX9_become 33 = .ok (.invokestatic 46, 3) := dk_184 0 46 (bs_at BX9_become_0 19 rfl) rfl
theorem dX9_become_36 : decode cX9_become 36 = .ok (.aload_n 1, 1) := dk_43 (bs_at BX9_become_0 20 rfl)
theorem dX9_become_37 : decode cX9_become 37 = .ok (.getfield 18, 3) := dk_180 0 18 (bs_at BX9_become_0 21 rfl) rfl
theorem dX9_become_40 : decode cX9_become 40 = .ok (.iconst 0, 1) := dk_3 (bs_at BX9_become_0 22 rfl)
theorem dX9_become_41 : decode cX9_become 41 = .ok (.aload_n 0, 1) := dk_42 (bs_at BX9_become_0 23 rfl)
theorem BX9_become_42 : bsegs (ByteArray.data cX9_become |>.toList.drop 42) 42 [(42, [180, 0, 18]), (45, [3]), (46, [42]), (47, [180, 0, 18]), (50, [190]), (51, [184, 0, 46]), (54, [3]), (55, [61]), (56, [28]), (57, [16, 6]), (59, [162, 0, 21]), (62, [42]), (63, [180, 0, 23]), (66, [28]), (67, [43]), (68, [180, 0, 23]), (71, [28]), (72, [50]), (73, [83]), (74, [132, 2, 1]), (77, [167, 255, 235]), (80, [42]), (81, [43]), (82, [180, 0, 27])] = true := by decide +kernel
theorem dX9_become_42 : decode cX9_become 42 = .ok (.getfield 18, 3) := dk_180 0 18 (bs_at BX9_become_42 0 rfl) rfl
theorem dX9_become_45 : decode cX9_become 45 = .ok (.iconst 0, 1) := dk_3 (bs_at BX9_become_42 1 rfl)
theorem dX9_become_46 : decode cX9_become 46 = .ok (.aload_n 0, 1) := dk_42 (bs_at BX9_become_42 2 rfl)
theorem dX9_become_47 : decode cX9_become 47 = .ok (.getfield 18, 3) := dk_180 0 18 (bs_at BX9_become_42 3 rfl) rfl
theorem dX9_become_50 : decode cX9_become 50 = .ok (.arraylength, 1) := dk_190 (bs_at BX9_become_42 4 rfl)
theorem dX9_become_51 : decode cX9_become 51 = .ok (.invokestatic 46, 3) := dk_184 0 46 (bs_at BX9_become_42 5 rfl) rfl
theorem dX9_become_54 : decode cX9_become 54 = .ok (.iconst 0, 1) := dk_3 (bs_at BX9_become_42 6 rfl)
theorem dX9_become_55 : decode cX9_become 55 = .ok (.istore_n 2, 1) := dk_61 (bs_at BX9_become_42 7 rfl)
theorem dX9_become_56 : decode cX9_become 56 = .ok (.iload_n 2, 1) := dk_28 (bs_at BX9_become_42 8 rfl)
theorem dX9_become_57 : decode cX9_become 57 = .ok (.bipush 6, 2) := dk_16 6 (bs_at BX9_become_42 9 rfl) rfl
theorem dX9_become_59 : decode cX9_become 59 = .ok (.if_icmp .ge 21, 3) := dk_162 0 21 (bs_at BX9_become_42 10 rfl) rfl
theorem dX9_become_62 : decode cX9_become 62 = .ok (.aload_n 0, 1) := dk_42 (bs_at BX9_become_42 11 rfl)
theorem dX9_become_63 : decode cX9_become 63 = .ok (.getfield 23, 3) := dk_180 0 23 (bs_at BX9_become_42 12 rfl) rfl
theorem dX9_become_66 : decode cX9_become 66 = .ok (.iload_n 2, 1) := dk_28 (bs_at BX9_become_42 13 rfl)
theorem dX9_become_67 : decode cX9_become 67 = .ok (.aload_n 1, 1) := dk_43 (bs_at BX9_become_42 14 rfl)
theorem dX9_become_68 : decode cX9_become 68 = .ok (.getfield 23, 3) := dk_180 0 23 (bs_at BX9_become_42 15 rfl) rfl
theorem dX9_become_71 : decode cX9_become 71 = .ok (.iload_n 2, 1) := dk_28 (bs_at BX9_become_42 16 rfl)
theorem dX9_become_72 : decode cX9_become 72 = .ok (.aaload, 1) := dk_50 (bs_at BX9_become_42 17 rfl)
theorem dX9_become_73 : decode cX9_become 73 = .ok (.aastore, 1) := dk_83 (bs_at BX9_become_42 18 rfl)
theorem dX9_become_74 : decode cX9_become 74 = .ok (.iinc 2 1, 3) := dk_132 2 1 (bs_at BX9_become_42 19 rfl) rfl
theorem dX9_become_77 : decode cX9_become 77 = .ok (.goto (-21), 3) := dk_167 255 235 (bs_at BX9_become_42 20 rfl) rfl
theorem dX9_become_80 : decode cX9_become 80 = .ok (.aload_n 0, 1) := dk_42 (bs_at BX9_become_42 21 rfl)
theorem dX9_become_81 : decode cX9_become 81 = .ok (.aload_n 1, 1) := dk_43 (bs_at BX9_become_42 22 rfl)
theorem dX9_become_82 : decode cX9_become 82 = .ok (.getfield 27, 3) := dk_180 0 27 (bs_at BX9_become_42 23 rfl) rfl
theorem BX9_become_85 : bsegs (ByteArray.data cX9_become |>.toList.drop 85) 85 [(85, [181, 0, 27]), (88, [42]), (89, [43]), (90, [180, 0, 31]), (93, [181, 0, 31]), (96, [42]), (97, [43]), (98, [180, 0, 34]), (101, [181, 0, 34]), (104, [42]), (105, [43]), (106, [180, 0, 37]), (109, [181, 0, 37]), (112, [42]), (113, [43]), (114, [180, 0, 40]), (117, [181, 0, 40]), (120, [42]), (121, [43]), (122, [180, 0, 43]), (125, [181, 0, 43]), (128, [177])] = true := by decide +kernel
theorem dX9_become_85 : decode cX9_become 85 = .ok (.putfield 27, 3) := dk_181 0 27 (bs_at BX9_become_85 0 rfl) rfl
theorem dX9_become_88 : decode cX9_become 88 = .ok (.aload_n 0, 1) := dk_42 (bs_at BX9_become_85 1 rfl)
theorem dX9_become_89 : decode cX9_become 89 = .ok (.aload_n 1, 1) := dk_43 (bs_at BX9_become_85 2 rfl)
theorem dX9_become_90 : decode cX9_become 90 = .ok (.getfield 31, 3) := dk_180 0 31 (bs_at BX9_become_85 3 rfl) rfl
theorem dX9_become_93 : decode cX9_become 93 = .ok (.putfield 31, 3) := dk_181 0 31 (bs_at BX9_become_85 4 rfl) rfl
theorem dX9_become_96 : decode cX9_become 96 = .ok (.aload_n 0, 1) := dk_42 (bs_at BX9_become_85 5 rfl)
theorem dX9_become_97 : decode cX9_become 97 = .ok (.aload_n 1, 1) := dk_43 (bs_at BX9_become_85 6 rfl)
theorem dX9_become_98 : decode cX9_become 98 = .ok (.getfield 34, 3) := dk_180 0 34 (bs_at BX9_become_85 7 rfl) rfl
theorem dX9_become_101 : decode cX9_become 101 = .ok (.putfield 34, 3) := dk_181 0 34 (bs_at BX9_become_85 8 rfl) rfl
theorem dX9_become_104 : decode cX9_become 104 = .ok (.aload_n 0, 1) := dk_42 (bs_at BX9_become_85 9 rfl)
theorem dX9_become_105 : decode cX9_become 105 = .ok (.aload_n 1, 1) := dk_43 (bs_at BX9_become_85 10 rfl)
theorem dX9_become_106 : decode cX9_become 106 = .ok (.getfield 37, 3) := dk_180 0 37 (bs_at BX9_become_85 11 rfl) rfl
theorem dX9_become_109 : decode cX9_become 109 = .ok (.putfield 37, 3) := dk_181 0 37 (bs_at BX9_become_85 12 rfl) rfl
theorem dX9_become_112 : decode cX9_become 112 = .ok (.aload_n 0, 1) := dk_42 (bs_at BX9_become_85 13 rfl)
theorem dX9_become_113 : decode cX9_become 113 = .ok (.aload_n 1, 1) := dk_43 (bs_at BX9_become_85 14 rfl)
theorem dX9_become_114 : decode cX9_become 114 = .ok (.getfield 40, 3) := dk_180 0 40 (bs_at BX9_become_85 15 rfl) rfl
theorem dX9_become_117 : decode cX9_become 117 = .ok (.putfield 40, 3) := dk_181 0 40 (bs_at BX9_become_85 16 rfl) rfl
theorem dX9_become_120 : decode cX9_become 120 = .ok (.aload_n 0, 1) := dk_42 (bs_at BX9_become_85 17 rfl)
theorem dX9_become_121 : decode cX9_become 121 = .ok (.aload_n 1, 1) := dk_43 (bs_at BX9_become_85 18 rfl)
theorem dX9_become_122 : decode cX9_become 122 = .ok (.getfield 43, 3) := dk_180 0 43 (bs_at BX9_become_85 19 rfl) rfl
theorem dX9_become_125 : decode cX9_become 125 = .ok (.putfield 43, 3) := dk_181 0 43 (bs_at BX9_become_85 20 rfl) rfl
theorem dX9_become_128 : decode cX9_become 128 = .ok (.return_, 1) := dk_177 (bs_at BX9_become_85 21 rfl)
theorem BX1_turn_0 : bsegs (ByteArray.data cX1_turn |>.toList.drop 0) 0 [(0, [42]), (1, [45]), (2, [182, 0, 73]), (5, [43]), (6, [28]), (7, [7]), (8, [182, 0, 65]), (11, [54, 5]), (13, [21, 5]), (15, [2]), (16, [159, 0, 35]), (19, [42]), (20, [180, 0, 21]), (23, [43]), (24, [180, 0, 76]), (27, [21, 5]), (29, [42]), (30, [180, 0, 25]), (33, [182, 0, 79]), (36, [153, 0, 13]), (39, [42]), (40, [180, 0, 21]), (43, [180, 0, 83]), (46, [153, 0, 5])] = true := by decide +kernel
theorem dX1_turn_0 : decode cX1_turn 0 = .ok (.aload_n 0, 1) := dk_42 (bs_at BX1_turn_0 0 rfl)
theorem dX1_turn_1 : decode cX1_turn 1 = .ok (.aload_n 3, 1) := dk_45 (bs_at BX1_turn_0 1 rfl)
theorem dX1_turn_2 : decode cX1_turn 2 = .ok (.invokevirtual 73, 3) := dk_182 0 73 (bs_at BX1_turn_0 2 rfl) rfl
theorem dX1_turn_5 : decode cX1_turn 5 = .ok (.aload_n 1, 1) := dk_43 (bs_at BX1_turn_0 3 rfl)
theorem dX1_turn_6 : decode cX1_turn 6 = .ok (.iload_n 2, 1) := dk_28 (bs_at BX1_turn_0 4 rfl)
theorem dX1_turn_7 : decode cX1_turn 7 = .ok (.iconst 4, 1) := dk_7 (bs_at BX1_turn_0 5 rfl)
theorem dX1_turn_8 : decode cX1_turn 8 = .ok (.invokevirtual 65, 3) := dk_182 0 65 (bs_at BX1_turn_0 6 rfl) rfl
theorem dX1_turn_11 : decode cX1_turn 11 = .ok (.istore 5, 2) := dk_54 5 (bs_at BX1_turn_0 7 rfl)
theorem dX1_turn_13 : decode cX1_turn 13 = .ok (.iload 5, 2) := dk_21 5 (bs_at BX1_turn_0 8 rfl)
theorem dX1_turn_15 : decode cX1_turn 15 = .ok (.iconst (-1), 1) := dk_2 (bs_at BX1_turn_0 9 rfl)
theorem dX1_turn_16 : decode cX1_turn 16 = .ok (.if_icmp .eq 35, 3) := dk_159 0 35 (bs_at BX1_turn_0 10 rfl) rfl
theorem dX1_turn_19 : decode cX1_turn 19 = .ok (.aload_n 0, 1) := dk_42 (bs_at BX1_turn_0 11 rfl)
theorem dX1_turn_20 : decode cX1_turn 20 = .ok (.getfield 21, 3) := dk_180 0 21 (bs_at BX1_turn_0 12 rfl) rfl
theorem dX1_turn_23 : decode cX1_turn 23 = .ok (.aload_n 1, 1) := dk_43 (bs_at BX1_turn_0 13 rfl)
theorem dX1_turn_24 : decode cX1_turn 24 = .ok (.getfield 76, 3) := dk_180 0 76 (bs_at BX1_turn_0 14 rfl) rfl
theorem dX1_turn_27 : decode cX1_turn 27 = .ok (.iload 5, 2) := dk_21 5 (bs_at BX1_turn_0 15 rfl)
theorem dX1_turn_29 : decode cX1_turn 29 = .ok (.aload_n 0, 1) := dk_42 (bs_at BX1_turn_0 16 rfl)
theorem dX1_turn_30 : decode cX1_turn 30 = .ok (.getfield 25, 3) := dk_180 0 25 (bs_at BX1_turn_0 17 rfl) rfl
theorem dX1_turn_33 : decode cX1_turn 33 = .ok (.invokevirtual 79, 3) := dk_182 0 79 (bs_at BX1_turn_0 18 rfl) rfl
theorem dX1_turn_36 : decode cX1_turn 36 = .ok (.ifCond .eq 13, 3) := dk_153 0 13 (bs_at BX1_turn_0 19 rfl) rfl
theorem dX1_turn_39 : decode cX1_turn 39 = .ok (.aload_n 0, 1) := dk_42 (bs_at BX1_turn_0 20 rfl)
theorem dX1_turn_40 : decode cX1_turn 40 = .ok (.getfield 21, 3) := dk_180 0 21 (bs_at BX1_turn_0 21 rfl) rfl
theorem dX1_turn_43 : decode cX1_turn 43 = .ok (.getfield 83, 3) := dk_180 0 83 (bs_at BX1_turn_0 22 rfl) rfl
theorem dX1_turn_46 : decode cX1_turn 46 = .ok (.ifCond .eq 5, 3) := dk_153 0 5 (bs_at BX1_turn_0 23 rfl) rfl
theorem BX1_turn_49 : bsegs (ByteArray.data cX1_turn |>.toList.drop 49) 49 [(49, [4]), (50, [172]), (51, [43]), (52, [28]), (53, [3]), (54, [182, 0, 65]), (57, [54, 6]), (59, [21, 6]), (61, [6]), (62, [160, 0, 7]), (65, [2]), (66, [167, 0, 24]), (69, [42]), (70, [180, 0, 21]), (73, [43]), (74, [180, 0, 76]), (77, [43]), (78, [28]), (79, [5]), (80, [182, 0, 65]), (83, [42]), (84, [180, 0, 25]), (87, [182, 0, 79]), (90, [54, 7])] = true := by decide +kernel
theorem dX1_turn_49 : decode cX1_turn 49 = .ok (.iconst 1, 1) := dk_4 (bs_at BX1_turn_49 0 rfl)
theorem dX1_turn_50 : decode cX1_turn 50 = .ok (.ireturn, 1) := dk_172 (bs_at BX1_turn_49 1 rfl)
theorem dX1_turn_51 : decode cX1_turn 51 = .ok (.aload_n 1, 1) := dk_43 (bs_at BX1_turn_49 2 rfl)
theorem dX1_turn_52 : decode cX1_turn 52 = .ok (.iload_n 2, 1) := dk_28 (bs_at BX1_turn_49 3 rfl)
theorem dX1_turn_53 : decode cX1_turn 53 = .ok (.iconst 0, 1) := dk_3 (bs_at BX1_turn_49 4 rfl)
theorem dX1_turn_54 : decode cX1_turn 54 = .ok (.invokevirtual 65, 3) := dk_182 0 65 (bs_at BX1_turn_49 5 rfl) rfl
theorem dX1_turn_57 : decode cX1_turn 57 = .ok (.istore 6, 2) := dk_54 6 (bs_at BX1_turn_49 6 rfl)
theorem dX1_turn_59 : decode cX1_turn 59 = .ok (.iload 6, 2) := dk_21 6 (bs_at BX1_turn_49 7 rfl)
theorem dX1_turn_61 : decode cX1_turn 61 = .ok (.iconst 3, 1) := dk_6 (bs_at BX1_turn_49 8 rfl)
theorem dX1_turn_62 : decode cX1_turn 62 = .ok (.if_icmp .ne 7, 3) := dk_160 0 7 (bs_at BX1_turn_49 9 rfl) rfl
theorem dX1_turn_65 : decode cX1_turn 65 = .ok (.iconst (-1), 1) := dk_2 (bs_at BX1_turn_49 10 rfl)
theorem dX1_turn_66 : decode cX1_turn 66 = .ok (.goto 24, 3) := dk_167 0 24 (bs_at BX1_turn_49 11 rfl) rfl
theorem dX1_turn_69 : decode cX1_turn 69 = .ok (.aload_n 0, 1) := dk_42 (bs_at BX1_turn_49 12 rfl)
theorem dX1_turn_70 : decode cX1_turn 70 = .ok (.getfield 21, 3) := dk_180 0 21 (bs_at BX1_turn_49 13 rfl) rfl
theorem dX1_turn_73 : decode cX1_turn 73 = .ok (.aload_n 1, 1) := dk_43 (bs_at BX1_turn_49 14 rfl)
theorem dX1_turn_74 : decode cX1_turn 74 = .ok (.getfield 76, 3) := dk_180 0 76 (bs_at BX1_turn_49 15 rfl) rfl
theorem dX1_turn_77 : decode cX1_turn 77 = .ok (.aload_n 1, 1) := dk_43 (bs_at BX1_turn_49 16 rfl)
theorem dX1_turn_78 : decode cX1_turn 78 = .ok (.iload_n 2, 1) := dk_28 (bs_at BX1_turn_49 17 rfl)
theorem dX1_turn_79 : decode cX1_turn 79 = .ok (.iconst 2, 1) := dk_5 (bs_at BX1_turn_49 18 rfl)
theorem dX1_turn_80 : decode cX1_turn 80 = .ok (.invokevirtual 65, 3) := dk_182 0 65 (bs_at BX1_turn_49 19 rfl) rfl
theorem dX1_turn_83 : decode cX1_turn 83 = .ok (.aload_n 0, 1) := dk_42 (bs_at BX1_turn_49 20 rfl)
theorem dX1_turn_84 : decode cX1_turn 84 = .ok (.getfield 25, 3) := dk_180 0 25 (bs_at BX1_turn_49 21 rfl) rfl
theorem dX1_turn_87 : decode cX1_turn 87 = .ok (.invokevirtual 79, 3) := dk_182 0 79 (bs_at BX1_turn_49 22 rfl) rfl
theorem dX1_turn_90 : decode cX1_turn 90 = .ok (.istore 7, 2) := dk_54 7 (bs_at BX1_turn_49 23 rfl)
theorem BX1_turn_92 : bsegs (ByteArray.data cX1_turn |>.toList.drop 92) 92 [(92, [21, 6]), (94, [6]), (95, [159, 0, 15]), (98, [42]), (99, [180, 0, 21]), (102, [180, 0, 83]), (105, [153, 0, 5]), (108, [3]), (109, [172]), (110, [21, 6]), (112, [4]), (113, [159, 0, 9]), (116, [21, 6]), (118, [5]), (119, [160, 0, 7]), (122, [4]), (123, [167, 0, 4]), (126, [3]), (127, [54, 8]), (129, [21, 8]), (131, [153, 0, 27]), (134, [42]), (135, [180, 0, 21]), (138, [43])] = true := by decide +kernel
theorem dX1_turn_92 : decode cX1_turn 92 = .ok (.iload 6, 2) := dk_21 6 (bs_at BX1_turn_92 0 rfl)
theorem dX1_turn_94 : decode cX1_turn 94 = .ok (.iconst 3, 1) := dk_6 (bs_at BX1_turn_92 1 rfl)
theorem dX1_turn_95 : decode cX1_turn 95 = .ok (.if_icmp .eq 15, 3) := dk_159 0 15 (bs_at BX1_turn_92 2 rfl) rfl
theorem dX1_turn_98 : decode cX1_turn 98 = .ok (.aload_n 0, 1) := dk_42 (bs_at BX1_turn_92 3 rfl)
theorem dX1_turn_99 : decode cX1_turn 99 = .ok (.getfield 21, 3) := dk_180 0 21 (bs_at BX1_turn_92 4 rfl) rfl
theorem dX1_turn_102 : decode cX1_turn 102 = .ok (.getfield 83, 3) := dk_180 0 83 (bs_at BX1_turn_92 5 rfl) rfl
theorem dX1_turn_105 : decode cX1_turn 105 = .ok (.ifCond .eq 5, 3) := dk_153 0 5 (bs_at BX1_turn_92 6 rfl) rfl
theorem dX1_turn_108 : decode cX1_turn 108 = .ok (.iconst 0, 1) := dk_3 (bs_at BX1_turn_92 7 rfl)
theorem dX1_turn_109 : decode cX1_turn 109 = .ok (.ireturn, 1) := dk_172 (bs_at BX1_turn_92 8 rfl)
theorem dX1_turn_110 : decode cX1_turn 110 = .ok (.iload 6, 2) := dk_21 6 (bs_at BX1_turn_92 9 rfl)
theorem dX1_turn_112 : decode cX1_turn 112 = .ok (.iconst 1, 1) := dk_4 (bs_at BX1_turn_92 10 rfl)
theorem dX1_turn_113 : decode cX1_turn 113 = .ok (.if_icmp .eq 9, 3) := dk_159 0 9 (bs_at BX1_turn_92 11 rfl) rfl
theorem dX1_turn_116 : decode cX1_turn 116 = .ok (.iload 6, 2) := dk_21 6 (bs_at BX1_turn_92 12 rfl)
theorem dX1_turn_118 : decode cX1_turn 118 = .ok (.iconst 2, 1) := dk_5 (bs_at BX1_turn_92 13 rfl)
theorem dX1_turn_119 : decode cX1_turn 119 = .ok (.if_icmp .ne 7, 3) := dk_160 0 7 (bs_at BX1_turn_92 14 rfl) rfl
theorem dX1_turn_122 : decode cX1_turn 122 = .ok (.iconst 1, 1) := dk_4 (bs_at BX1_turn_92 15 rfl)
theorem dX1_turn_123 : decode cX1_turn 123 = .ok (.goto 4, 3) := dk_167 0 4 (bs_at BX1_turn_92 16 rfl) rfl
theorem dX1_turn_126 : decode cX1_turn 126 = .ok (.iconst 0, 1) := dk_3 (bs_at BX1_turn_92 17 rfl)
theorem dX1_turn_127 : decode cX1_turn 127 = .ok (.istore 8, 2) := dk_54 8 (bs_at BX1_turn_92 18 rfl)
theorem dX1_turn_129 : decode cX1_turn 129 = .ok (.iload 8, 2) := dk_21 8 (bs_at BX1_turn_92 19 rfl)
theorem dX1_turn_131 : decode cX1_turn 131 = .ok (.ifCond .eq 27, 3) := dk_153 0 27 (bs_at BX1_turn_92 20 rfl) rfl
theorem dX1_turn_134 : decode cX1_turn 134 = .ok (.aload_n 0, 1) := dk_42 (bs_at BX1_turn_92 21 rfl)
theorem dX1_turn_135 : decode cX1_turn 135 = .ok (.getfield 21, 3) := dk_180 0 21 (bs_at BX1_turn_92 22 rfl) rfl
theorem dX1_turn_138 : decode cX1_turn 138 = .ok (.aload_n 1, 1) := dk_43 (bs_at BX1_turn_92 23 rfl)
theorem BX1_turn_139 : bsegs (ByteArray.data cX1_turn |>.toList.drop 139) 139 [(139, [180, 0, 76]), (142, [43]), (143, [28]), (144, [6]), (145, [182, 0, 65]), (148, [42]), (149, [180, 0, 25]), (152, [182, 0, 79]), (155, [167, 0, 4]), (158, [3]), (159, [54, 9]), (161, [21, 8]), (163, [153, 0, 15]), (166, [42]), (167, [180, 0, 21]), (170, [180, 0, 83]), (173, [153, 0, 5]), (176, [3]), (177, [172]), (178, [25, 4]), (180, [45]), (181, [182, 0, 87]), (184, [21, 6]), (212, [42])] = true := by decide +kernel
theorem dX1_turn_139 : decode cX1_turn 139 = .ok (.getfield 76, 3) := dk_180 0 76 (bs_at BX1_turn_139 0 rfl) rfl
theorem dX1_turn_142 : decode cX1_turn 142 = .ok (.aload_n 1, 1) := dk_43 (bs_at BX1_turn_139 1 rfl)
theorem dX1_turn_143 : decode cX1_turn 143 = .ok (.iload_n 2, 1) := dk_28 (bs_at BX1_turn_139 2 rfl)
theorem dX1_turn_144 : decode cX1_turn 144 = .ok (.iconst 3, 1) := dk_6 (bs_at BX1_turn_139 3 rfl)
theorem dX1_turn_145 : decode cX1_turn 145 = .ok (.invokevirtual 65, 3) := dk_182 0 65 (bs_at BX1_turn_139 4 rfl) rfl
theorem dX1_turn_148 : decode cX1_turn 148 = .ok (.aload_n 0, 1) := dk_42 (bs_at BX1_turn_139 5 rfl)
theorem dX1_turn_149 : decode cX1_turn 149 = .ok (.getfield 25, 3) := dk_180 0 25 (bs_at BX1_turn_139 6 rfl) rfl
theorem dX1_turn_152 : decode cX1_turn 152 = .ok (.invokevirtual 79, 3) := dk_182 0 79 (bs_at BX1_turn_139 7 rfl) rfl
theorem dX1_turn_155 : decode cX1_turn 155 = .ok (.goto 4, 3) := dk_167 0 4 (bs_at BX1_turn_139 8 rfl) rfl
theorem dX1_turn_158 : decode cX1_turn 158 = .ok (.iconst 0, 1) := dk_3 (bs_at BX1_turn_139 9 rfl)
theorem dX1_turn_159 : decode cX1_turn 159 = .ok (.istore 9, 2) := dk_54 9 (bs_at BX1_turn_139 10 rfl)
theorem dX1_turn_161 : decode cX1_turn 161 = .ok (.iload 8, 2) := dk_21 8 (bs_at BX1_turn_139 11 rfl)
theorem dX1_turn_163 : decode cX1_turn 163 = .ok (.ifCond .eq 15, 3) := dk_153 0 15 (bs_at BX1_turn_139 12 rfl) rfl
theorem dX1_turn_166 : decode cX1_turn 166 = .ok (.aload_n 0, 1) := dk_42 (bs_at BX1_turn_139 13 rfl)
theorem dX1_turn_167 : decode cX1_turn 167 = .ok (.getfield 21, 3) := dk_180 0 21 (bs_at BX1_turn_139 14 rfl) rfl
theorem dX1_turn_170 : decode cX1_turn 170 = .ok (.getfield 83, 3) := dk_180 0 83 (bs_at BX1_turn_139 15 rfl) rfl
theorem dX1_turn_173 : decode cX1_turn 173 = .ok (.ifCond .eq 5, 3) := dk_153 0 5 (bs_at BX1_turn_139 16 rfl) rfl
theorem dX1_turn_176 : decode cX1_turn 176 = .ok (.iconst 0, 1) := dk_3 (bs_at BX1_turn_139 17 rfl)
theorem dX1_turn_177 : decode cX1_turn 177 = .ok (.ireturn, 1) := dk_172 (bs_at BX1_turn_139 18 rfl)
theorem dX1_turn_178 : decode cX1_turn 178 = .ok (.aload 4, 2) := dk_25 4 (bs_at BX1_turn_139 19 rfl)
theorem dX1_turn_180 : decode cX1_turn 180 = .ok (.aload_n 3, 1) := dk_45 (bs_at BX1_turn_139 20 rfl)
theorem dX1_turn_181 : decode cX1_turn 181 = .ok (.invokevirtual 87, 3) := dk_182 0 87 (bs_at BX1_turn_139 21 rfl) rfl
theorem dX1_turn_184 : decode cX1_turn 184 = .ok (.iload 6, 2) := dk_21 6 (bs_at BX1_turn_139 22 rfl)
theorem dX1_turn_212 : decode cX1_turn 212 = .ok (.aload_n 0, 1) := dk_42 (bs_at BX1_turn_139 23 rfl)
theorem BX1_turn_213 : bsegs (ByteArray.data cX1_turn |>.toList.drop 213) 213 [(213, [180, 0, 14]), (216, [45]), (217, [21, 7]), (219, [182, 0, 90]), (222, [54, 10]), (224, [167, 0, 53]), (227, [42]), (228, [180, 0, 14]), (231, [45]), (232, [21, 7]), (234, [21, 9]), (236, [182, 0, 94]), (239, [54, 10]), (241, [167, 0, 36]), (244, [42]), (245, [180, 0, 14]), (248, [45]), (249, [21, 7]), (251, [21, 9]), (253, [182, 0, 98]), (256, [54, 10]), (258, [167, 0, 19]), (261, [42]), (262, [180, 0, 14])] = true := by decide +kernel
theorem dX1_turn_213 : decode cX1_turn 213 = .ok (.getfield 14, 3) := dk_180 0 14 (bs_at BX1_turn_213 0 rfl) rfl
theorem dX1_turn_216 : decode cX1_turn 216 = .ok (.aload_n 3, 1) := dk_45 (bs_at BX1_turn_213 1 rfl)
theorem dX1_turn_217 : decode cX1_turn 217 = .ok (.iload 7, 2) := dk_21 7 (bs_at BX1_turn_213 2 rfl)
theorem dX1_turn_219 : decode cX1_turn 219 = .ok (.invokevirtual 90, 3) := dk_182 0 90 (bs_at BX1_turn_213 3 rfl) rfl
theorem dX1_turn_222 : decode cX1_turn 222 = .ok (.istore 10, 2) := dk_54 10 (bs_at BX1_turn_213 4 rfl)
theorem dX1_turn_224 : decode cX1_turn 224 = .ok (.goto 53, 3) := dk_167 0 53 (bs_at BX1_turn_213 5 rfl) rfl
theorem dX1_turn_227 : decode cX1_turn 227 = .ok (.aload_n 0, 1) := dk_42 (bs_at BX1_turn_213 6 rfl)
theorem dX1_turn_228 : decode cX1_turn 228 = .ok (.getfield 14, 3) := dk_180 0 14 (bs_at BX1_turn_213 7 rfl) rfl
theorem dX1_turn_231 : decode cX1_turn 231 = .ok (.aload_n 3, 1) := dk_45 (bs_at BX1_turn_213 8 rfl)
theorem dX1_turn_232 : decode cX1_turn 232 = .ok (.iload 7, 2) := dk_21 7 (bs_at BX1_turn_213 9 rfl)
theorem dX1_turn_234 : decode cX1_turn 234 = .ok (.iload 9, 2) := dk_21 9 (bs_at BX1_turn_213 10 rfl)
theorem dX1_turn_236 : decode cX1_turn 236 = .ok (.invokevirtual 94, 3) := dk_182 0 94 (bs_at BX1_turn_213 11 rfl) rfl
theorem dX1_turn_239 : decode cX1_turn 239 = .ok (.istore 10, 2) := dk_54 10 (bs_at BX1_turn_213 12 rfl)
theorem dX1_turn_241 : decode cX1_turn 241 = .ok (.goto 36, 3) := dk_167 0 36 (bs_at BX1_turn_213 13 rfl) rfl
theorem dX1_turn_244 : decode cX1_turn 244 = .ok (.aload_n 0, 1) := dk_42 (bs_at BX1_turn_213 14 rfl)
theorem dX1_turn_245 : decode cX1_turn 245 = .ok (.getfield 14, 3) := dk_180 0 14 (bs_at BX1_turn_213 15 rfl) rfl
theorem dX1_turn_248 : decode cX1_turn 248 = .ok (.aload_n 3, 1) := dk_45 (bs_at BX1_turn_213 16 rfl)
theorem dX1_turn_249 : decode cX1_turn 249 = .ok (.iload 7, 2) := dk_21 7 (bs_at BX1_turn_213 17 rfl)
theorem dX1_turn_251 : decode cX1_turn 251 = .ok (.iload 9, 2) := dk_21 9 (bs_at BX1_turn_213 18 rfl)
theorem dX1_turn_253 : decode cX1_turn 253 = .ok (.invokevirtual 98, 3) := dk_182 0 98 (bs_at BX1_turn_213 19 rfl) rfl
theorem dX1_turn_256 : decode cX1_turn 256 = .ok (.istore 10, 2) := dk_54 10 (bs_at BX1_turn_213 20 rfl)
theorem dX1_turn_258 : decode cX1_turn 258 = .ok (.goto 19, 3) := dk_167 0 19 (bs_at BX1_turn_213 21 rfl) rfl
theorem dX1_turn_261 : decode cX1_turn 261 = .ok (.aload_n 0, 1) := dk_42 (bs_at BX1_turn_213 22 rfl)
theorem dX1_turn_262 : decode cX1_turn 262 = .ok (.getfield 14, 3) := dk_180 0 14 (bs_at BX1_turn_213 23 rfl) rfl
theorem BX1_turn_265 : bsegs (ByteArray.data cX1_turn |>.toList.drop 265) 265 [(265, [45]), (266, [182, 0, 101]), (269, [54, 10]), (271, [42]), (272, [21, 10]), (274, [181, 0, 47]), (277, [21, 10]), (279, [156, 0, 5]), (282, [3]), (283, [172]), (284, [25, 4]), (286, [21, 6]), (288, [182, 0, 105]), (291, [42]), (292, [89]), (293, [180, 0, 43]), (296, [4]), (297, [96]), (298, [181, 0, 43]), (301, [4]), (302, [172])] = true := by decide +kernel
theorem dX1_turn_265 : decode cX1_turn 265 = .ok (.aload_n 3, 1) := dk_45 (bs_at BX1_turn_265 0 rfl)
theorem dX1_turn_266 : decode cX1_turn 266 = .ok (.invokevirtual 101, 3) := dk_182 0 101 (bs_at BX1_turn_265 1 rfl) rfl
theorem dX1_turn_269 : decode cX1_turn 269 = .ok (.istore 10, 2) := dk_54 10 (bs_at BX1_turn_265 2 rfl)
theorem dX1_turn_271 : decode cX1_turn 271 = .ok (.aload_n 0, 1) := dk_42 (bs_at BX1_turn_265 3 rfl)
theorem dX1_turn_272 : decode cX1_turn 272 = .ok (.iload 10, 2) := dk_21 10 (bs_at BX1_turn_265 4 rfl)
theorem dX1_turn_274 : decode cX1_turn 274 = .ok (.putfield 47, 3) := dk_181 0 47 (bs_at BX1_turn_265 5 rfl) rfl
theorem dX1_turn_277 : decode cX1_turn 277 = .ok (.iload 10, 2) := dk_21 10 (bs_at BX1_turn_265 6 rfl)
theorem dX1_turn_279 : decode cX1_turn 279 = .ok (.ifCond .ge 5, 3) := dk_156 0 5 (bs_at BX1_turn_265 7 rfl) rfl
theorem dX1_turn_282 : decode cX1_turn 282 = .ok (.iconst 0, 1) := dk_3 (bs_at BX1_turn_265 8 rfl)
theorem dX1_turn_283 : decode cX1_turn 283 = .ok (.ireturn, 1) := dk_172 (bs_at BX1_turn_265 9 rfl)
theorem dX1_turn_284 : decode cX1_turn 284 = .ok (.aload 4, 2) := dk_25 4 (bs_at BX1_turn_265 10 rfl)
theorem dX1_turn_286 : decode cX1_turn 286 = .ok (.iload 6, 2) := dk_21 6 (bs_at BX1_turn_265 11 rfl)
theorem dX1_turn_288 : decode cX1_turn 288 = .ok (.invokevirtual 105, 3) := dk_182 0 105 (bs_at BX1_turn_265 12 rfl) rfl
theorem dX1_turn_291 : decode cX1_turn 291 = .ok (.aload_n 0, 1) := dk_42 (bs_at BX1_turn_265 13 rfl)
theorem dX1_turn_292 : decode cX1_turn 292 = .ok (.dup, 1) := dk_89 (bs_at BX1_turn_265 14 rfl)
theorem dX1_turn_293 : decode cX1_turn 293 = .ok (.getfield 43, 3) := dk_180 0 43 (bs_at BX1_turn_265 15 rfl) rfl
theorem dX1_turn_296 : decode cX1_turn 296 = .ok (.iconst 1, 1) := dk_4 (bs_at BX1_turn_265 16 rfl)
theorem dX1_turn_297 : decode cX1_turn 297 = .ok (.iadd, 1) := dk_96 (bs_at BX1_turn_265 17 rfl)
theorem dX1_turn_298 : decode cX1_turn 298 = .ok (.putfield 43, 3) := dk_181 0 43 (bs_at BX1_turn_265 18 rfl) rfl
theorem dX1_turn_301 : decode cX1_turn 301 = .ok (.iconst 1, 1) := dk_4 (bs_at BX1_turn_265 19 rfl)
theorem dX1_turn_302 : decode cX1_turn 302 = .ok (.ireturn, 1) := dk_172 (bs_at BX1_turn_265 20 rfl)
theorem ggX1_look_X9_has : GoodIn wsX1_look wsX9_has := gi_ch ch_X1_look ch_X9_has (by decide +kernel)
set_option maxRecDepth 20000 in
theorem gX1_look_X9_has_n115 : GoodIn wsX1_look (wsX9_has) := ggX1_look_X9_has
theorem ggX1_look_X9_fact : GoodIn wsX1_look wsX9_fact := gi_ch ch_X1_look ch_X9_fact (by decide +kernel)
set_option maxRecDepth 20000 in
theorem gX1_look_X9_fact_n119 : GoodIn wsX1_look (wsX9_fact) := ggX1_look_X9_fact
theorem ggX1_look_X9_sings : GoodIn wsX1_look wsX9_sings := gi_ch ch_X1_look ch_X9_sings (by decide +kernel)
set_option maxRecDepth 20000 in
theorem gX1_look_X9_sings_n122 : GoodIn wsX1_look (wsX9_sings) := ggX1_look_X9_sings
theorem ggX1_turn_X1_look : GoodIn wsX1_turn wsX1_look := gi_ch ch_X1_turn ch_X1_look (by decide +kernel)
theorem gX1_turn_X1_look : GoodIn wsX1_turn (wsV RX1 73 RX1 yX1_look wsX1_look) := gi_ch ch_X1_turn (ch_v [590, 591, 40, 149] rfl ch_X1_look) (by decide +kernel)
theorem ggX1_turn_X7_head : GoodIn wsX1_turn wsX7_head := gi_ch ch_X1_turn ch_X7_head (by decide +kernel)
set_option maxRecDepth 20000 in
theorem gX1_turn_X7_head_n65 : GoodIn wsX1_turn (wsX7_head) := ggX1_turn_X7_head
theorem ggX1_turn_X2_draft : GoodIn wsX1_turn wsX2_draft := gi_ch ch_X1_turn ch_X2_draft (by decide +kernel)
set_option maxRecDepth 20000 in
theorem gX1_turn_X2_draft_n87 : GoodIn wsX1_turn (wsX2_draft) := ggX1_turn_X2_draft
theorem ggX1_turn_X2_keep : GoodIn wsX1_turn wsX2_keep := gi_ch ch_X1_turn ch_X2_keep (by decide +kernel)
set_option maxRecDepth 20000 in
theorem gX1_turn_X2_keep_n105 : GoodIn wsX1_turn (wsX2_keep) := ggX1_turn_X2_keep
theorem ggX1_turn_X10_kindle : GoodIn wsX1_turn wsX10_kindle := gi_ch ch_X1_turn ch_X10_kindle (by decide +kernel)
set_option maxRecDepth 20000 in
theorem gX1_turn_X10_kindle_n90 : GoodIn wsX1_turn (wsX10_kindle) := ggX1_turn_X10_kindle
theorem ggX1_turn_X10_quench : GoodIn wsX1_turn wsX10_quench := gi_ch ch_X1_turn ch_X10_quench (by decide +kernel)
set_option maxRecDepth 20000 in
theorem gX1_turn_X10_quench_n94 : GoodIn wsX1_turn (wsX10_quench) := ggX1_turn_X10_quench
theorem ggX1_turn_X10_supply : GoodIn wsX1_turn wsX10_supply := gi_ch ch_X1_turn ch_X10_supply (by decide +kernel)
set_option maxRecDepth 20000 in
theorem gX1_turn_X10_supply_n98 : GoodIn wsX1_turn (wsX10_supply) := ggX1_turn_X10_supply
theorem ggX1_turn_X10_nextHour : GoodIn wsX1_turn wsX10_nextHour := gi_ch ch_X1_turn ch_X10_nextHour (by decide +kernel)
set_option maxRecDepth 20000 in
theorem gX1_turn_X10_nextHour_n101 : GoodIn wsX1_turn (wsX10_nextHour) := ggX1_turn_X10_nextHour
theorem ggX1_turn_X3_run : GoodIn wsX1_turn wsX3_run := gi_ch ch_X1_turn ch_X3_run (by decide +kernel)
set_option maxRecDepth 20000 in
theorem gX1_turn_X3_run_n79 : GoodIn wsX1_turn (wsX3_run) := ggX1_turn_X3_run
set_option maxRecDepth 100000 in
noncomputable def E_w_look_j185 (v_1678 : Int32) (rec_1844 : Int32 → (Nat → Int32) → ((Nat → Int32))) (f_1885 : Nat → Int32) : (Nat → Int32) :=
  Lt (v_1678 + Int32.ofInt 1 : Int32) (fun x_1888 => rec_1844 x_1888 f_1885)
set_option maxRecDepth 100000 in
noncomputable def E_w_look_l80 (n : Int32) (f1 : Nat → Int32) (f2 : Nat → Int32) (rec_1844 : Int32 → (Nat → Int32) → ((Nat → Int32))) (v_1678 : Int32) (f_1679 : Nat → Int32) : (Nat → Int32) :=
  if 8 ≤ v_1678 then ((f_1679 : (Nat → Int32))) else (Lt (E_w_has v_1678 n) (fun r_1889 => if r_1889 = 1 then (Lt (5 + v_1678 : Int32) (fun x_1894 => Lt (E_w_fact v_1678 5 f1) (fun r_1896 => Lt (upd f_1679 (x_1894 : Int32).toNatClampNeg r_1896 : Nat → Int32) (fun f_1898 => Lt (13 + v_1678 : Int32) (fun x_1899 => Lt (E_w_fact v_1678 2 f1) (fun r_1901 => Lt (upd f_1898 (x_1899 : Int32).toNatClampNeg r_1901 : Nat → Int32) (fun f_1903 => Lt (E_w_fact v_1678 0 f1) (fun r_1904 => Lt (21 + r_1904 : Int32) (fun x_1906 => Lt (E_w_sings v_1678 f1 f2) (fun r_1908 => if r_1908 = 0 then (E_w_look_j185 v_1678 rec_1844 f_1903) else (if x_1906 < 21 then (E_w_look_j185 v_1678 rec_1844 f_1903) else (if 28 ≤ x_1906 then (E_w_look_j185 v_1678 rec_1844 f_1903) else (Lt (f_1903 (x_1906 : Int32).toNatClampNeg : Int32) (fun x_1914 => Lt (x_1914 + 1 : Int32) (fun x_1915 => Lt (upd f_1903 (x_1906 : Int32).toNatClampNeg x_1915 : Nat → Int32) (fun f_1916 => E_w_look_j185 v_1678 rec_1844 f_1916)))))))))))))))) else (Lt (5 + v_1678 : Int32) (fun x_1917 => Lt (upd f_1679 (x_1917 : Int32).toNatClampNeg (-1) : Nat → Int32) (fun f_1919 => Lt (13 + v_1678 : Int32) (fun x_1920 => Lt (upd f_1919 (x_1920 : Int32).toNatClampNeg (-1) : Nat → Int32) (fun f_1922 => Lt (E_w_fact v_1678 0 f1) (fun r_1923 => Lt (21 + r_1923 : Int32) (fun x_1925 => E_w_look_j185 v_1678 rec_1844 f_1922)))))))))
set_option maxRecDepth 100000 in
noncomputable def E_w_look_l56 (n : Int32) (f1 : Nat → Int32) (f2 : Nat → Int32) (rec_1347 : Int32 → (Nat → Int32) → ((Nat → Int32))) (v_1335 : Int32) (f_1336 : Nat → Int32) : (Nat → Int32) :=
  if 7 ≤ v_1335 then (Lp (α := Int32 → (Nat → Int32) → ((Nat → Int32))) (E_w_look_l80 n f1 f2) (fun _ _ => ((fun _ => 0) : Nat → Int32)) ((9 - (0 : Int32).toInt : Int).toNat + 1) 0 f_1336) else (Lt (21 + v_1335 : Int32) (fun x_1927 => Lt (upd f_1336 (x_1927 : Int32).toNatClampNeg 0 : Nat → Int32) (fun f_1928 => Lt (v_1335 + Int32.ofInt 1 : Int32) (fun x_1929 => rec_1347 x_1929 f_1928))))
set_option maxRecDepth 100000 in
noncomputable def E_w_look (dn : Int32) (me : Int32) (fv : Nat → Int32) (n : Int32) (fi : Int32) (f1 : Nat → Int32) (f2 : Nat → Int32) : (Nat → Int32) :=
  Lt (f2 (0 : Int32).toNatClampNeg : Int32) (fun x_1307 => Lt (upd fv (0 : Int32).toNatClampNeg x_1307 : Nat → Int32) (fun f_1308 => Lt (f2 (1 : Int32).toNatClampNeg : Int32) (fun x_1309 => Lt (upd f_1308 (1 : Int32).toNatClampNeg x_1309 : Nat → Int32) (fun f_1310 => Lt (upd f_1310 (2 : Int32).toNatClampNeg fi : Nat → Int32) (fun f_1311 => Lt (upd f_1311 (3 : Int32).toNatClampNeg dn : Nat → Int32) (fun f_1312 => Lt (upd f_1312 (4 : Int32).toNatClampNeg me : Nat → Int32) (fun f_1313 => Lp (α := Int32 → (Nat → Int32) → ((Nat → Int32))) (E_w_look_l56 n f1 f2) (fun _ _ => ((fun _ => 0) : Nat → Int32)) ((8 - (0 : Int32).toInt : Int).toNat + 1) 0 f_1313)))))))
set_option maxHeartbeats 4000000 in
set_option maxRecDepth 100000 in
theorem w_look (l : Launch) (D : va_G) (K : Nat → ClassId) (e0 : Nat) (t0 : Nat) (e_0 : Value) (e_1 : Value) (v0 : Nat) (e_3 : Value) (e_4 : Value) (dn : Int32) (me : Int32) (e_7 : Value) (fv : Nat → Int32) (t1 : Nat) (k_1 : Value) (t2 : Nat) (k_3 : Value) (n : Int32) (k_5 : Value) (k_6 : Value) (fi : Int32) (k_8 : Value) (k_9 : Value) (f1 : Nat → Int32) (f2 : Nat → Int32) (sz : Nat) (zn : 0 ≤ n.toInt ∧ n.toInt ≤ 8) : Met l yX1_look wsX1_look ({ frames := 2, cells := 0, slots := 0, locals := 44 }) (va_Pc [.ref e0, .ref t0] (Pre D K [(e0, .inr (1, [e_0, e_1, .ref v0, e_3, e_4, .int dn, .int me, e_7])), (v0, .inl (K 0, 28, .inl fv)), (t0, .inr (9, [.ref t1, k_1, .ref t2, k_3, .int n, k_5, k_6, .int fi, k_8, k_9])), (t1, .inl (K 0, 56, .inl f1)), (t2, .inl (K 0, 6, .inl f2))] sz)) (va_Qv (S := Su) (fun (u : Su) => ((u.2.1 0) = E_w_look dn me fv n fi f1 f2) ∧ True) (fun u t => Wd D (va_A [(e0, .inr (1, [e_0, e_1, .ref v0, e_3, e_4, .int dn, .int me, e_7])), (v0, .inl (K 0, 28, .inl fv)), (t0, .inr (9, [.ref t1, k_1, .ref t2, k_3, .int n, k_5, k_6, .int fi, k_8, k_9])), (t1, .inl (K 0, 56, .inl f1)), (t2, .inl (K 0, 6, .inl f2))] sz) ((fun u => [(e0, .inr (1, [e_0, e_1, .ref v0, e_3, e_4, .int dn, .int me, e_7])), (v0, .inl (K 0, 28, .inl (u.2.1 0))), (t0, .inr (9, [.ref t1, k_1, .ref t2, k_3, .int n, k_5, k_6, .int fi, k_8, k_9])), (t1, .inl (K 0, 56, .inl f1)), (t2, .inl (K 0, 6, .inl f2))]) u) t) (va_A [(e0, .inr (1, [e_0, e_1, .ref v0, e_3, e_4, .int dn, .int me, e_7])), (v0, .inl (K 0, 28, .inl fv)), (t0, .inr (9, [.ref t1, k_1, .ref t2, k_3, .int n, k_5, k_6, .int fi, k_8, k_9])), (t1, .inl (K 0, 56, .inl f1)), (t2, .inl (K 0, 6, .inl f2))] sz)) 0 0 (va_A [(e0, .inr (1, [e_0, e_1, .ref v0, e_3, e_4, .int dn, .int me, e_7])), (v0, .inl (K 0, 28, .inl fv)), (t0, .inr (9, [.ref t1, k_1, .ref t2, k_3, .int n, k_5, k_6, .int fi, k_8, k_9])), (t1, .inl (K 0, 56, .inl f1)), (t2, .inl (K 0, 6, .inl f2))] sz) := by
  refine Met.ofW (cc := cX1_look) (maxL := 5) (ret := none) (by decide +kernel) rfl ?_
  intro p e s m args below meth c s₁ B hml hv
  obtain ⟨rfl, hsz, hP, hK, hD0, hN⟩ := hv
  have hx := B.exec
  have hb := B.bytes
  have hr := B.returns
  have hts := atoms_spec (ws := wsX1_look) B.pre
  have hown : s.vm.findClass RX1 = some m.cls := findClass_of_methodNamed B.named
  have hlocks := B.notSynchronized
  subst hsz
  have hD := hD0.self (sz := s.heap.size)
  generalize hAe : va_A [(e0, .inr (1, [e_0, e_1, .ref v0, e_3, e_4, .int dn, .int me, e_7])), (v0, .inl (K 0, 28, .inl fv)), (t0, .inr (9, [.ref t1, k_1, .ref t2, k_3, .int n, k_5, k_6, .int fi, k_8, k_9])), (t1, .inl (K 0, 56, .inl f1)), (t2, .inl (K 0, 6, .inl f2))] s.heap.size = A at hD ⊢
  have hA : ∀ q : Nat, s.heap.size ≤ q → A q := fun q h => by rw [← hAe]; exact Or.inr h
  clear hAe
  have hS : va_S A s.heap s.heap [] := va_S.rf
  replace hP : va_P D vwCl [(e0, .inr (1, [e_0, e_1, .ref v0, e_3, e_4, .int dn, .int me, e_7])), (v0, .inl (K 0, 28, .inl fv)), (t0, .inr (9, [.ref t1, k_1, .ref t2, k_3, .int n, k_5, k_6, .int fi, k_8, k_9])), (t1, .inl (K 0, 56, .inl f1)), (t2, .inl (K 0, 6, .inl f2))] s.heap := hP
  have hl := lv_entry [.ref e0, .ref t0] (n := 5) (Nat.le_of_ble_eq_true rfl)
  rw [lg_entry_eq]
  generalize (lg_sl [.ref e0, .ref t0] ++ List.replicate (5 - (lg_sl [.ref e0, .ref t0]).length) Slot.unset).toArray = ls at hl ⊢
  have hl : lv_has ls 5 [(0, .ref e0), (1, .ref t0)] := hl
  have hw1 : ∀ w ∈ wsX10, w ∈ wsX1_look := fun w h => (List.mem_cons_of_mem _ (List.mem_append_left _ (List.mem_append_right _ h)))
  have hw9 : ∀ w ∈ wsX90, w ∈ wsX1_look := fun w h => (List.mem_cons_of_mem _ (List.mem_append_right _ h))
  generalize hQ : MQ below _ _ s _ _ _ = Q
  have hE := E_w_look.eq_def dn me fv n fi f1 f2
  refine lv_aload_n hx hb dX1_look_0 rfl (lv_at hl 0 rfl) ?_
  refine va_get (ci := 1) (v := .ref v0) (C := RX1) (T := TX1) (N := 8) hx hb hts hw1 hown hK hP 0 rfl rfl 2 (by decide +kernel) (hts _ mm_X1_look_286) (fun _ h9 => h9) rfl dX1_look_1 ?_
  refine lv_iconst (v := 0) hx hb dX1_look_4 (by decide +kernel) ?_
  refine lv_aload_n hx hb dX1_look_5 rfl (lv_at hl 1 rfl) ?_
  refine va_getN (ci := 9) (v := .ref t2) (C := RX9) (T := TX9) (N := 10) hx hb hts hw9 hown hK hP 2 rfl rfl 2 (by decide +kernel) (nst_use hN 100 rfl) (fun _ h9 => h9) rfl dX1_look_6 ?_
  refine lv_iconst (v := 0) hx hb dX1_look_9 (by decide +kernel) ?_
  refine va_iald hx hb hK hP 4 0 rfl rfl (i_in (x := 0) rfl (by omega)) dX1_look_10 ?_
  refine lv_topi (fun x_1307 ex_1307 => ?_)
  replace hE := hE.trans (Lt_in ex_1307)
  refine va_iast hx hb hK hP hD hS 1 0 rfl rfl (i_in (x := 0) rfl (by omega)) dX1_look_11 (fun H locs hP0 hD0 hS0 => ?_)
  clear hP hD hS
  have hP := hP0
  have hD := hD0
  have hS := hS0
  clear hP0 hD0 hS0
  generalize hf_1308 : (upd fv (0 : Int32).toNatClampNeg x_1307) = f_1308 at hP hD
  replace hE := hE.trans (Lt_in hf_1308.symm)
  replace hP : va_P D vwCl [(e0, .inr (1, [e_0, e_1, .ref v0, e_3, e_4, .int dn, .int me, e_7])), (v0, .inl (K 0, 28, .inl f_1308)), (t0, .inr (9, [.ref t1, k_1, .ref t2, k_3, .int n, k_5, k_6, .int fi, k_8, k_9])), (t1, .inl (K 0, 56, .inl f1)), (t2, .inl (K 0, 6, .inl f2))] H := hP
  replace hD : va_D A [(e0, .inr (1, [e_0, e_1, .ref v0, e_3, e_4, .int dn, .int me, e_7])), (v0, .inl (K 0, 28, .inl f_1308)), (t0, .inr (9, [.ref t1, k_1, .ref t2, k_3, .int n, k_5, k_6, .int fi, k_8, k_9])), (t1, .inl (K 0, 56, .inl f1)), (t2, .inl (K 0, 6, .inl f2))] := hD
  refine lv_aload_n hx hb dX1_look_12 rfl (lv_at hl 0 rfl) ?_
  refine va_get (ci := 1) (v := .ref v0) (C := RX1) (T := TX1) (N := 8) hx hb hts hw1 hown hK hP 0 rfl rfl 2 (by decide +kernel) (hts _ mm_X1_look_286) (fun _ h9 => h9) rfl dX1_look_13 ?_
  refine lv_iconst (v := 1) hx hb dX1_look_16 (by decide +kernel) ?_
  refine lv_aload_n hx hb dX1_look_17 rfl (lv_at hl 1 rfl) ?_
  refine va_getN (ci := 9) (v := .ref t2) (C := RX9) (T := TX9) (N := 10) hx hb hts hw9 hown hK hP 2 rfl rfl 2 (by decide +kernel) (nst_use hN 100 rfl) (fun _ h9 => h9) rfl dX1_look_18 ?_
  refine lv_iconst (v := 1) hx hb dX1_look_21 (by decide +kernel) ?_
  refine va_iald hx hb hK hP 4 0 rfl rfl (i_in (x := 1) rfl (by omega)) dX1_look_22 ?_
  refine lv_topi (fun x_1309 ex_1309 => ?_)
  replace hE := hE.trans (Lt_in ex_1309)
  refine va_iast hx hb hK hP hD hS 1 0 rfl rfl (i_in (x := 1) rfl (by omega)) dX1_look_23 (fun H locs hP0 hD0 hS0 => ?_)
  clear hP hD hS
  have hP := hP0
  have hD := hD0
  have hS := hS0
  clear hP0 hD0 hS0
  generalize hf_1310 : (upd f_1308 (1 : Int32).toNatClampNeg x_1309) = f_1310 at hP hD
  replace hE := hE.trans (Lt_in hf_1310.symm)
  replace hP : va_P D vwCl [(e0, .inr (1, [e_0, e_1, .ref v0, e_3, e_4, .int dn, .int me, e_7])), (v0, .inl (K 0, 28, .inl f_1310)), (t0, .inr (9, [.ref t1, k_1, .ref t2, k_3, .int n, k_5, k_6, .int fi, k_8, k_9])), (t1, .inl (K 0, 56, .inl f1)), (t2, .inl (K 0, 6, .inl f2))] H := hP
  replace hD : va_D A [(e0, .inr (1, [e_0, e_1, .ref v0, e_3, e_4, .int dn, .int me, e_7])), (v0, .inl (K 0, 28, .inl f_1310)), (t0, .inr (9, [.ref t1, k_1, .ref t2, k_3, .int n, k_5, k_6, .int fi, k_8, k_9])), (t1, .inl (K 0, 56, .inl f1)), (t2, .inl (K 0, 6, .inl f2))] := hD
  refine lv_aload_n hx hb dX1_look_24 rfl (lv_at hl 0 rfl) ?_
  refine va_get (ci := 1) (v := .ref v0) (C := RX1) (T := TX1) (N := 8) hx hb hts hw1 hown hK hP 0 rfl rfl 2 (by decide +kernel) (hts _ mm_X1_look_286) (fun _ h9 => h9) rfl dX1_look_25 ?_
  refine lv_iconst (v := 2) hx hb dX1_look_28 (by decide +kernel) ?_
  refine lv_aload_n hx hb dX1_look_29 rfl (lv_at hl 1 rfl) ?_
  refine va_getN (ci := 9) (v := .int fi) (C := RX9) (T := TX9) (N := 10) hx hb hts hw9 hown hK hP 2 rfl rfl 7 (by decide +kernel) (nst_use hN 112 rfl) (fun _ h9 => h9) rfl dX1_look_30 ?_
  refine va_iast hx hb hK hP hD hS 1 0 rfl rfl (i_in (x := 2) rfl (by omega)) dX1_look_33 (fun H locs hP0 hD0 hS0 => ?_)
  clear hP hD hS
  have hP := hP0
  have hD := hD0
  have hS := hS0
  clear hP0 hD0 hS0
  generalize hf_1311 : (upd f_1310 (2 : Int32).toNatClampNeg fi) = f_1311 at hP hD
  replace hE := hE.trans (Lt_in hf_1311.symm)
  replace hP : va_P D vwCl [(e0, .inr (1, [e_0, e_1, .ref v0, e_3, e_4, .int dn, .int me, e_7])), (v0, .inl (K 0, 28, .inl f_1311)), (t0, .inr (9, [.ref t1, k_1, .ref t2, k_3, .int n, k_5, k_6, .int fi, k_8, k_9])), (t1, .inl (K 0, 56, .inl f1)), (t2, .inl (K 0, 6, .inl f2))] H := hP
  replace hD : va_D A [(e0, .inr (1, [e_0, e_1, .ref v0, e_3, e_4, .int dn, .int me, e_7])), (v0, .inl (K 0, 28, .inl f_1311)), (t0, .inr (9, [.ref t1, k_1, .ref t2, k_3, .int n, k_5, k_6, .int fi, k_8, k_9])), (t1, .inl (K 0, 56, .inl f1)), (t2, .inl (K 0, 6, .inl f2))] := hD
  refine lv_aload_n hx hb dX1_look_34 rfl (lv_at hl 0 rfl) ?_
  refine va_get (ci := 1) (v := .ref v0) (C := RX1) (T := TX1) (N := 8) hx hb hts hw1 hown hK hP 0 rfl rfl 2 (by decide +kernel) (hts _ mm_X1_look_286) (fun _ h9 => h9) rfl dX1_look_35 ?_
  refine lv_iconst (v := 3) hx hb dX1_look_38 (by decide +kernel) ?_
  refine lv_aload_n hx hb dX1_look_39 rfl (lv_at hl 0 rfl) ?_
  refine va_get (ci := 1) (v := .int dn) (C := RX1) (T := TX1) (N := 8) hx hb hts hw1 hown hK hP 0 rfl rfl 5 (by decide +kernel) (hts _ mm_X1_look_289) (fun _ h9 => h9) rfl dX1_look_40 ?_
  refine va_iast hx hb hK hP hD hS 1 0 rfl rfl (i_in (x := 3) rfl (by omega)) dX1_look_43 (fun H locs hP0 hD0 hS0 => ?_)
  clear hP hD hS
  have hP := hP0
  have hD := hD0
  have hS := hS0
  clear hP0 hD0 hS0
  generalize hf_1312 : (upd f_1311 (3 : Int32).toNatClampNeg dn) = f_1312 at hP hD
  replace hE := hE.trans (Lt_in hf_1312.symm)
  replace hP : va_P D vwCl [(e0, .inr (1, [e_0, e_1, .ref v0, e_3, e_4, .int dn, .int me, e_7])), (v0, .inl (K 0, 28, .inl f_1312)), (t0, .inr (9, [.ref t1, k_1, .ref t2, k_3, .int n, k_5, k_6, .int fi, k_8, k_9])), (t1, .inl (K 0, 56, .inl f1)), (t2, .inl (K 0, 6, .inl f2))] H := hP
  replace hD : va_D A [(e0, .inr (1, [e_0, e_1, .ref v0, e_3, e_4, .int dn, .int me, e_7])), (v0, .inl (K 0, 28, .inl f_1312)), (t0, .inr (9, [.ref t1, k_1, .ref t2, k_3, .int n, k_5, k_6, .int fi, k_8, k_9])), (t1, .inl (K 0, 56, .inl f1)), (t2, .inl (K 0, 6, .inl f2))] := hD
  refine lv_aload_n hx hb dX1_look_44 rfl (lv_at hl 0 rfl) ?_
  refine va_get (ci := 1) (v := .ref v0) (C := RX1) (T := TX1) (N := 8) hx hb hts hw1 hown hK hP 0 rfl rfl 2 (by decide +kernel) (hts _ mm_X1_look_286) (fun _ h9 => h9) rfl dX1_look_45 ?_
  refine lv_iconst (v := 4) hx hb dX1_look_48 (by decide +kernel) ?_
  refine lv_aload_n hx hb dX1_look_49 rfl (lv_at hl 0 rfl) ?_
  refine va_get (ci := 1) (v := .int me) (C := RX1) (T := TX1) (N := 8) hx hb hts hw1 hown hK hP 0 rfl rfl 6 (by decide +kernel) (hts _ mm_X1_look_290) (fun _ h9 => h9) rfl dX1_look_50 ?_
  refine va_iast hx hb hK hP hD hS 1 0 rfl rfl (i_in (x := 4) rfl (by omega)) dX1_look_53 (fun H locs hP0 hD0 hS0 => ?_)
  clear hP hD hS
  have hP := hP0
  have hD := hD0
  have hS := hS0
  clear hP0 hD0 hS0
  generalize hf_1313 : (upd f_1312 (4 : Int32).toNatClampNeg me) = f_1313 at hP hD
  replace hE := hE.trans (Lt_in hf_1313.symm)
  replace hP : va_P D vwCl [(e0, .inr (1, [e_0, e_1, .ref v0, e_3, e_4, .int dn, .int me, e_7])), (v0, .inl (K 0, 28, .inl f_1313)), (t0, .inr (9, [.ref t1, k_1, .ref t2, k_3, .int n, k_5, k_6, .int fi, k_8, k_9])), (t1, .inl (K 0, 56, .inl f1)), (t2, .inl (K 0, 6, .inl f2))] H := hP
  replace hD : va_D A [(e0, .inr (1, [e_0, e_1, .ref v0, e_3, e_4, .int dn, .int me, e_7])), (v0, .inl (K 0, 28, .inl f_1313)), (t0, .inr (9, [.ref t1, k_1, .ref t2, k_3, .int n, k_5, k_6, .int fi, k_8, k_9])), (t1, .inl (K 0, 56, .inl f1)), (t2, .inl (K 0, 6, .inl f2))] := hD
  refine lv_iconst (v := 0) hx hb dX1_look_54 (by decide +kernel) ?_
  refine lv_istore_n (lv' := [(2, .int 0), (0, .ref e0), (1, .ref t0)]) hx hb dX1_look_55 rfl hl (by decide +kernel) rfl (fun ls hl => ?_)
  have lp_1347 : ∀ (nn_ : Nat) (v_1335 : Int32) (f_1336 : Nat → Int32) (hv_1335 : 0 ≤ v_1335.toInt ∧ v_1335.toInt ≤ 7) (hn : (8 - v_1335.toInt : Int).toNat < nn_) (hE : E_w_look dn me fv n fi f1 f2 = Lp (α := Int32 → (Nat → Int32) → ((Nat → Int32))) (E_w_look_l56 n f1 f2) (fun _ _ => ((fun _ => 0) : Nat → Int32)) nn_ v_1335 f_1336) (H : Heap) (locs : List Loc) (hP : va_P D vwCl [(e0, .inr (1, [e_0, e_1, .ref v0, e_3, e_4, .int dn, .int me, e_7])), (v0, .inl (K 0, 28, .inl f_1336)), (t0, .inr (9, [.ref t1, k_1, .ref t2, k_3, .int n, k_5, k_6, .int fi, k_8, k_9])), (t1, .inl (K 0, 56, .inl f1)), (t2, .inl (K 0, 6, .inl f2))] H) (hD : va_D A [(e0, .inr (1, [e_0, e_1, .ref v0, e_3, e_4, .int dn, .int me, e_7])), (v0, .inl (K 0, 28, .inl f_1336)), (t0, .inr (9, [.ref t1, k_1, .ref t2, k_3, .int n, k_5, k_6, .int fi, k_8, k_9])), (t1, .inl (K 0, 56, .inl f1)), (t2, .inl (K 0, 6, .inl f2))]) (hS : va_S A s.heap H locs) (ls : Array Slot) (hl : lv_has ls 5 [(2, .int v_1335), (0, .ref e0), (1, .ref t0)]), W p l e ({ frames := 2, cells := 0, slots := 0, locals := 44 }) s m (([.ref e0, .ref t0] : List Value).toArray) below meth c H locs 0 0 Q (F0 m 56 ls []) := by
    clear hE hP hD hS hl
    intro nn_
    induction nn_ with
    | zero =>
      intro v_1335 f_1336 hv_1335 hn hE H locs hP hD hS ls hl
      exact absurd hn (Nat.not_lt_zero _)
    | succ nn_ ih_1348 =>
      intro v_1335 f_1336 hv_1335 hn hE H locs hP hD hS ls hl
      replace hE : E_w_look dn me fv n fi f1 f2 = E_w_look_l56 n f1 f2 (Lp (α := Int32 → (Nat → Int32) → ((Nat → Int32))) (E_w_look_l56 n f1 f2) (fun _ _ => ((fun _ => 0) : Nat → Int32)) nn_) v_1335 f_1336 := hE
      obtain ⟨rec_1347, hrec_1347⟩ : ∃ z9, z9 = Lp (α := Int32 → (Nat → Int32) → ((Nat → Int32))) (E_w_look_l56 n f1 f2) (fun _ _ => ((fun _ => 0) : Nat → Int32)) nn_ := ⟨_, rfl⟩
      rw [← hrec_1347] at hE
      replace hE := hE.trans (E_w_look_l56.eq_def _ _ _ _ _ _)
      refine lv_iload_n hx hb dX1_look_56 rfl (lv_at hl 0 rfl) ?_
      refine lv_bipush (v := 7) hx hb dX1_look_57 (by decide +kernel) ?_
      refine lv_icmp_ge (tgt := 78) hx hb dX1_look_59 (by decide +kernel) (fun c_1349 => ?_) (fun c_1349 => ?_)
      · have c_1349i := i_le (x := 7) (y := v_1335.toInt) rfl rfl c_1349
        replace hE := hE.trans (if_pos c_1349)
        refine lv_iconst (v := 0) hx hb dX1_look_78 (by decide +kernel) ?_
        refine lv_istore_n (lv' := [(2, .int 0), (0, .ref e0), (1, .ref t0)]) hx hb dX1_look_79 rfl hl (by decide +kernel) rfl (fun ls hl => ?_)
        have lp_1844 : ∀ (nn_ : Nat) (v_1678 : Int32) (f_1679 : Nat → Int32) (hv_1678 : 0 ≤ v_1678.toInt ∧ v_1678.toInt ≤ 8) (hn : (9 - v_1678.toInt : Int).toNat < nn_) (hE : E_w_look dn me fv n fi f1 f2 = Lp (α := Int32 → (Nat → Int32) → ((Nat → Int32))) (E_w_look_l80 n f1 f2) (fun _ _ => ((fun _ => 0) : Nat → Int32)) nn_ v_1678 f_1679) (H : Heap) (locs : List Loc) (hP : va_P D vwCl [(e0, .inr (1, [e_0, e_1, .ref v0, e_3, e_4, .int dn, .int me, e_7])), (v0, .inl (K 0, 28, .inl f_1679)), (t0, .inr (9, [.ref t1, k_1, .ref t2, k_3, .int n, k_5, k_6, .int fi, k_8, k_9])), (t1, .inl (K 0, 56, .inl f1)), (t2, .inl (K 0, 6, .inl f2))] H) (hD : va_D A [(e0, .inr (1, [e_0, e_1, .ref v0, e_3, e_4, .int dn, .int me, e_7])), (v0, .inl (K 0, 28, .inl f_1679)), (t0, .inr (9, [.ref t1, k_1, .ref t2, k_3, .int n, k_5, k_6, .int fi, k_8, k_9])), (t1, .inl (K 0, 56, .inl f1)), (t2, .inl (K 0, 6, .inl f2))]) (hS : va_S A s.heap H locs) (ls : Array Slot) (hl : lv_has ls 5 [(2, .int v_1678), (0, .ref e0), (1, .ref t0)]), W p l e ({ frames := 2, cells := 0, slots := 0, locals := 44 }) s m (([.ref e0, .ref t0] : List Value).toArray) below meth c H locs 0 0 Q (F0 m 80 ls []) := by
          clear hE hP hD hS hl
          intro nn_
          induction nn_ with
          | zero =>
            intro v_1678 f_1679 hv_1678 hn hE H locs hP hD hS ls hl
            exact absurd hn (Nat.not_lt_zero _)
          | succ nn_ ih_1845 =>
            intro v_1678 f_1679 hv_1678 hn hE H locs hP hD hS ls hl
            replace hE : E_w_look dn me fv n fi f1 f2 = E_w_look_l80 n f1 f2 (Lp (α := Int32 → (Nat → Int32) → ((Nat → Int32))) (E_w_look_l80 n f1 f2) (fun _ _ => ((fun _ => 0) : Nat → Int32)) nn_) v_1678 f_1679 := hE
            obtain ⟨rec_1844, hrec_1844⟩ : ∃ z9, z9 = Lp (α := Int32 → (Nat → Int32) → ((Nat → Int32))) (E_w_look_l80 n f1 f2) (fun _ _ => ((fun _ => 0) : Nat → Int32)) nn_ := ⟨_, rfl⟩
            rw [← hrec_1844] at hE
            replace hE := hE.trans (E_w_look_l80.eq_def _ _ _ _ _ _)
            refine lv_iload_n hx hb dX1_look_80 rfl (lv_at hl 0 rfl) ?_
            refine lv_bipush (v := 8) hx hb dX1_look_81 (by decide +kernel) ?_
            refine lv_icmp_ge (tgt := 191) hx hb dX1_look_83 (by decide +kernel) (fun c_1846 => ?_) (fun c_1846 => ?_)
            · have c_1846i := i_le (x := 8) (y := v_1678.toInt) rfl rfl c_1846
              replace hE := hE.trans (if_pos c_1846)
              rw [← hQ]
              have hP9 := hP.sub (ws' := [(e0, .inr (1, [e_0, e_1, .ref v0, e_3, e_4, .int dn, .int me, e_7])), (v0, .inl (K 0, 28, .inl f_1679)), (t0, .inr (9, [.ref t1, k_1, .ref t2, k_3, .int n, k_5, k_6, .int fi, k_8, k_9])), (t1, .inl (K 0, 56, .inl f1)), (t2, .inl (K 0, 6, .inl f2))]) [0, 1, 2, 3, 4] rfl
              have hD9 := hD.sub (ws' := [(e0, .inr (1, [e_0, e_1, .ref v0, e_3, e_4, .int dn, .int me, e_7])), (v0, .inl (K 0, 28, .inl f_1679)), (t0, .inr (9, [.ref t1, k_1, .ref t2, k_3, .int n, k_5, k_6, .int fi, k_8, k_9])), (t1, .inl (K 0, 56, .inl f1)), (t2, .inl (K 0, 6, .inl f2))]) [0, 1, 2, 3, 4] (by decide +kernel) rfl
              exact W.vret hx hb hr (fun t ht hW => ⟨⟨((fun _ => 0, fun i => match i with | _ => f_1679, fun _ => fun _ => 0, fun _ => 0, fun _ => 0, fun _ => fun _ => none) : Su), rfl, ⟨hE.symm, trivial⟩, (⟨by rw [ht]; exact hP9, hD9⟩ : Wd D A _ t)⟩, hS.F ht⟩) hS.2.2 dX1_look_191
            · have c_1846i := i_nle (x := 8) (y := v_1678.toInt) rfl rfl c_1846
              replace hE := hE.trans (if_neg c_1846)
              refine lv_aload_n hx hb dX1_look_86 rfl (lv_at hl 2 rfl) ?_
              refine lv_iload_n hx hb dX1_look_87 rfl (lv_at hl 0 rfl) ?_
              have j_1887 : ∀ (f_1885 : Nat → Int32) (hE : E_w_look dn me fv n fi f1 f2 = E_w_look_j185 v_1678 rec_1844 f_1885) (H : Heap) (locs : List Loc) (hP : va_P D vwCl [(e0, .inr (1, [e_0, e_1, .ref v0, e_3, e_4, .int dn, .int me, e_7])), (v0, .inl (K 0, 28, .inl f_1885)), (t0, .inr (9, [.ref t1, k_1, .ref t2, k_3, .int n, k_5, k_6, .int fi, k_8, k_9])), (t1, .inl (K 0, 56, .inl f1)), (t2, .inl (K 0, 6, .inl f2))] H) (hD : va_D A [(e0, .inr (1, [e_0, e_1, .ref v0, e_3, e_4, .int dn, .int me, e_7])), (v0, .inl (K 0, 28, .inl f_1885)), (t0, .inr (9, [.ref t1, k_1, .ref t2, k_3, .int n, k_5, k_6, .int fi, k_8, k_9])), (t1, .inl (K 0, 56, .inl f1)), (t2, .inl (K 0, 6, .inl f2))]) (hS : va_S A s.heap H locs) (ls : Array Slot) (hl : lv_has ls 5 [(2, .int v_1678), (0, .ref e0), (1, .ref t0)]), W p l e ({ frames := 2, cells := 0, slots := 0, locals := 44 }) s m (([.ref e0, .ref t0] : List Value).toArray) below meth c H locs 0 0 Q (F0 m 185 ls []) := by
                clear hE hP hD hS hl
                intro f_1885 hE H locs hP hD hS ls hl
                replace hE := hE.trans (E_w_look_j185.eq_def _ _ _)
                obtain ⟨x_1888, ex_1888⟩ : ∃ y : Int32, y = v_1678 + Int32.ofInt 1 := ⟨_, rfl⟩
                replace hE := hE.trans (Lt_in ex_1888)
                have hx_1888 : x_1888.toInt = (v_1678.toInt + 1) := by rw [ex_1888]; exact i_add rfl (show (Int32.ofInt 1).toInt = 1 from rfl) (by omega)
                refine lv_iinc (v := x_1888) (lv' := [(2, .int x_1888), (0, .ref e0), (1, .ref t0)]) hx hb dX1_look_185 hl (k := 0) rfl (by rw [ex_1888]) (by decide +kernel) rfl (fun ls hl => ?_)
                refine lv_goto (tgt := 80) hx hb dX1_look_188 (by decide +kernel) ?_
                exact ih_1845 x_1888 f_1885 (by rw [hx_1888]; omega) (by omega) (hE.trans (by rw [hrec_1844])) _ _ hP hD hS ls (lv_sub hl [0, 1, 2] rfl)
              refine pci (va_runVN (As := [.int v_1678]) (rest := []) ⟨hx, hb, hml, hown, hts⟩ (w_has l D K v_1678.toInt n.toInt t0 v_1678 (.ref t1) k_1 (.ref t2) k_3 n k_5 k_6 (.int fi) k_8 k_9 H.size rfl rfl) ⟨va_cnB 1 hts gX1_look_X9_has_n115 rfl rfl rfl (nst_at hN 44 rfl) (hts _ mm_X1_look_145) (by decide +kernel) ⟨Nat.le_of_ble_eq_true rfl, Nat.le_of_ble_eq_true rfl⟩, (hts _ mm_X1_look_397), (hts _ mm_X1_look_7)⟩ (mkV hK hN (hP.sub [2] rfl) (hD.sub [2] (by decide +kernel) rfl) (ci := 9) (q0 := 0) rfl rfl) rfl rfl hl.1 rfl (lv_room (Nat.le_of_ble_eq_true rfl)) dX1_look_88 ⟨Nat.le_of_ble_eq_true rfl, Nat.le_of_ble_eq_true rfl⟩) (fun r_1889 hw => ?_)
              obtain ⟨hw, k_1890, -⟩ := hw
              replace hE := hE.trans (Lt_in k_1890)
              rcases hw with ⟨rfl, h_1891, h_1892⟩ | ⟨rfl, h_1893⟩
              · replace hE := (hE).trans (if_pos rfl)
                refine lv_istore_n (lv' := [(3, .int 1), (2, .int v_1678), (0, .ref e0), (1, .ref t0)]) hx hb dX1_look_91 rfl hl (by decide +kernel) rfl (fun ls hl => ?_)
                refine lv_aload_n hx hb dX1_look_92 rfl (lv_at hl 2 rfl) ?_
                refine va_get (ci := 1) (v := .ref v0) (C := RX1) (T := TX1) (N := 8) hx hb hts hw1 hown hK hP 0 rfl rfl 2 (by decide +kernel) (hts _ mm_X1_look_286) (fun _ h9 => h9) rfl dX1_look_93 ?_
                refine lv_iconst (v := 5) hx hb dX1_look_96 (by decide +kernel) ?_
                refine lv_iload_n hx hb dX1_look_97 rfl (lv_at hl 1 rfl) ?_
                refine lv_iadd hx hb dX1_look_98 ?_
                refine lv_topi (fun x_1894 ex_1894 => ?_)
                replace hE := hE.trans (Lt_in ex_1894)
                have hx_1894 : x_1894.toInt = (5 + v_1678.toInt) := by rw [ex_1894]; exact i_add (show (5 : Int32).toInt = 5 from rfl) rfl (by omega)
                refine lv_iload_n hx hb dX1_look_99 rfl (lv_at hl 0 rfl) ?_
                refine lv_if_eq (tgt := 112) hx hb dX1_look_100 (by decide +kernel) (fun c_1895 => absurd c_1895 (by decide +kernel)) (fun c_1895 => ?_)
                refine lv_aload_n hx hb dX1_look_103 rfl (lv_at hl 3 rfl) ?_
                refine lv_iload_n hx hb dX1_look_104 rfl (lv_at hl 1 rfl) ?_
                refine lv_iconst (v := 5) hx hb dX1_look_105 (by decide +kernel) ?_
                refine pci (va_runVN (As := [.int v_1678, .int 5]) (rest := [.int x_1894, .ref v0]) ⟨hx, hb, hml, hown, hts⟩ (w_fact l D K t0 v_1678 5 t1 k_1 (.ref t2) k_3 (.int n) k_5 k_6 (.int fi) k_8 k_9 f1 H.size) ⟨va_cnB 2 hts gX1_look_X9_fact_n119 rfl rfl rfl (nst_at hN 45 rfl) (hts _ mm_X1_look_145) (by decide +kernel) ⟨Nat.le_of_ble_eq_true rfl, Nat.le_of_ble_eq_true rfl⟩, (hts _ mm_X1_look_381), (hts _ mm_X1_look_2)⟩ (mkV hK hN (hP.sub [2, 3] rfl) (hD.sub [2, 3] (by decide +kernel) rfl) (ci := 9) (q0 := 0) rfl rfl) rfl rfl hl.1 rfl (lv_room (Nat.le_of_ble_eq_true rfl)) dX1_look_106 ⟨Nat.le_of_ble_eq_true rfl, Nat.le_of_ble_eq_true rfl⟩) (fun r_1896 hw => ?_)
                obtain ⟨k_1897, -⟩ := hw
                replace hE := hE.trans (Lt_in k_1897)
                refine lv_goto (tgt := 113) hx hb dX1_look_109 (by decide +kernel) ?_
                refine va_iast hx hb hK hP hD hS 1 0 rfl rfl (i_in hx_1894 (by omega)) dX1_look_113 (fun H locs hP0 hD0 hS0 => ?_)
                clear hP hD hS
                have hP := hP0
                have hD := hD0
                have hS := hS0
                clear hP0 hD0 hS0
                generalize hf_1898 : (upd f_1679 (x_1894 : Int32).toNatClampNeg r_1896) = f_1898 at hP hD
                replace hE := hE.trans (Lt_in hf_1898.symm)
                replace hP : va_P D vwCl [(e0, .inr (1, [e_0, e_1, .ref v0, e_3, e_4, .int dn, .int me, e_7])), (v0, .inl (K 0, 28, .inl f_1898)), (t0, .inr (9, [.ref t1, k_1, .ref t2, k_3, .int n, k_5, k_6, .int fi, k_8, k_9])), (t1, .inl (K 0, 56, .inl f1)), (t2, .inl (K 0, 6, .inl f2))] H := hP
                replace hD : va_D A [(e0, .inr (1, [e_0, e_1, .ref v0, e_3, e_4, .int dn, .int me, e_7])), (v0, .inl (K 0, 28, .inl f_1898)), (t0, .inr (9, [.ref t1, k_1, .ref t2, k_3, .int n, k_5, k_6, .int fi, k_8, k_9])), (t1, .inl (K 0, 56, .inl f1)), (t2, .inl (K 0, 6, .inl f2))] := hD
                refine lv_aload_n hx hb dX1_look_114 rfl (lv_at hl 2 rfl) ?_
                refine va_get (ci := 1) (v := .ref v0) (C := RX1) (T := TX1) (N := 8) hx hb hts hw1 hown hK hP 0 rfl rfl 2 (by decide +kernel) (hts _ mm_X1_look_286) (fun _ h9 => h9) rfl dX1_look_115 ?_
                refine lv_bipush (v := 13) hx hb dX1_look_118 (by decide +kernel) ?_
                refine lv_iload_n hx hb dX1_look_120 rfl (lv_at hl 1 rfl) ?_
                refine lv_iadd hx hb dX1_look_121 ?_
                refine lv_topi (fun x_1899 ex_1899 => ?_)
                replace hE := hE.trans (Lt_in ex_1899)
                have hx_1899 : x_1899.toInt = (13 + v_1678.toInt) := by rw [ex_1899]; exact i_add (show (13 : Int32).toInt = 13 from rfl) rfl (by omega)
                refine lv_iload_n hx hb dX1_look_122 rfl (lv_at hl 0 rfl) ?_
                refine lv_if_eq (tgt := 135) hx hb dX1_look_123 (by decide +kernel) (fun c_1900 => absurd c_1900 (by decide +kernel)) (fun c_1900 => ?_)
                refine lv_aload_n hx hb dX1_look_126 rfl (lv_at hl 3 rfl) ?_
                refine lv_iload_n hx hb dX1_look_127 rfl (lv_at hl 1 rfl) ?_
                refine lv_iconst (v := 2) hx hb dX1_look_128 (by decide +kernel) ?_
                refine pci (va_runVN (As := [.int v_1678, .int 2]) (rest := [.int x_1899, .ref v0]) ⟨hx, hb, hml, hown, hts⟩ (w_fact l D K t0 v_1678 2 t1 k_1 (.ref t2) k_3 (.int n) k_5 k_6 (.int fi) k_8 k_9 f1 H.size) ⟨va_cnB 2 hts gX1_look_X9_fact_n119 rfl rfl rfl (nst_at hN 45 rfl) (hts _ mm_X1_look_145) (by decide +kernel) ⟨Nat.le_of_ble_eq_true rfl, Nat.le_of_ble_eq_true rfl⟩, (hts _ mm_X1_look_381), (hts _ mm_X1_look_2)⟩ (mkV hK hN (hP.sub [2, 3] rfl) (hD.sub [2, 3] (by decide +kernel) rfl) (ci := 9) (q0 := 0) rfl rfl) rfl rfl hl.1 rfl (lv_room (Nat.le_of_ble_eq_true rfl)) dX1_look_129 ⟨Nat.le_of_ble_eq_true rfl, Nat.le_of_ble_eq_true rfl⟩) (fun r_1901 hw => ?_)
                obtain ⟨k_1902, -⟩ := hw
                replace hE := hE.trans (Lt_in k_1902)
                refine lv_goto (tgt := 136) hx hb dX1_look_132 (by decide +kernel) ?_
                refine va_iast hx hb hK hP hD hS 1 0 rfl rfl (i_in hx_1899 (by omega)) dX1_look_136 (fun H locs hP0 hD0 hS0 => ?_)
                clear hP hD hS
                have hP := hP0
                have hD := hD0
                have hS := hS0
                clear hP0 hD0 hS0
                generalize hf_1903 : (upd f_1898 (x_1899 : Int32).toNatClampNeg r_1901) = f_1903 at hP hD
                replace hE := hE.trans (Lt_in hf_1903.symm)
                replace hP : va_P D vwCl [(e0, .inr (1, [e_0, e_1, .ref v0, e_3, e_4, .int dn, .int me, e_7])), (v0, .inl (K 0, 28, .inl f_1903)), (t0, .inr (9, [.ref t1, k_1, .ref t2, k_3, .int n, k_5, k_6, .int fi, k_8, k_9])), (t1, .inl (K 0, 56, .inl f1)), (t2, .inl (K 0, 6, .inl f2))] H := hP
                replace hD : va_D A [(e0, .inr (1, [e_0, e_1, .ref v0, e_3, e_4, .int dn, .int me, e_7])), (v0, .inl (K 0, 28, .inl f_1903)), (t0, .inr (9, [.ref t1, k_1, .ref t2, k_3, .int n, k_5, k_6, .int fi, k_8, k_9])), (t1, .inl (K 0, 56, .inl f1)), (t2, .inl (K 0, 6, .inl f2))] := hD
                refine lv_bipush (v := 21) hx hb dX1_look_137 (by decide +kernel) ?_
                refine lv_aload_n hx hb dX1_look_139 rfl (lv_at hl 3 rfl) ?_
                refine lv_iload_n hx hb dX1_look_140 rfl (lv_at hl 1 rfl) ?_
                refine lv_iconst (v := 0) hx hb dX1_look_141 (by decide +kernel) ?_
                refine pci (va_runVN (As := [.int v_1678, .int 0]) (rest := [.int 21]) ⟨hx, hb, hml, hown, hts⟩ (w_fact l D K t0 v_1678 0 t1 k_1 (.ref t2) k_3 (.int n) k_5 k_6 (.int fi) k_8 k_9 f1 H.size) ⟨va_cnB 2 hts gX1_look_X9_fact_n119 rfl rfl rfl (nst_at hN 45 rfl) (hts _ mm_X1_look_145) (by decide +kernel) ⟨Nat.le_of_ble_eq_true rfl, Nat.le_of_ble_eq_true rfl⟩, (hts _ mm_X1_look_381), (hts _ mm_X1_look_2)⟩ (mkV hK hN (hP.sub [2, 3] rfl) (hD.sub [2, 3] (by decide +kernel) rfl) (ci := 9) (q0 := 0) rfl rfl) rfl rfl hl.1 rfl (lv_room (Nat.le_of_ble_eq_true rfl)) dX1_look_142 ⟨Nat.le_of_ble_eq_true rfl, Nat.le_of_ble_eq_true rfl⟩) (fun r_1904 hw => ?_)
                obtain ⟨k_1905, -⟩ := hw
                replace hE := hE.trans (Lt_in k_1905)
                refine lv_iadd hx hb dX1_look_145 ?_
                refine lv_topi (fun x_1906 ex_1906 => ?_)
                replace hE := hE.trans (Lt_in ex_1906)
                refine lv_istore (lv' := [(4, .int x_1906), (3, .int 1), (2, .int v_1678), (0, .ref e0), (1, .ref t0)]) hx hb dX1_look_146 hl (by decide +kernel) rfl (fun ls hl => ?_)
                refine lv_iload_n hx hb dX1_look_148 rfl (lv_at hl 1 rfl) ?_
                refine lv_if_eq (tgt := 185) hx hb dX1_look_149 (by decide +kernel) (fun c_1907 => absurd c_1907 (by decide +kernel)) (fun c_1907 => ?_)
                refine lv_aload_n hx hb dX1_look_152 rfl (lv_at hl 4 rfl) ?_
                refine lv_iload_n hx hb dX1_look_153 rfl (lv_at hl 2 rfl) ?_
                refine pci (va_runVN (As := [.int v_1678]) (rest := []) ⟨hx, hb, hml, hown, hts⟩ (w_sings l D K t0 v_1678 t1 k_1 t2 k_3 (.int n) k_5 k_6 (.int fi) k_8 k_9 f1 f2 H.size) ⟨va_cnB 1 hts gX1_look_X9_sings_n122 rfl rfl rfl (nst_at hN 46 rfl) (hts _ mm_X1_look_145) (by decide +kernel) ⟨Nat.le_of_ble_eq_true rfl, Nat.le_of_ble_eq_true rfl⟩, (hts _ mm_X1_look_399), (hts _ mm_X1_look_8)⟩ (mkV hK hN (hP.sub [2, 3, 4] rfl) (hD.sub [2, 3, 4] (by decide +kernel) rfl) (ci := 9) (q0 := 0) rfl rfl) rfl rfl hl.1 rfl (lv_room (Nat.le_of_ble_eq_true rfl)) dX1_look_154 ⟨Nat.le_of_ble_eq_true rfl, Nat.le_of_ble_eq_true rfl⟩) (fun r_1908 hw => ?_)
                obtain ⟨h_1910, k_1909, -⟩ := hw
                replace hE := hE.trans (Lt_in k_1909)
                refine lv_if_eq (tgt := 185) hx hb dX1_look_157 (by decide +kernel) (fun c_1911 => ?_) (fun c_1911 => ?_)
                · have c_1911i := i_eq (x := r_1908.toInt) (y := 0) rfl rfl c_1911
                  replace hE := hE.trans (if_pos c_1911)
                  exact j_1887 f_1903  hE _ _ hP hD hS ls (lv_sub hl [2, 3, 4] rfl)
                · have c_1911i := i_ne (x := r_1908.toInt) (y := 0) rfl rfl c_1911
                  replace hE := hE.trans (if_neg c_1911)
                  refine lv_iload hx hb dX1_look_160 (lv_at hl 0 rfl) ?_
                  refine lv_bipush (v := 21) hx hb dX1_look_162 (by decide +kernel) ?_
                  refine lv_icmp_lt (tgt := 185) hx hb dX1_look_164 (by decide +kernel) (fun c_1912 => ?_) (fun c_1912 => ?_)
                  · have c_1912i := i_lt (x := x_1906.toInt) (y := 21) rfl rfl c_1912
                    replace hE := hE.trans (if_pos c_1912)
                    exact j_1887 f_1903  hE _ _ hP hD hS ls (lv_sub hl [2, 3, 4] rfl)
                  · have c_1912i := i_nlt (x := x_1906.toInt) (y := 21) rfl rfl c_1912
                    replace hE := hE.trans (if_neg c_1912)
                    refine lv_iload hx hb dX1_look_167 (lv_at hl 0 rfl) ?_
                    refine lv_bipush (v := 28) hx hb dX1_look_169 (by decide +kernel) ?_
                    refine lv_icmp_ge (tgt := 185) hx hb dX1_look_171 (by decide +kernel) (fun c_1913 => ?_) (fun c_1913 => ?_)
                    · have c_1913i := i_le (x := 28) (y := x_1906.toInt) rfl rfl c_1913
                      replace hE := hE.trans (if_pos c_1913)
                      exact j_1887 f_1903  hE _ _ hP hD hS ls (lv_sub hl [2, 3, 4] rfl)
                    · have c_1913i := i_nle (x := 28) (y := x_1906.toInt) rfl rfl c_1913
                      replace hE := hE.trans (if_neg c_1913)
                      refine lv_aload_n hx hb dX1_look_174 rfl (lv_at hl 3 rfl) ?_
                      refine va_get (ci := 1) (v := .ref v0) (C := RX1) (T := TX1) (N := 8) hx hb hts hw1 hown hK hP 0 rfl rfl 2 (by decide +kernel) (hts _ mm_X1_look_286) (fun _ h9 => h9) rfl dX1_look_175 ?_
                      refine lv_iload hx hb dX1_look_178 (lv_at hl 0 rfl) ?_
                      refine lv_dup2_11 hx hb dX1_look_180 rfl rfl ?_
                      refine va_iald hx hb hK hP 1 0 rfl rfl (i_in rfl (by omega)) dX1_look_181 ?_
                      refine lv_topi (fun x_1914 ex_1914 => ?_)
                      replace hE := hE.trans (Lt_in ex_1914)
                      refine lv_iconst (v := 1) hx hb dX1_look_182 (by decide +kernel) ?_
                      refine lv_iadd hx hb dX1_look_183 ?_
                      refine lv_topi (fun x_1915 ex_1915 => ?_)
                      replace hE := hE.trans (Lt_in ex_1915)
                      refine va_iast hx hb hK hP hD hS 1 0 rfl rfl (i_in rfl (by omega)) dX1_look_184 (fun H locs hP0 hD0 hS0 => ?_)
                      clear hP hD hS
                      have hP := hP0
                      have hD := hD0
                      have hS := hS0
                      clear hP0 hD0 hS0
                      generalize hf_1916 : (upd f_1903 (x_1906 : Int32).toNatClampNeg x_1915) = f_1916 at hP hD
                      replace hE := hE.trans (Lt_in hf_1916.symm)
                      replace hP : va_P D vwCl [(e0, .inr (1, [e_0, e_1, .ref v0, e_3, e_4, .int dn, .int me, e_7])), (v0, .inl (K 0, 28, .inl f_1916)), (t0, .inr (9, [.ref t1, k_1, .ref t2, k_3, .int n, k_5, k_6, .int fi, k_8, k_9])), (t1, .inl (K 0, 56, .inl f1)), (t2, .inl (K 0, 6, .inl f2))] H := hP
                      replace hD : va_D A [(e0, .inr (1, [e_0, e_1, .ref v0, e_3, e_4, .int dn, .int me, e_7])), (v0, .inl (K 0, 28, .inl f_1916)), (t0, .inr (9, [.ref t1, k_1, .ref t2, k_3, .int n, k_5, k_6, .int fi, k_8, k_9])), (t1, .inl (K 0, 56, .inl f1)), (t2, .inl (K 0, 6, .inl f2))] := hD
                      exact j_1887 f_1916  hE _ _ hP hD hS ls (lv_sub hl [2, 3, 4] rfl)
              · replace hE := (hE).trans (if_neg (by first | decide | (intro h9; have h8 := congrArg Int32.toInt h9; omega)))
                refine lv_istore_n (lv' := [(3, .int 0), (2, .int v_1678), (0, .ref e0), (1, .ref t0)]) hx hb dX1_look_91 rfl hl (by decide +kernel) rfl (fun ls hl => ?_)
                refine lv_aload_n hx hb dX1_look_92 rfl (lv_at hl 2 rfl) ?_
                refine va_get (ci := 1) (v := .ref v0) (C := RX1) (T := TX1) (N := 8) hx hb hts hw1 hown hK hP 0 rfl rfl 2 (by decide +kernel) (hts _ mm_X1_look_286) (fun _ h9 => h9) rfl dX1_look_93 ?_
                refine lv_iconst (v := 5) hx hb dX1_look_96 (by decide +kernel) ?_
                refine lv_iload_n hx hb dX1_look_97 rfl (lv_at hl 1 rfl) ?_
                refine lv_iadd hx hb dX1_look_98 ?_
                refine lv_topi (fun x_1917 ex_1917 => ?_)
                replace hE := hE.trans (Lt_in ex_1917)
                have hx_1917 : x_1917.toInt = (5 + v_1678.toInt) := by rw [ex_1917]; exact i_add (show (5 : Int32).toInt = 5 from rfl) rfl (by omega)
                refine lv_iload_n hx hb dX1_look_99 rfl (lv_at hl 0 rfl) ?_
                refine lv_if_eq (tgt := 112) hx hb dX1_look_100 (by decide +kernel) (fun c_1918 => ?_) (fun c_1918 => absurd (by decide +kernel) c_1918)
                refine lv_iconst (v := (-1)) hx hb dX1_look_112 (by decide +kernel) ?_
                refine va_iast hx hb hK hP hD hS 1 0 rfl rfl (i_in hx_1917 (by omega)) dX1_look_113 (fun H locs hP0 hD0 hS0 => ?_)
                clear hP hD hS
                have hP := hP0
                have hD := hD0
                have hS := hS0
                clear hP0 hD0 hS0
                generalize hf_1919 : (upd f_1679 (x_1917 : Int32).toNatClampNeg (-1)) = f_1919 at hP hD
                replace hE := hE.trans (Lt_in hf_1919.symm)
                replace hP : va_P D vwCl [(e0, .inr (1, [e_0, e_1, .ref v0, e_3, e_4, .int dn, .int me, e_7])), (v0, .inl (K 0, 28, .inl f_1919)), (t0, .inr (9, [.ref t1, k_1, .ref t2, k_3, .int n, k_5, k_6, .int fi, k_8, k_9])), (t1, .inl (K 0, 56, .inl f1)), (t2, .inl (K 0, 6, .inl f2))] H := hP
                replace hD : va_D A [(e0, .inr (1, [e_0, e_1, .ref v0, e_3, e_4, .int dn, .int me, e_7])), (v0, .inl (K 0, 28, .inl f_1919)), (t0, .inr (9, [.ref t1, k_1, .ref t2, k_3, .int n, k_5, k_6, .int fi, k_8, k_9])), (t1, .inl (K 0, 56, .inl f1)), (t2, .inl (K 0, 6, .inl f2))] := hD
                refine lv_aload_n hx hb dX1_look_114 rfl (lv_at hl 2 rfl) ?_
                refine va_get (ci := 1) (v := .ref v0) (C := RX1) (T := TX1) (N := 8) hx hb hts hw1 hown hK hP 0 rfl rfl 2 (by decide +kernel) (hts _ mm_X1_look_286) (fun _ h9 => h9) rfl dX1_look_115 ?_
                refine lv_bipush (v := 13) hx hb dX1_look_118 (by decide +kernel) ?_
                refine lv_iload_n hx hb dX1_look_120 rfl (lv_at hl 1 rfl) ?_
                refine lv_iadd hx hb dX1_look_121 ?_
                refine lv_topi (fun x_1920 ex_1920 => ?_)
                replace hE := hE.trans (Lt_in ex_1920)
                have hx_1920 : x_1920.toInt = (13 + v_1678.toInt) := by rw [ex_1920]; exact i_add (show (13 : Int32).toInt = 13 from rfl) rfl (by omega)
                refine lv_iload_n hx hb dX1_look_122 rfl (lv_at hl 0 rfl) ?_
                refine lv_if_eq (tgt := 135) hx hb dX1_look_123 (by decide +kernel) (fun c_1921 => ?_) (fun c_1921 => absurd (by decide +kernel) c_1921)
                refine lv_iconst (v := (-1)) hx hb dX1_look_135 (by decide +kernel) ?_
                refine va_iast hx hb hK hP hD hS 1 0 rfl rfl (i_in hx_1920 (by omega)) dX1_look_136 (fun H locs hP0 hD0 hS0 => ?_)
                clear hP hD hS
                have hP := hP0
                have hD := hD0
                have hS := hS0
                clear hP0 hD0 hS0
                generalize hf_1922 : (upd f_1919 (x_1920 : Int32).toNatClampNeg (-1)) = f_1922 at hP hD
                replace hE := hE.trans (Lt_in hf_1922.symm)
                replace hP : va_P D vwCl [(e0, .inr (1, [e_0, e_1, .ref v0, e_3, e_4, .int dn, .int me, e_7])), (v0, .inl (K 0, 28, .inl f_1922)), (t0, .inr (9, [.ref t1, k_1, .ref t2, k_3, .int n, k_5, k_6, .int fi, k_8, k_9])), (t1, .inl (K 0, 56, .inl f1)), (t2, .inl (K 0, 6, .inl f2))] H := hP
                replace hD : va_D A [(e0, .inr (1, [e_0, e_1, .ref v0, e_3, e_4, .int dn, .int me, e_7])), (v0, .inl (K 0, 28, .inl f_1922)), (t0, .inr (9, [.ref t1, k_1, .ref t2, k_3, .int n, k_5, k_6, .int fi, k_8, k_9])), (t1, .inl (K 0, 56, .inl f1)), (t2, .inl (K 0, 6, .inl f2))] := hD
                refine lv_bipush (v := 21) hx hb dX1_look_137 (by decide +kernel) ?_
                refine lv_aload_n hx hb dX1_look_139 rfl (lv_at hl 3 rfl) ?_
                refine lv_iload_n hx hb dX1_look_140 rfl (lv_at hl 1 rfl) ?_
                refine lv_iconst (v := 0) hx hb dX1_look_141 (by decide +kernel) ?_
                refine pci (va_runVN (As := [.int v_1678, .int 0]) (rest := [.int 21]) ⟨hx, hb, hml, hown, hts⟩ (w_fact l D K t0 v_1678 0 t1 k_1 (.ref t2) k_3 (.int n) k_5 k_6 (.int fi) k_8 k_9 f1 H.size) ⟨va_cnB 2 hts gX1_look_X9_fact_n119 rfl rfl rfl (nst_at hN 45 rfl) (hts _ mm_X1_look_145) (by decide +kernel) ⟨Nat.le_of_ble_eq_true rfl, Nat.le_of_ble_eq_true rfl⟩, (hts _ mm_X1_look_381), (hts _ mm_X1_look_2)⟩ (mkV hK hN (hP.sub [2, 3] rfl) (hD.sub [2, 3] (by decide +kernel) rfl) (ci := 9) (q0 := 0) rfl rfl) rfl rfl hl.1 rfl (lv_room (Nat.le_of_ble_eq_true rfl)) dX1_look_142 ⟨Nat.le_of_ble_eq_true rfl, Nat.le_of_ble_eq_true rfl⟩) (fun r_1923 hw => ?_)
                obtain ⟨k_1924, -⟩ := hw
                replace hE := hE.trans (Lt_in k_1924)
                refine lv_iadd hx hb dX1_look_145 ?_
                refine lv_topi (fun x_1925 ex_1925 => ?_)
                replace hE := hE.trans (Lt_in ex_1925)
                refine lv_istore (lv' := [(4, .int x_1925), (3, .int 0), (2, .int v_1678), (0, .ref e0), (1, .ref t0)]) hx hb dX1_look_146 hl (by decide +kernel) rfl (fun ls hl => ?_)
                refine lv_iload_n hx hb dX1_look_148 rfl (lv_at hl 1 rfl) ?_
                refine lv_if_eq (tgt := 185) hx hb dX1_look_149 (by decide +kernel) (fun c_1926 => ?_) (fun c_1926 => absurd (by decide +kernel) c_1926)
                exact j_1887 f_1922  hE _ _ hP hD hS ls (lv_sub hl [2, 3, 4] rfl)
        exact lp_1844 ((9 - (0 : Int32).toInt : Int).toNat + 1) 0 f_1336 (by decide +kernel) (Nat.lt_succ_self _) hE _ _ hP hD hS ls (lv_sub hl [0, 1, 2] rfl)
      · have c_1349i := i_nle (x := 7) (y := v_1335.toInt) rfl rfl c_1349
        replace hE := hE.trans (if_neg c_1349)
        refine lv_aload_n hx hb dX1_look_62 rfl (lv_at hl 1 rfl) ?_
        refine va_get (ci := 1) (v := .ref v0) (C := RX1) (T := TX1) (N := 8) hx hb hts hw1 hown hK hP 0 rfl rfl 2 (by decide +kernel) (hts _ mm_X1_look_286) (fun _ h9 => h9) rfl dX1_look_63 ?_
        refine lv_bipush (v := 21) hx hb dX1_look_66 (by decide +kernel) ?_
        refine lv_iload_n hx hb dX1_look_68 rfl (lv_at hl 0 rfl) ?_
        refine lv_iadd hx hb dX1_look_69 ?_
        refine lv_topi (fun x_1927 ex_1927 => ?_)
        replace hE := hE.trans (Lt_in ex_1927)
        have hx_1927 : x_1927.toInt = (21 + v_1335.toInt) := by rw [ex_1927]; exact i_add (show (21 : Int32).toInt = 21 from rfl) rfl (by omega)
        refine lv_iconst (v := 0) hx hb dX1_look_70 (by decide +kernel) ?_
        refine va_iast hx hb hK hP hD hS 1 0 rfl rfl (i_in hx_1927 (by omega)) dX1_look_71 (fun H locs hP0 hD0 hS0 => ?_)
        clear hP hD hS
        have hP := hP0
        have hD := hD0
        have hS := hS0
        clear hP0 hD0 hS0
        generalize hf_1928 : (upd f_1336 (x_1927 : Int32).toNatClampNeg 0) = f_1928 at hP hD
        replace hE := hE.trans (Lt_in hf_1928.symm)
        replace hP : va_P D vwCl [(e0, .inr (1, [e_0, e_1, .ref v0, e_3, e_4, .int dn, .int me, e_7])), (v0, .inl (K 0, 28, .inl f_1928)), (t0, .inr (9, [.ref t1, k_1, .ref t2, k_3, .int n, k_5, k_6, .int fi, k_8, k_9])), (t1, .inl (K 0, 56, .inl f1)), (t2, .inl (K 0, 6, .inl f2))] H := hP
        replace hD : va_D A [(e0, .inr (1, [e_0, e_1, .ref v0, e_3, e_4, .int dn, .int me, e_7])), (v0, .inl (K 0, 28, .inl f_1928)), (t0, .inr (9, [.ref t1, k_1, .ref t2, k_3, .int n, k_5, k_6, .int fi, k_8, k_9])), (t1, .inl (K 0, 56, .inl f1)), (t2, .inl (K 0, 6, .inl f2))] := hD
        obtain ⟨x_1929, ex_1929⟩ : ∃ y : Int32, y = v_1335 + Int32.ofInt 1 := ⟨_, rfl⟩
        replace hE := hE.trans (Lt_in ex_1929)
        have hx_1929 : x_1929.toInt = (v_1335.toInt + 1) := by rw [ex_1929]; exact i_add rfl (show (Int32.ofInt 1).toInt = 1 from rfl) (by omega)
        refine lv_iinc (v := x_1929) (lv' := [(2, .int x_1929), (0, .ref e0), (1, .ref t0)]) hx hb dX1_look_72 hl (k := 0) rfl (by rw [ex_1929]) (by decide +kernel) rfl (fun ls hl => ?_)
        refine lv_goto (tgt := 56) hx hb dX1_look_75 (by decide +kernel) ?_
        exact ih_1348 x_1929 f_1928 (by rw [hx_1929]; omega) (by omega) (hE.trans (by rw [hrec_1347])) _ _ hP hD hS ls (lv_sub hl [0, 1, 2] rfl)
  exact lp_1347 ((8 - (0 : Int32).toInt : Int).toNat + 1) 0 f_1313 (by decide +kernel) (Nat.lt_succ_self _) hE _ _ hP hD hS ls (lv_sub hl [0, 1, 2] rfl)
set_option maxRecDepth 100000 in
noncomputable def E_w_become_l56 (Bd : Nat → Option Nat) (f_185 : Nat → Int32) (f_186 : Nat → Int32) (f_187 : Nat → Int32) (rec_238 : Int32 → (Nat → Option Nat) → ((Nat → Int32) × (Nat → Int32) × (Nat → Int32) × (Nat → Option Nat))) (v_220 : Int32) (f_221 : Nat → Option Nat) : (Nat → Int32) × (Nat → Int32) × (Nat → Int32) × (Nat → Option Nat) :=
  if 6 ≤ v_220 then (((f_185, f_187, f_186, f_221) : (Nat → Int32) × (Nat → Int32) × (Nat → Int32) × (Nat → Option Nat))) else (Lt (Bd (v_220 : Int32).toNatClampNeg : Option Nat) (fun y_241 => Oc y_241 (Lt (va_up f_221 (v_220 : Int32).toNatClampNeg none : Nat → Option Nat) (fun f_243 => Lt (v_220 + Int32.ofInt 1 : Int32) (fun x_244 => rec_238 x_244 f_243))) (fun q_242 => Lt (va_up f_221 (v_220 : Int32).toNatClampNeg (some q_242) : Nat → Option Nat) (fun f_245 => Lt (v_220 + Int32.ofInt 1 : Int32) (fun x_246 => rec_238 x_246 f_245)))))
set_option maxRecDepth 100000 in
noncomputable def E_w_become (An : Int32) (Al : Int32) (Af : Int32) (Ai : Int32) (Ah : Int32) (Ao : Int32) (Aa : Nat → Int32) (Ab : Nat → Int32) (Ac : Nat → Int32) (Ad : Nat → Option Nat) (Bn : Int32) (Bl : Int32) (Bf : Int32) (Bi : Int32) (Bh : Int32) (Bo : Int32) (Ba : Nat → Int32) (Bb : Nat → Int32) (Bc : Nat → Int32) (Bd : Nat → Option Nat) : (Nat → Int32) × (Nat → Int32) × (Nat → Int32) × (Nat → Option Nat) :=
  Lt (va_cpy (α := Int32) Ba Aa (0 : Int32).toNatClampNeg (0 : Int32).toNatClampNeg (56 : Int32).toNatClampNeg : Nat → Int32) (fun f_185 => Lt (va_cpy (α := Int32) Bc Ac (0 : Int32).toNatClampNeg (0 : Int32).toNatClampNeg (24 : Int32).toNatClampNeg : Nat → Int32) (fun f_186 => Lt (va_cpy (α := Int32) Bb Ab (0 : Int32).toNatClampNeg (0 : Int32).toNatClampNeg (6 : Int32).toNatClampNeg : Nat → Int32) (fun f_187 => Lp (α := Int32 → (Nat → Option Nat) → ((Nat → Int32) × (Nat → Int32) × (Nat → Int32) × (Nat → Option Nat))) (E_w_become_l56 Bd f_185 f_186 f_187) (fun _ _ => ((fun _ => 0, fun _ => 0, fun _ => 0, fun _ => none) : (Nat → Int32) × (Nat → Int32) × (Nat → Int32) × (Nat → Option Nat))) ((7 - (0 : Int32).toInt : Int).toNat + 1) 0 Ad)))
set_option maxHeartbeats 4000000 in
set_option maxRecDepth 100000 in
theorem w_become (l : Launch) (D : va_G) (K : Nat → ClassId) (g : Nat → Nat) (L : Nat → Prop) (G : Nat → LC) (A0 : Nat) (B0 : Nat) (A1 : Nat) (A3 : Nat) (A2 : Nat) (A4 : Nat) (An : Int32) (Al : Int32) (Af : Int32) (Ai : Int32) (Ah : Int32) (Ao : Int32) (Aa : Nat → Int32) (Ab : Nat → Int32) (Ac : Nat → Int32) (Ad : Nat → Option Nat) (B1 : Nat) (B3 : Nat) (B2 : Nat) (B4 : Nat) (Bn : Int32) (Bl : Int32) (Bf : Int32) (Bi : Int32) (Bh : Int32) (Bo : Int32) (Ba : Nat → Int32) (gB : Nat → Int32) (Bb : Nat → Int32) (Bc : Nat → Int32) (hB : Nat → Int32) (Bd : Nat → Option Nat) (sz : Nat) (zBn : 0 ≤ Bn.toInt ∧ Bn.toInt ≤ 8) (zBl : 0 ≤ Bl.toInt ∧ Bl.toInt ≤ 6) (zBh : 0 ≤ Bh.toInt ∧ Bh.toInt ≤ 6) (zAd : InL L Ad) (zgB : FzC gB Ba) (zhB : FzH hB Bc) (zBd : InL L Bd) : Met l yX9_become wsX9_become ({ frames := 1, cells := 0, slots := 0, locals := 40 }) (va_Pc [.ref A0, .ref B0] (PreY D K [(A0, .inr (9, [.ref A1, .ref A3, .ref A2, .ref A4, .int An, .int Al, .int Af, .int Ai, .int Ah, .int Ao])), (A1, .inl (K 0, 56, .inl Aa)), (A2, .inl (K 0, 6, .inl Ab)), (A3, .inl (K 0, 24, .inl Ac)), (A4, .inl (K 4, 6, .inr (.inr (.inr (.inr Ad))))), (B0, .inr (9, [.ref B1, .ref B3, .ref B2, .ref B4, .int Bn, .int Bl, .int Bf, .int Bi, .int Bh, .int Bo])), (B1, .inl (K 0, 56, .inl Ba)), (B2, .inl (K 0, 6, .inl Bb)), (B3, .inl (K 0, 24, .inl Bc)), (B4, .inl (K 4, 6, .inr (.inr (.inr (.inr Bd)))))] [] sz g L G (va_A [(A0, .inr (9, [.ref A1, .ref A3, .ref A2, .ref A4, .int An, .int Al, .int Af, .int Ai, .int Ah, .int Ao])), (A1, .inl (K 0, 56, .inl Aa)), (A2, .inl (K 0, 6, .inl Ab)), (A3, .inl (K 0, 24, .inl Ac)), (A4, .inl (K 4, 6, .inr (.inr (.inr (.inr Ad))))), (B0, .inr (9, [.ref B1, .ref B3, .ref B2, .ref B4, .int Bn, .int Bl, .int Bf, .int Bi, .int Bh, .int Bo])), (B1, .inl (K 0, 56, .inl Ba)), (B2, .inl (K 0, 6, .inl Bb)), (B3, .inl (K 0, 24, .inl Bc)), (B4, .inl (K 4, 6, .inr (.inr (.inr (.inr Bd)))))] sz))) (va_Qv (S := Su) (fun (u : Su) => (FzC gB (u.2.1 0)) ∧ (FzH hB (u.2.1 2)) ∧ (InL L (u.2.2.2.2.2 0)) ∧ (((u.2.1 0), (u.2.1 1), (u.2.1 2), (u.2.2.2.2.2 0)) = E_w_become An Al Af Ai Ah Ao Aa Ab Ac Ad Bn Bl Bf Bi Bh Bo Ba Bb Bc Bd) ∧ True) (fun u t => Wd D (va_A [(A0, .inr (9, [.ref A1, .ref A3, .ref A2, .ref A4, .int An, .int Al, .int Af, .int Ai, .int Ah, .int Ao])), (A1, .inl (K 0, 56, .inl Aa)), (A2, .inl (K 0, 6, .inl Ab)), (A3, .inl (K 0, 24, .inl Ac)), (A4, .inl (K 4, 6, .inr (.inr (.inr (.inr Ad))))), (B0, .inr (9, [.ref B1, .ref B3, .ref B2, .ref B4, .int Bn, .int Bl, .int Bf, .int Bi, .int Bh, .int Bo])), (B1, .inl (K 0, 56, .inl Ba)), (B2, .inl (K 0, 6, .inl Bb)), (B3, .inl (K 0, 24, .inl Bc)), (B4, .inl (K 4, 6, .inr (.inr (.inr (.inr Bd)))))] sz) ((fun u => [(A0, .inr (9, [.ref A1, .ref A3, .ref A2, .ref A4, .int Bn, .int Bl, .int Bf, .int Bi, .int Bh, .int Bo])), (A1, .inl (K 0, 56, .inl (u.2.1 0))), (A2, .inl (K 0, 6, .inl (u.2.1 1))), (A3, .inl (K 0, 24, .inl (u.2.1 2))), (A4, .inl (K 4, 6, .inr (.inr (.inr (.inr (u.2.2.2.2.2 0)))))), (B0, .inr (9, [.ref B1, .ref B3, .ref B2, .ref B4, .int Bn, .int Bl, .int Bf, .int Bi, .int Bh, .int Bo])), (B1, .inl (K 0, 56, .inl Ba)), (B2, .inl (K 0, 6, .inl Bb)), (B3, .inl (K 0, 24, .inl Bc)), (B4, .inl (K 4, 6, .inr (.inr (.inr (.inr Bd)))))]) u) t) (va_A [(A0, .inr (9, [.ref A1, .ref A3, .ref A2, .ref A4, .int An, .int Al, .int Af, .int Ai, .int Ah, .int Ao])), (A1, .inl (K 0, 56, .inl Aa)), (A2, .inl (K 0, 6, .inl Ab)), (A3, .inl (K 0, 24, .inl Ac)), (A4, .inl (K 4, 6, .inr (.inr (.inr (.inr Ad))))), (B0, .inr (9, [.ref B1, .ref B3, .ref B2, .ref B4, .int Bn, .int Bl, .int Bf, .int Bi, .int Bh, .int Bo])), (B1, .inl (K 0, 56, .inl Ba)), (B2, .inl (K 0, 6, .inl Bb)), (B3, .inl (K 0, 24, .inl Bc)), (B4, .inl (K 4, 6, .inr (.inr (.inr (.inr Bd)))))] sz)) 0 0 (va_A [(A0, .inr (9, [.ref A1, .ref A3, .ref A2, .ref A4, .int An, .int Al, .int Af, .int Ai, .int Ah, .int Ao])), (A1, .inl (K 0, 56, .inl Aa)), (A2, .inl (K 0, 6, .inl Ab)), (A3, .inl (K 0, 24, .inl Ac)), (A4, .inl (K 4, 6, .inr (.inr (.inr (.inr Ad))))), (B0, .inr (9, [.ref B1, .ref B3, .ref B2, .ref B4, .int Bn, .int Bl, .int Bf, .int Bi, .int Bh, .int Bo])), (B1, .inl (K 0, 56, .inl Ba)), (B2, .inl (K 0, 6, .inl Bb)), (B3, .inl (K 0, 24, .inl Bc)), (B4, .inl (K 4, 6, .inr (.inr (.inr (.inr Bd)))))] sz) := by
  refine Met.ofW (cc := cX9_become) (maxL := 3) (ret := none) (by decide +kernel) rfl ?_
  intro p e s m args below meth c s₁ B hml hv
  obtain ⟨rfl, ⟨hsz, hP, hK, hD0, hN⟩, hG, hPl, hRo⟩ := hv
  have hx := B.exec
  have hb := B.bytes
  have hr := B.returns
  have hts := atoms_spec (ws := wsX9_become) B.pre
  have hown : s.vm.findClass RX9 = some m.cls := findClass_of_methodNamed B.named
  have hlocks := B.notSynchronized
  subst hsz
  have hD := hD0.self (sz := s.heap.size)
  generalize hAe : va_A [(A0, .inr (9, [.ref A1, .ref A3, .ref A2, .ref A4, .int An, .int Al, .int Af, .int Ai, .int Ah, .int Ao])), (A1, .inl (K 0, 56, .inl Aa)), (A2, .inl (K 0, 6, .inl Ab)), (A3, .inl (K 0, 24, .inl Ac)), (A4, .inl (K 4, 6, .inr (.inr (.inr (.inr Ad))))), (B0, .inr (9, [.ref B1, .ref B3, .ref B2, .ref B4, .int Bn, .int Bl, .int Bf, .int Bi, .int Bh, .int Bo])), (B1, .inl (K 0, 56, .inl Ba)), (B2, .inl (K 0, 6, .inl Bb)), (B3, .inl (K 0, 24, .inl Bc)), (B4, .inl (K 4, 6, .inr (.inr (.inr (.inr Bd)))))] s.heap.size = A at hD hG hPl hRo ⊢
  have hA : ∀ q : Nat, s.heap.size ≤ q → A q := fun q h => by rw [← hAe]; exact Or.inr h
  clear hAe
  have hS : va_S A s.heap s.heap [] := va_S.rf
  replace hP : va_P D vwCl [(A0, .inr (9, [.ref A1, .ref A3, .ref A2, .ref A4, .int An, .int Al, .int Af, .int Ai, .int Ah, .int Ao])), (A1, .inl (K 0, 56, .inl Aa)), (A2, .inl (K 0, 6, .inl Ab)), (A3, .inl (K 0, 24, .inl Ac)), (A4, .inl (K 4, 6, .inr (.inr (.inr (.inr Ad))))), (B0, .inr (9, [.ref B1, .ref B3, .ref B2, .ref B4, .int Bn, .int Bl, .int Bf, .int Bi, .int Bh, .int Bo])), (B1, .inl (K 0, 56, .inl Ba)), (B2, .inl (K 0, 6, .inl Bb)), (B3, .inl (K 0, 24, .inl Bc)), (B4, .inl (K 4, 6, .inr (.inr (.inr (.inr Bd)))))] s.heap := hP
  have hl := lv_entry [.ref A0, .ref B0] (n := 3) (Nat.le_of_ble_eq_true rfl)
  rw [lg_entry_eq]
  generalize (lg_sl [.ref A0, .ref B0] ++ List.replicate (3 - (lg_sl [.ref A0, .ref B0]).length) Slot.unset).toArray = ls at hl ⊢
  have hl : lv_has ls 3 [(0, .ref A0), (1, .ref B0)] := hl
  have hw9 : ∀ w ∈ wsX90, w ∈ wsX9_become := fun w h => (List.mem_cons_of_mem _ (List.mem_append_right _ h))
  generalize hQ : MQ below _ _ s _ _ _ = Q
  have hE := E_w_become.eq_def An Al Af Ai Ah Ao Aa Ab Ac Ad Bn Bl Bf Bi Bh Bo Ba Bb Bc Bd
  refine lv_aload_n hx hb dX9_become_0 rfl (lv_at hl 1 rfl) ?_
  refine va_get (ci := 9) (v := .ref B1) (C := RX9) (T := TX9) (N := 10) hx hb hts hw9 hown hK hP 5 rfl rfl 0 (by decide +kernel) (hts _ mm_X9_become_174) (fun _ h9 => h9) rfl dX9_become_1 ?_
  refine lv_iconst (v := 0) hx hb dX9_become_4 (by decide +kernel) ?_
  refine lv_aload_n hx hb dX9_become_5 rfl (lv_at hl 0 rfl) ?_
  refine va_get (ci := 9) (v := .ref A1) (C := RX9) (T := TX9) (N := 10) hx hb hts hw9 hown hK hP 0 rfl rfl 0 (by decide +kernel) (hts _ mm_X9_become_174) (fun _ h9 => h9) rfl dX9_become_6 ?_
  refine lv_iconst (v := 0) hx hb dX9_become_9 (by decide +kernel) ?_
  refine lv_aload_n hx hb dX9_become_10 rfl (lv_at hl 0 rfl) ?_
  refine va_get (ci := 9) (v := .ref A1) (C := RX9) (T := TX9) (N := 10) hx hb hts hw9 hown hK hP 0 rfl rfl 0 (by decide +kernel) (hts _ mm_X9_become_174) (fun _ h9 => h9) rfl dX9_become_11 ?_
  refine va_alen (v := 56) hx hb hK hP 1 0 rfl rfl rfl dX9_become_14 ?_
  refine va_copyi hx hb (hml.trans hl.1.symm) hown (hts _ mm_X9_become_583) (hts _ mm_X9_become_571) (hts _ mm_X9_become_570) (hts _ mm_X9_become_163) hK hP hD hS 6 1 0 0 rfl rfl rfl rfl rfl (by decide +kernel) (by decide +kernel) (by decide +kernel) (by decide +kernel) (by decide +kernel) (fun _ _ => rfl) (Nat.le_of_ble_eq_true rfl) (by decide +kernel) dX9_become_15 (fun H locs hP0 hD0 hS0 => ?_)
  clear hP hD hS
  have hP := hP0
  have hD := hD0
  have hS := hS0
  clear hP0 hD0 hS0
  generalize hf_185 : (va_cpy (α := Int32) Ba Aa (0 : Int32).toNatClampNeg (0 : Int32).toNatClampNeg (56 : Int32).toNatClampNeg) = f_185 at hP hD
  replace hE := hE.trans (Lt_in hf_185.symm)
  have hzf_185 : FzC gB f_185 := by rw [← hf_185]; exact FzC.full zgB (by decide +kernel)
  replace hP : va_P D vwCl [(A0, .inr (9, [.ref A1, .ref A3, .ref A2, .ref A4, .int An, .int Al, .int Af, .int Ai, .int Ah, .int Ao])), (A1, .inl (K 0, 56, .inl f_185)), (A2, .inl (K 0, 6, .inl Ab)), (A3, .inl (K 0, 24, .inl Ac)), (A4, .inl (K 4, 6, .inr (.inr (.inr (.inr Ad))))), (B0, .inr (9, [.ref B1, .ref B3, .ref B2, .ref B4, .int Bn, .int Bl, .int Bf, .int Bi, .int Bh, .int Bo])), (B1, .inl (K 0, 56, .inl Ba)), (B2, .inl (K 0, 6, .inl Bb)), (B3, .inl (K 0, 24, .inl Bc)), (B4, .inl (K 4, 6, .inr (.inr (.inr (.inr Bd)))))] H := hP
  replace hD : va_D A [(A0, .inr (9, [.ref A1, .ref A3, .ref A2, .ref A4, .int An, .int Al, .int Af, .int Ai, .int Ah, .int Ao])), (A1, .inl (K 0, 56, .inl f_185)), (A2, .inl (K 0, 6, .inl Ab)), (A3, .inl (K 0, 24, .inl Ac)), (A4, .inl (K 4, 6, .inr (.inr (.inr (.inr Ad))))), (B0, .inr (9, [.ref B1, .ref B3, .ref B2, .ref B4, .int Bn, .int Bl, .int Bf, .int Bi, .int Bh, .int Bo])), (B1, .inl (K 0, 56, .inl Ba)), (B2, .inl (K 0, 6, .inl Bb)), (B3, .inl (K 0, 24, .inl Bc)), (B4, .inl (K 4, 6, .inr (.inr (.inr (.inr Bd)))))] := hD
  refine lv_aload_n hx hb dX9_become_18 rfl (lv_at hl 1 rfl) ?_
  refine va_get (ci := 9) (v := .ref B3) (C := RX9) (T := TX9) (N := 10) hx hb hts hw9 hown hK hP 5 rfl rfl 1 (by decide +kernel) (hts _ mm_X9_become_175) (fun _ h9 => h9) rfl dX9_become_19 ?_
  refine lv_iconst (v := 0) hx hb dX9_become_22 (by decide +kernel) ?_
  refine lv_aload_n hx hb dX9_become_23 rfl (lv_at hl 0 rfl) ?_
  refine va_get (ci := 9) (v := .ref A3) (C := RX9) (T := TX9) (N := 10) hx hb hts hw9 hown hK hP 0 rfl rfl 1 (by decide +kernel) (hts _ mm_X9_become_175) (fun _ h9 => h9) rfl dX9_become_24 ?_
  refine lv_iconst (v := 0) hx hb dX9_become_27 (by decide +kernel) ?_
  refine lv_aload_n hx hb dX9_become_28 rfl (lv_at hl 0 rfl) ?_
  refine va_get (ci := 9) (v := .ref A3) (C := RX9) (T := TX9) (N := 10) hx hb hts hw9 hown hK hP 0 rfl rfl 1 (by decide +kernel) (hts _ mm_X9_become_175) (fun _ h9 => h9) rfl dX9_become_29 ?_
  refine va_alen (v := 24) hx hb hK hP 3 0 rfl rfl rfl dX9_become_32 ?_
  refine va_copyi hx hb (hml.trans hl.1.symm) hown (hts _ mm_X9_become_583) (hts _ mm_X9_become_571) (hts _ mm_X9_become_570) (hts _ mm_X9_become_163) hK hP hD hS 8 3 0 0 rfl rfl rfl rfl rfl (by decide +kernel) (by decide +kernel) (by decide +kernel) (by decide +kernel) (by decide +kernel) (fun _ _ => rfl) (Nat.le_of_ble_eq_true rfl) (by decide +kernel) dX9_become_33 (fun H locs hP0 hD0 hS0 => ?_)
  clear hP hD hS
  have hP := hP0
  have hD := hD0
  have hS := hS0
  clear hP0 hD0 hS0
  generalize hf_186 : (va_cpy (α := Int32) Bc Ac (0 : Int32).toNatClampNeg (0 : Int32).toNatClampNeg (24 : Int32).toNatClampNeg) = f_186 at hP hD
  replace hE := hE.trans (Lt_in hf_186.symm)
  have hzf_186 : FzH hB f_186 := by rw [← hf_186]; exact FzH.full zhB (by decide +kernel)
  replace hP : va_P D vwCl [(A0, .inr (9, [.ref A1, .ref A3, .ref A2, .ref A4, .int An, .int Al, .int Af, .int Ai, .int Ah, .int Ao])), (A1, .inl (K 0, 56, .inl f_185)), (A2, .inl (K 0, 6, .inl Ab)), (A3, .inl (K 0, 24, .inl f_186)), (A4, .inl (K 4, 6, .inr (.inr (.inr (.inr Ad))))), (B0, .inr (9, [.ref B1, .ref B3, .ref B2, .ref B4, .int Bn, .int Bl, .int Bf, .int Bi, .int Bh, .int Bo])), (B1, .inl (K 0, 56, .inl Ba)), (B2, .inl (K 0, 6, .inl Bb)), (B3, .inl (K 0, 24, .inl Bc)), (B4, .inl (K 4, 6, .inr (.inr (.inr (.inr Bd)))))] H := hP
  replace hD : va_D A [(A0, .inr (9, [.ref A1, .ref A3, .ref A2, .ref A4, .int An, .int Al, .int Af, .int Ai, .int Ah, .int Ao])), (A1, .inl (K 0, 56, .inl f_185)), (A2, .inl (K 0, 6, .inl Ab)), (A3, .inl (K 0, 24, .inl f_186)), (A4, .inl (K 4, 6, .inr (.inr (.inr (.inr Ad))))), (B0, .inr (9, [.ref B1, .ref B3, .ref B2, .ref B4, .int Bn, .int Bl, .int Bf, .int Bi, .int Bh, .int Bo])), (B1, .inl (K 0, 56, .inl Ba)), (B2, .inl (K 0, 6, .inl Bb)), (B3, .inl (K 0, 24, .inl Bc)), (B4, .inl (K 4, 6, .inr (.inr (.inr (.inr Bd)))))] := hD
  refine lv_aload_n hx hb dX9_become_36 rfl (lv_at hl 1 rfl) ?_
  refine va_get (ci := 9) (v := .ref B2) (C := RX9) (T := TX9) (N := 10) hx hb hts hw9 hown hK hP 5 rfl rfl 2 (by decide +kernel) (hts _ mm_X9_become_176) (fun _ h9 => h9) rfl dX9_become_37 ?_
  refine lv_iconst (v := 0) hx hb dX9_become_40 (by decide +kernel) ?_
  refine lv_aload_n hx hb dX9_become_41 rfl (lv_at hl 0 rfl) ?_
  refine va_get (ci := 9) (v := .ref A2) (C := RX9) (T := TX9) (N := 10) hx hb hts hw9 hown hK hP 0 rfl rfl 2 (by decide +kernel) (hts _ mm_X9_become_176) (fun _ h9 => h9) rfl dX9_become_42 ?_
  refine lv_iconst (v := 0) hx hb dX9_become_45 (by decide +kernel) ?_
  refine lv_aload_n hx hb dX9_become_46 rfl (lv_at hl 0 rfl) ?_
  refine va_get (ci := 9) (v := .ref A2) (C := RX9) (T := TX9) (N := 10) hx hb hts hw9 hown hK hP 0 rfl rfl 2 (by decide +kernel) (hts _ mm_X9_become_176) (fun _ h9 => h9) rfl dX9_become_47 ?_
  refine va_alen (v := 6) hx hb hK hP 2 0 rfl rfl rfl dX9_become_50 ?_
  refine va_copyi hx hb (hml.trans hl.1.symm) hown (hts _ mm_X9_become_583) (hts _ mm_X9_become_571) (hts _ mm_X9_become_570) (hts _ mm_X9_become_163) hK hP hD hS 7 2 0 0 rfl rfl rfl rfl rfl (by decide +kernel) (by decide +kernel) (by decide +kernel) (by decide +kernel) (by decide +kernel) (fun _ _ => rfl) (Nat.le_of_ble_eq_true rfl) (by decide +kernel) dX9_become_51 (fun H locs hP0 hD0 hS0 => ?_)
  clear hP hD hS
  have hP := hP0
  have hD := hD0
  have hS := hS0
  clear hP0 hD0 hS0
  generalize hf_187 : (va_cpy (α := Int32) Bb Ab (0 : Int32).toNatClampNeg (0 : Int32).toNatClampNeg (6 : Int32).toNatClampNeg) = f_187 at hP hD
  replace hE := hE.trans (Lt_in hf_187.symm)
  replace hP : va_P D vwCl [(A0, .inr (9, [.ref A1, .ref A3, .ref A2, .ref A4, .int An, .int Al, .int Af, .int Ai, .int Ah, .int Ao])), (A1, .inl (K 0, 56, .inl f_185)), (A2, .inl (K 0, 6, .inl f_187)), (A3, .inl (K 0, 24, .inl f_186)), (A4, .inl (K 4, 6, .inr (.inr (.inr (.inr Ad))))), (B0, .inr (9, [.ref B1, .ref B3, .ref B2, .ref B4, .int Bn, .int Bl, .int Bf, .int Bi, .int Bh, .int Bo])), (B1, .inl (K 0, 56, .inl Ba)), (B2, .inl (K 0, 6, .inl Bb)), (B3, .inl (K 0, 24, .inl Bc)), (B4, .inl (K 4, 6, .inr (.inr (.inr (.inr Bd)))))] H := hP
  replace hD : va_D A [(A0, .inr (9, [.ref A1, .ref A3, .ref A2, .ref A4, .int An, .int Al, .int Af, .int Ai, .int Ah, .int Ao])), (A1, .inl (K 0, 56, .inl f_185)), (A2, .inl (K 0, 6, .inl f_187)), (A3, .inl (K 0, 24, .inl f_186)), (A4, .inl (K 4, 6, .inr (.inr (.inr (.inr Ad))))), (B0, .inr (9, [.ref B1, .ref B3, .ref B2, .ref B4, .int Bn, .int Bl, .int Bf, .int Bi, .int Bh, .int Bo])), (B1, .inl (K 0, 56, .inl Ba)), (B2, .inl (K 0, 6, .inl Bb)), (B3, .inl (K 0, 24, .inl Bc)), (B4, .inl (K 4, 6, .inr (.inr (.inr (.inr Bd)))))] := hD
  refine lv_iconst (v := 0) hx hb dX9_become_54 (by decide +kernel) ?_
  refine lv_istore_n (lv' := [(2, .int 0), (0, .ref A0), (1, .ref B0)]) hx hb dX9_become_55 rfl hl (by decide +kernel) rfl (fun ls hl => ?_)
  have lp_238 : ∀ (nn_ : Nat) (v_220 : Int32) (f_221 : Nat → Option Nat) (hv_220 : 0 ≤ v_220.toInt ∧ v_220.toInt ≤ 6) (hf_221_0 : InL L f_221) (hn : (7 - v_220.toInt : Int).toNat < nn_) (hE : E_w_become An Al Af Ai Ah Ao Aa Ab Ac Ad Bn Bl Bf Bi Bh Bo Ba Bb Bc Bd = Lp (α := Int32 → (Nat → Option Nat) → ((Nat → Int32) × (Nat → Int32) × (Nat → Int32) × (Nat → Option Nat))) (E_w_become_l56 Bd f_185 f_186 f_187) (fun _ _ => ((fun _ => 0, fun _ => 0, fun _ => 0, fun _ => none) : (Nat → Int32) × (Nat → Int32) × (Nat → Int32) × (Nat → Option Nat))) nn_ v_220 f_221) (H : Heap) (locs : List Loc) (hP : va_P D vwCl [(A0, .inr (9, [.ref A1, .ref A3, .ref A2, .ref A4, .int An, .int Al, .int Af, .int Ai, .int Ah, .int Ao])), (A1, .inl (K 0, 56, .inl f_185)), (A2, .inl (K 0, 6, .inl f_187)), (A3, .inl (K 0, 24, .inl f_186)), (A4, .inl (K 4, 6, .inr (.inr (.inr (.inr f_221))))), (B0, .inr (9, [.ref B1, .ref B3, .ref B2, .ref B4, .int Bn, .int Bl, .int Bf, .int Bi, .int Bh, .int Bo])), (B1, .inl (K 0, 56, .inl Ba)), (B2, .inl (K 0, 6, .inl Bb)), (B3, .inl (K 0, 24, .inl Bc)), (B4, .inl (K 4, 6, .inr (.inr (.inr (.inr Bd)))))] H) (hD : va_D A [(A0, .inr (9, [.ref A1, .ref A3, .ref A2, .ref A4, .int An, .int Al, .int Af, .int Ai, .int Ah, .int Ao])), (A1, .inl (K 0, 56, .inl f_185)), (A2, .inl (K 0, 6, .inl f_187)), (A3, .inl (K 0, 24, .inl f_186)), (A4, .inl (K 4, 6, .inr (.inr (.inr (.inr f_221))))), (B0, .inr (9, [.ref B1, .ref B3, .ref B2, .ref B4, .int Bn, .int Bl, .int Bf, .int Bi, .int Bh, .int Bo])), (B1, .inl (K 0, 56, .inl Ba)), (B2, .inl (K 0, 6, .inl Bb)), (B3, .inl (K 0, 24, .inl Bc)), (B4, .inl (K 4, 6, .inr (.inr (.inr (.inr Bd)))))]) (hS : va_S A s.heap H locs) (ls : Array Slot) (hl : lv_has ls 3 [(2, .int v_220), (0, .ref A0), (1, .ref B0)]), W p l e ({ frames := 1, cells := 0, slots := 0, locals := 40 }) s m (([.ref A0, .ref B0] : List Value).toArray) below meth c H locs 0 0 Q (F0 m 56 ls []) := by
    clear hE hP hD hS hl
    intro nn_
    induction nn_ with
    | zero =>
      intro v_220 f_221 hv_220 hf_221_0 hn hE H locs hP hD hS ls hl
      exact absurd hn (Nat.not_lt_zero _)
    | succ nn_ ih_239 =>
      intro v_220 f_221 hv_220 hf_221_0 hn hE H locs hP hD hS ls hl
      replace hE : E_w_become An Al Af Ai Ah Ao Aa Ab Ac Ad Bn Bl Bf Bi Bh Bo Ba Bb Bc Bd = E_w_become_l56 Bd f_185 f_186 f_187 (Lp (α := Int32 → (Nat → Option Nat) → ((Nat → Int32) × (Nat → Int32) × (Nat → Int32) × (Nat → Option Nat))) (E_w_become_l56 Bd f_185 f_186 f_187) (fun _ _ => ((fun _ => 0, fun _ => 0, fun _ => 0, fun _ => none) : (Nat → Int32) × (Nat → Int32) × (Nat → Int32) × (Nat → Option Nat))) nn_) v_220 f_221 := hE
      obtain ⟨rec_238, hrec_238⟩ : ∃ z9, z9 = Lp (α := Int32 → (Nat → Option Nat) → ((Nat → Int32) × (Nat → Int32) × (Nat → Int32) × (Nat → Option Nat))) (E_w_become_l56 Bd f_185 f_186 f_187) (fun _ _ => ((fun _ => 0, fun _ => 0, fun _ => 0, fun _ => none) : (Nat → Int32) × (Nat → Int32) × (Nat → Int32) × (Nat → Option Nat))) nn_ := ⟨_, rfl⟩
      rw [← hrec_238] at hE
      replace hE := hE.trans (E_w_become_l56.eq_def _ _ _ _ _ _ _)
      refine lv_iload_n hx hb dX9_become_56 rfl (lv_at hl 0 rfl) ?_
      refine lv_bipush (v := 6) hx hb dX9_become_57 (by decide +kernel) ?_
      refine lv_icmp_ge (tgt := 80) hx hb dX9_become_59 (by decide +kernel) (fun c_240 => ?_) (fun c_240 => ?_)
      · have c_240i := i_le (x := 6) (y := v_220.toInt) rfl rfl c_240
        replace hE := hE.trans (if_pos c_240)
        refine lv_aload_n hx hb dX9_become_80 rfl (lv_at hl 1 rfl) ?_
        refine lv_aload_n hx hb dX9_become_81 rfl (lv_at hl 2 rfl) ?_
        refine va_get (ci := 9) (v := .int Bn) (C := RX9) (T := TX9) (N := 10) hx hb hts hw9 hown hK hP 5 rfl rfl 4 (by decide +kernel) (hts _ mm_X9_become_178) (fun _ h9 => h9) rfl dX9_become_82 ?_
        refine va_put (ci := 9) (v := .int Bn) (ty := .int) (C := RX9) (T := TX9) (N := 10) hx hb hts hw9 tyX9 tyX9_ok nmX9 hown hK hP hD hS 0 rfl rfl 4 (by decide +kernel) (hts _ mm_X9_become_178) (fun _ h9 => h9) rfl (by decide +kernel) (by first | rfl | decide) (by first | rfl | decide) (Nat.le_of_ble_eq_true rfl) dX9_become_85 (fun H locs hP0 hD0 hS0 => ?_)
        clear hP hD hS
        have hP := hP0
        have hD := hD0
        have hS := hS0
        clear hP0 hD0 hS0
        replace hP : va_P D vwCl [(A0, .inr (9, [.ref A1, .ref A3, .ref A2, .ref A4, .int Bn, .int Al, .int Af, .int Ai, .int Ah, .int Ao])), (A1, .inl (K 0, 56, .inl f_185)), (A2, .inl (K 0, 6, .inl f_187)), (A3, .inl (K 0, 24, .inl f_186)), (A4, .inl (K 4, 6, .inr (.inr (.inr (.inr f_221))))), (B0, .inr (9, [.ref B1, .ref B3, .ref B2, .ref B4, .int Bn, .int Bl, .int Bf, .int Bi, .int Bh, .int Bo])), (B1, .inl (K 0, 56, .inl Ba)), (B2, .inl (K 0, 6, .inl Bb)), (B3, .inl (K 0, 24, .inl Bc)), (B4, .inl (K 4, 6, .inr (.inr (.inr (.inr Bd)))))] H := hP
        replace hD : va_D A [(A0, .inr (9, [.ref A1, .ref A3, .ref A2, .ref A4, .int Bn, .int Al, .int Af, .int Ai, .int Ah, .int Ao])), (A1, .inl (K 0, 56, .inl f_185)), (A2, .inl (K 0, 6, .inl f_187)), (A3, .inl (K 0, 24, .inl f_186)), (A4, .inl (K 4, 6, .inr (.inr (.inr (.inr f_221))))), (B0, .inr (9, [.ref B1, .ref B3, .ref B2, .ref B4, .int Bn, .int Bl, .int Bf, .int Bi, .int Bh, .int Bo])), (B1, .inl (K 0, 56, .inl Ba)), (B2, .inl (K 0, 6, .inl Bb)), (B3, .inl (K 0, 24, .inl Bc)), (B4, .inl (K 4, 6, .inr (.inr (.inr (.inr Bd)))))] := hD
        refine lv_aload_n hx hb dX9_become_88 rfl (lv_at hl 1 rfl) ?_
        refine lv_aload_n hx hb dX9_become_89 rfl (lv_at hl 2 rfl) ?_
        refine va_get (ci := 9) (v := .int Bl) (C := RX9) (T := TX9) (N := 10) hx hb hts hw9 hown hK hP 5 rfl rfl 5 (by decide +kernel) (hts _ mm_X9_become_179) (fun _ h9 => h9) rfl dX9_become_90 ?_
        refine va_put (ci := 9) (v := .int Bl) (ty := .int) (C := RX9) (T := TX9) (N := 10) hx hb hts hw9 tyX9 tyX9_ok nmX9 hown hK hP hD hS 0 rfl rfl 5 (by decide +kernel) (hts _ mm_X9_become_179) (fun _ h9 => h9) rfl (by decide +kernel) (by first | rfl | decide) (by first | rfl | decide) (Nat.le_of_ble_eq_true rfl) dX9_become_93 (fun H locs hP0 hD0 hS0 => ?_)
        clear hP hD hS
        have hP := hP0
        have hD := hD0
        have hS := hS0
        clear hP0 hD0 hS0
        replace hP : va_P D vwCl [(A0, .inr (9, [.ref A1, .ref A3, .ref A2, .ref A4, .int Bn, .int Bl, .int Af, .int Ai, .int Ah, .int Ao])), (A1, .inl (K 0, 56, .inl f_185)), (A2, .inl (K 0, 6, .inl f_187)), (A3, .inl (K 0, 24, .inl f_186)), (A4, .inl (K 4, 6, .inr (.inr (.inr (.inr f_221))))), (B0, .inr (9, [.ref B1, .ref B3, .ref B2, .ref B4, .int Bn, .int Bl, .int Bf, .int Bi, .int Bh, .int Bo])), (B1, .inl (K 0, 56, .inl Ba)), (B2, .inl (K 0, 6, .inl Bb)), (B3, .inl (K 0, 24, .inl Bc)), (B4, .inl (K 4, 6, .inr (.inr (.inr (.inr Bd)))))] H := hP
        replace hD : va_D A [(A0, .inr (9, [.ref A1, .ref A3, .ref A2, .ref A4, .int Bn, .int Bl, .int Af, .int Ai, .int Ah, .int Ao])), (A1, .inl (K 0, 56, .inl f_185)), (A2, .inl (K 0, 6, .inl f_187)), (A3, .inl (K 0, 24, .inl f_186)), (A4, .inl (K 4, 6, .inr (.inr (.inr (.inr f_221))))), (B0, .inr (9, [.ref B1, .ref B3, .ref B2, .ref B4, .int Bn, .int Bl, .int Bf, .int Bi, .int Bh, .int Bo])), (B1, .inl (K 0, 56, .inl Ba)), (B2, .inl (K 0, 6, .inl Bb)), (B3, .inl (K 0, 24, .inl Bc)), (B4, .inl (K 4, 6, .inr (.inr (.inr (.inr Bd)))))] := hD
        refine lv_aload_n hx hb dX9_become_96 rfl (lv_at hl 1 rfl) ?_
        refine lv_aload_n hx hb dX9_become_97 rfl (lv_at hl 2 rfl) ?_
        refine va_get (ci := 9) (v := .int Bf) (C := RX9) (T := TX9) (N := 10) hx hb hts hw9 hown hK hP 5 rfl rfl 6 (by decide +kernel) (hts _ mm_X9_become_180) (fun _ h9 => h9) rfl dX9_become_98 ?_
        refine va_put (ci := 9) (v := .int Bf) (ty := .int) (C := RX9) (T := TX9) (N := 10) hx hb hts hw9 tyX9 tyX9_ok nmX9 hown hK hP hD hS 0 rfl rfl 6 (by decide +kernel) (hts _ mm_X9_become_180) (fun _ h9 => h9) rfl (by decide +kernel) (by first | rfl | decide) (by first | rfl | decide) (Nat.le_of_ble_eq_true rfl) dX9_become_101 (fun H locs hP0 hD0 hS0 => ?_)
        clear hP hD hS
        have hP := hP0
        have hD := hD0
        have hS := hS0
        clear hP0 hD0 hS0
        replace hP : va_P D vwCl [(A0, .inr (9, [.ref A1, .ref A3, .ref A2, .ref A4, .int Bn, .int Bl, .int Bf, .int Ai, .int Ah, .int Ao])), (A1, .inl (K 0, 56, .inl f_185)), (A2, .inl (K 0, 6, .inl f_187)), (A3, .inl (K 0, 24, .inl f_186)), (A4, .inl (K 4, 6, .inr (.inr (.inr (.inr f_221))))), (B0, .inr (9, [.ref B1, .ref B3, .ref B2, .ref B4, .int Bn, .int Bl, .int Bf, .int Bi, .int Bh, .int Bo])), (B1, .inl (K 0, 56, .inl Ba)), (B2, .inl (K 0, 6, .inl Bb)), (B3, .inl (K 0, 24, .inl Bc)), (B4, .inl (K 4, 6, .inr (.inr (.inr (.inr Bd)))))] H := hP
        replace hD : va_D A [(A0, .inr (9, [.ref A1, .ref A3, .ref A2, .ref A4, .int Bn, .int Bl, .int Bf, .int Ai, .int Ah, .int Ao])), (A1, .inl (K 0, 56, .inl f_185)), (A2, .inl (K 0, 6, .inl f_187)), (A3, .inl (K 0, 24, .inl f_186)), (A4, .inl (K 4, 6, .inr (.inr (.inr (.inr f_221))))), (B0, .inr (9, [.ref B1, .ref B3, .ref B2, .ref B4, .int Bn, .int Bl, .int Bf, .int Bi, .int Bh, .int Bo])), (B1, .inl (K 0, 56, .inl Ba)), (B2, .inl (K 0, 6, .inl Bb)), (B3, .inl (K 0, 24, .inl Bc)), (B4, .inl (K 4, 6, .inr (.inr (.inr (.inr Bd)))))] := hD
        refine lv_aload_n hx hb dX9_become_104 rfl (lv_at hl 1 rfl) ?_
        refine lv_aload_n hx hb dX9_become_105 rfl (lv_at hl 2 rfl) ?_
        refine va_get (ci := 9) (v := .int Bi) (C := RX9) (T := TX9) (N := 10) hx hb hts hw9 hown hK hP 5 rfl rfl 7 (by decide +kernel) (hts _ mm_X9_become_181) (fun _ h9 => h9) rfl dX9_become_106 ?_
        refine va_put (ci := 9) (v := .int Bi) (ty := .int) (C := RX9) (T := TX9) (N := 10) hx hb hts hw9 tyX9 tyX9_ok nmX9 hown hK hP hD hS 0 rfl rfl 7 (by decide +kernel) (hts _ mm_X9_become_181) (fun _ h9 => h9) rfl (by decide +kernel) (by first | rfl | decide) (by first | rfl | decide) (Nat.le_of_ble_eq_true rfl) dX9_become_109 (fun H locs hP0 hD0 hS0 => ?_)
        clear hP hD hS
        have hP := hP0
        have hD := hD0
        have hS := hS0
        clear hP0 hD0 hS0
        replace hP : va_P D vwCl [(A0, .inr (9, [.ref A1, .ref A3, .ref A2, .ref A4, .int Bn, .int Bl, .int Bf, .int Bi, .int Ah, .int Ao])), (A1, .inl (K 0, 56, .inl f_185)), (A2, .inl (K 0, 6, .inl f_187)), (A3, .inl (K 0, 24, .inl f_186)), (A4, .inl (K 4, 6, .inr (.inr (.inr (.inr f_221))))), (B0, .inr (9, [.ref B1, .ref B3, .ref B2, .ref B4, .int Bn, .int Bl, .int Bf, .int Bi, .int Bh, .int Bo])), (B1, .inl (K 0, 56, .inl Ba)), (B2, .inl (K 0, 6, .inl Bb)), (B3, .inl (K 0, 24, .inl Bc)), (B4, .inl (K 4, 6, .inr (.inr (.inr (.inr Bd)))))] H := hP
        replace hD : va_D A [(A0, .inr (9, [.ref A1, .ref A3, .ref A2, .ref A4, .int Bn, .int Bl, .int Bf, .int Bi, .int Ah, .int Ao])), (A1, .inl (K 0, 56, .inl f_185)), (A2, .inl (K 0, 6, .inl f_187)), (A3, .inl (K 0, 24, .inl f_186)), (A4, .inl (K 4, 6, .inr (.inr (.inr (.inr f_221))))), (B0, .inr (9, [.ref B1, .ref B3, .ref B2, .ref B4, .int Bn, .int Bl, .int Bf, .int Bi, .int Bh, .int Bo])), (B1, .inl (K 0, 56, .inl Ba)), (B2, .inl (K 0, 6, .inl Bb)), (B3, .inl (K 0, 24, .inl Bc)), (B4, .inl (K 4, 6, .inr (.inr (.inr (.inr Bd)))))] := hD
        refine lv_aload_n hx hb dX9_become_112 rfl (lv_at hl 1 rfl) ?_
        refine lv_aload_n hx hb dX9_become_113 rfl (lv_at hl 2 rfl) ?_
        refine va_get (ci := 9) (v := .int Bh) (C := RX9) (T := TX9) (N := 10) hx hb hts hw9 hown hK hP 5 rfl rfl 8 (by decide +kernel) (hts _ mm_X9_become_182) (fun _ h9 => h9) rfl dX9_become_114 ?_
        refine va_put (ci := 9) (v := .int Bh) (ty := .int) (C := RX9) (T := TX9) (N := 10) hx hb hts hw9 tyX9 tyX9_ok nmX9 hown hK hP hD hS 0 rfl rfl 8 (by decide +kernel) (hts _ mm_X9_become_182) (fun _ h9 => h9) rfl (by decide +kernel) (by first | rfl | decide) (by first | rfl | decide) (Nat.le_of_ble_eq_true rfl) dX9_become_117 (fun H locs hP0 hD0 hS0 => ?_)
        clear hP hD hS
        have hP := hP0
        have hD := hD0
        have hS := hS0
        clear hP0 hD0 hS0
        replace hP : va_P D vwCl [(A0, .inr (9, [.ref A1, .ref A3, .ref A2, .ref A4, .int Bn, .int Bl, .int Bf, .int Bi, .int Bh, .int Ao])), (A1, .inl (K 0, 56, .inl f_185)), (A2, .inl (K 0, 6, .inl f_187)), (A3, .inl (K 0, 24, .inl f_186)), (A4, .inl (K 4, 6, .inr (.inr (.inr (.inr f_221))))), (B0, .inr (9, [.ref B1, .ref B3, .ref B2, .ref B4, .int Bn, .int Bl, .int Bf, .int Bi, .int Bh, .int Bo])), (B1, .inl (K 0, 56, .inl Ba)), (B2, .inl (K 0, 6, .inl Bb)), (B3, .inl (K 0, 24, .inl Bc)), (B4, .inl (K 4, 6, .inr (.inr (.inr (.inr Bd)))))] H := hP
        replace hD : va_D A [(A0, .inr (9, [.ref A1, .ref A3, .ref A2, .ref A4, .int Bn, .int Bl, .int Bf, .int Bi, .int Bh, .int Ao])), (A1, .inl (K 0, 56, .inl f_185)), (A2, .inl (K 0, 6, .inl f_187)), (A3, .inl (K 0, 24, .inl f_186)), (A4, .inl (K 4, 6, .inr (.inr (.inr (.inr f_221))))), (B0, .inr (9, [.ref B1, .ref B3, .ref B2, .ref B4, .int Bn, .int Bl, .int Bf, .int Bi, .int Bh, .int Bo])), (B1, .inl (K 0, 56, .inl Ba)), (B2, .inl (K 0, 6, .inl Bb)), (B3, .inl (K 0, 24, .inl Bc)), (B4, .inl (K 4, 6, .inr (.inr (.inr (.inr Bd)))))] := hD
        refine lv_aload_n hx hb dX9_become_120 rfl (lv_at hl 1 rfl) ?_
        refine lv_aload_n hx hb dX9_become_121 rfl (lv_at hl 2 rfl) ?_
        refine va_get (ci := 9) (v := .int Bo) (C := RX9) (T := TX9) (N := 10) hx hb hts hw9 hown hK hP 5 rfl rfl 9 (by decide +kernel) (hts _ mm_X9_become_183) (fun _ h9 => h9) rfl dX9_become_122 ?_
        refine va_put (ci := 9) (v := .int Bo) (ty := .int) (C := RX9) (T := TX9) (N := 10) hx hb hts hw9 tyX9 tyX9_ok nmX9 hown hK hP hD hS 0 rfl rfl 9 (by decide +kernel) (hts _ mm_X9_become_183) (fun _ h9 => h9) rfl (by decide +kernel) (by first | rfl | decide) (by first | rfl | decide) (Nat.le_of_ble_eq_true rfl) dX9_become_125 (fun H locs hP0 hD0 hS0 => ?_)
        clear hP hD hS
        have hP := hP0
        have hD := hD0
        have hS := hS0
        clear hP0 hD0 hS0
        replace hP : va_P D vwCl [(A0, .inr (9, [.ref A1, .ref A3, .ref A2, .ref A4, .int Bn, .int Bl, .int Bf, .int Bi, .int Bh, .int Bo])), (A1, .inl (K 0, 56, .inl f_185)), (A2, .inl (K 0, 6, .inl f_187)), (A3, .inl (K 0, 24, .inl f_186)), (A4, .inl (K 4, 6, .inr (.inr (.inr (.inr f_221))))), (B0, .inr (9, [.ref B1, .ref B3, .ref B2, .ref B4, .int Bn, .int Bl, .int Bf, .int Bi, .int Bh, .int Bo])), (B1, .inl (K 0, 56, .inl Ba)), (B2, .inl (K 0, 6, .inl Bb)), (B3, .inl (K 0, 24, .inl Bc)), (B4, .inl (K 4, 6, .inr (.inr (.inr (.inr Bd)))))] H := hP
        replace hD : va_D A [(A0, .inr (9, [.ref A1, .ref A3, .ref A2, .ref A4, .int Bn, .int Bl, .int Bf, .int Bi, .int Bh, .int Bo])), (A1, .inl (K 0, 56, .inl f_185)), (A2, .inl (K 0, 6, .inl f_187)), (A3, .inl (K 0, 24, .inl f_186)), (A4, .inl (K 4, 6, .inr (.inr (.inr (.inr f_221))))), (B0, .inr (9, [.ref B1, .ref B3, .ref B2, .ref B4, .int Bn, .int Bl, .int Bf, .int Bi, .int Bh, .int Bo])), (B1, .inl (K 0, 56, .inl Ba)), (B2, .inl (K 0, 6, .inl Bb)), (B3, .inl (K 0, 24, .inl Bc)), (B4, .inl (K 4, 6, .inr (.inr (.inr (.inr Bd)))))] := hD
        rw [← hQ]
        have hP9 := hP.sub (ws' := [(A0, .inr (9, [.ref A1, .ref A3, .ref A2, .ref A4, .int Bn, .int Bl, .int Bf, .int Bi, .int Bh, .int Bo])), (A1, .inl (K 0, 56, .inl f_185)), (A2, .inl (K 0, 6, .inl f_187)), (A3, .inl (K 0, 24, .inl f_186)), (A4, .inl (K 4, 6, .inr (.inr (.inr (.inr f_221))))), (B0, .inr (9, [.ref B1, .ref B3, .ref B2, .ref B4, .int Bn, .int Bl, .int Bf, .int Bi, .int Bh, .int Bo])), (B1, .inl (K 0, 56, .inl Ba)), (B2, .inl (K 0, 6, .inl Bb)), (B3, .inl (K 0, 24, .inl Bc)), (B4, .inl (K 4, 6, .inr (.inr (.inr (.inr Bd)))))]) [0, 1, 2, 3, 4, 5, 6, 7, 8, 9] rfl
        have hD9 := hD.sub (ws' := [(A0, .inr (9, [.ref A1, .ref A3, .ref A2, .ref A4, .int Bn, .int Bl, .int Bf, .int Bi, .int Bh, .int Bo])), (A1, .inl (K 0, 56, .inl f_185)), (A2, .inl (K 0, 6, .inl f_187)), (A3, .inl (K 0, 24, .inl f_186)), (A4, .inl (K 4, 6, .inr (.inr (.inr (.inr f_221))))), (B0, .inr (9, [.ref B1, .ref B3, .ref B2, .ref B4, .int Bn, .int Bl, .int Bf, .int Bi, .int Bh, .int Bo])), (B1, .inl (K 0, 56, .inl Ba)), (B2, .inl (K 0, 6, .inl Bb)), (B3, .inl (K 0, 24, .inl Bc)), (B4, .inl (K 4, 6, .inr (.inr (.inr (.inr Bd)))))]) [0, 1, 2, 3, 4, 5, 6, 7, 8, 9] (by decide +kernel) rfl
        exact W.vret hx hb hr (fun t ht hW => ⟨⟨((fun _ => 0, fun i => match i with | 0 => f_185 | 1 => f_187 | _ => f_186, fun _ => fun _ => 0, fun _ => 0, fun _ => 0, fun i => match i with | _ => f_221) : Su), rfl, ⟨hzf_185, hzf_186, hf_221_0, hE.symm, trivial⟩, (⟨by rw [ht]; exact hP9, hD9⟩ : Wd D A _ t)⟩, hS.F ht⟩) hS.2.2 dX9_become_128
      · have c_240i := i_nle (x := 6) (y := v_220.toInt) rfl rfl c_240
        replace hE := hE.trans (if_neg c_240)
        refine lv_aload_n hx hb dX9_become_62 rfl (lv_at hl 1 rfl) ?_
        refine va_get (ci := 9) (v := .ref A4) (C := RX9) (T := TX9) (N := 10) hx hb hts hw9 hown hK hP 0 rfl rfl 3 (by decide +kernel) (hts _ mm_X9_become_177) (fun _ h9 => h9) rfl dX9_become_63 ?_
        refine lv_iload_n hx hb dX9_become_66 rfl (lv_at hl 0 rfl) ?_
        refine lv_aload_n hx hb dX9_become_67 rfl (lv_at hl 2 rfl) ?_
        refine va_get (ci := 9) (v := .ref B4) (C := RX9) (T := TX9) (N := 10) hx hb hts hw9 hown hK hP 5 rfl rfl 3 (by decide +kernel) (hts _ mm_X9_become_177) (fun _ h9 => h9) rfl dX9_become_68 ?_
        refine lv_iload_n hx hb dX9_become_71 rfl (lv_at hl 0 rfl) ?_
        refine va_aldq (C := "SmokeTune$Script") hx hb hK hP 9 4 rfl rfl (i_in rfl (by omega)) dX9_become_72 ?_
        obtain ⟨y_241, ey_241⟩ : ∃ z : Option Nat, z = (Bd (v_220 : Int32).toNatClampNeg) := ⟨_, rfl⟩
        replace hE := hE.trans (Lt_in ey_241)
        have hy_241 : InLo L y_241 := by rw [ey_241]; exact zBd _
        refine W.eq (g2 := F0 m 73 ls [va_rf y_241, .int v_220, .ref A4]) (by rw [ey_241]) ?_
        rcases y_241 with _ | q_242
        · replace hE := hE.trans Oc_n
          have hl : lv_has ls 3 [(2, .int v_220), (0, .ref A0), (1, .ref B0)] := hl
          refine W.eq (g2 := F0 m 73 ls [.null, .int v_220, .ref A4]) rfl ?_
          refine va_astqN (C := "SmokeTune$Script") hx hb hK hP hD hS 4 4 rfl rfl (i_in rfl (by omega)) dX9_become_73 (fun H locs hP0 hD0 hS0 => ?_)
          clear hP hD hS
          have hP := hP0
          have hD := hD0
          have hS := hS0
          clear hP0 hD0 hS0
          generalize hf_243 : (va_up f_221 (v_220 : Int32).toNatClampNeg none) = f_243 at hP hD
          replace hE := hE.trans (Lt_in hf_243.symm)
          have hf_243_0 : InL L f_243 := by rw [← hf_243]; exact InL.up hf_221_0 trivial
          replace hP : va_P D vwCl [(A0, .inr (9, [.ref A1, .ref A3, .ref A2, .ref A4, .int An, .int Al, .int Af, .int Ai, .int Ah, .int Ao])), (A1, .inl (K 0, 56, .inl f_185)), (A2, .inl (K 0, 6, .inl f_187)), (A3, .inl (K 0, 24, .inl f_186)), (A4, .inl (K 4, 6, .inr (.inr (.inr (.inr f_243))))), (B0, .inr (9, [.ref B1, .ref B3, .ref B2, .ref B4, .int Bn, .int Bl, .int Bf, .int Bi, .int Bh, .int Bo])), (B1, .inl (K 0, 56, .inl Ba)), (B2, .inl (K 0, 6, .inl Bb)), (B3, .inl (K 0, 24, .inl Bc)), (B4, .inl (K 4, 6, .inr (.inr (.inr (.inr Bd)))))] H := hP
          replace hD : va_D A [(A0, .inr (9, [.ref A1, .ref A3, .ref A2, .ref A4, .int An, .int Al, .int Af, .int Ai, .int Ah, .int Ao])), (A1, .inl (K 0, 56, .inl f_185)), (A2, .inl (K 0, 6, .inl f_187)), (A3, .inl (K 0, 24, .inl f_186)), (A4, .inl (K 4, 6, .inr (.inr (.inr (.inr f_243))))), (B0, .inr (9, [.ref B1, .ref B3, .ref B2, .ref B4, .int Bn, .int Bl, .int Bf, .int Bi, .int Bh, .int Bo])), (B1, .inl (K 0, 56, .inl Ba)), (B2, .inl (K 0, 6, .inl Bb)), (B3, .inl (K 0, 24, .inl Bc)), (B4, .inl (K 4, 6, .inr (.inr (.inr (.inr Bd)))))] := hD
          obtain ⟨x_244, ex_244⟩ : ∃ y : Int32, y = v_220 + Int32.ofInt 1 := ⟨_, rfl⟩
          replace hE := hE.trans (Lt_in ex_244)
          have hx_244 : x_244.toInt = (v_220.toInt + 1) := by rw [ex_244]; exact i_add rfl (show (Int32.ofInt 1).toInt = 1 from rfl) (by omega)
          refine lv_iinc (v := x_244) (lv' := [(2, .int x_244), (0, .ref A0), (1, .ref B0)]) hx hb dX9_become_74 hl (k := 0) rfl (by rw [ex_244]) (by decide +kernel) rfl (fun ls hl => ?_)
          refine lv_goto (tgt := 56) hx hb dX9_become_77 (by decide +kernel) ?_
          exact ih_239 x_244 f_243 (by rw [hx_244]; omega) hf_243_0 (by omega) (hE.trans (by rw [hrec_238])) _ _ hP hD hS ls (lv_sub hl [0, 1, 2] rfl)
        · replace hE := hE.trans Oc_s
          have hl : lv_has ls 3 [(2, .int v_220), (0, .ref A0), (1, .ref B0)] := hl
          refine W.eq (g2 := F0 m 73 ls [.ref q_242, .int v_220, .ref A4]) rfl ?_
          refine va_astqM (E := "SmokeTune$Script") hx hb hK hP hD hS 4 4 rfl rfl (Pool.any hK hPl hS hy_241) (i_in rfl (by omega)) dX9_become_73 (fun H locs hP0 hD0 hS0 => ?_)
          clear hP hD hS
          have hP := hP0
          have hD := hD0
          have hS := hS0
          clear hP0 hD0 hS0
          generalize hf_245 : (va_up f_221 (v_220 : Int32).toNatClampNeg (some q_242)) = f_245 at hP hD
          replace hE := hE.trans (Lt_in hf_245.symm)
          have hf_245_0 : InL L f_245 := by rw [← hf_245]; exact InL.up hf_221_0 hy_241
          replace hP : va_P D vwCl [(A0, .inr (9, [.ref A1, .ref A3, .ref A2, .ref A4, .int An, .int Al, .int Af, .int Ai, .int Ah, .int Ao])), (A1, .inl (K 0, 56, .inl f_185)), (A2, .inl (K 0, 6, .inl f_187)), (A3, .inl (K 0, 24, .inl f_186)), (A4, .inl (K 4, 6, .inr (.inr (.inr (.inr f_245))))), (B0, .inr (9, [.ref B1, .ref B3, .ref B2, .ref B4, .int Bn, .int Bl, .int Bf, .int Bi, .int Bh, .int Bo])), (B1, .inl (K 0, 56, .inl Ba)), (B2, .inl (K 0, 6, .inl Bb)), (B3, .inl (K 0, 24, .inl Bc)), (B4, .inl (K 4, 6, .inr (.inr (.inr (.inr Bd)))))] H := hP
          replace hD : va_D A [(A0, .inr (9, [.ref A1, .ref A3, .ref A2, .ref A4, .int An, .int Al, .int Af, .int Ai, .int Ah, .int Ao])), (A1, .inl (K 0, 56, .inl f_185)), (A2, .inl (K 0, 6, .inl f_187)), (A3, .inl (K 0, 24, .inl f_186)), (A4, .inl (K 4, 6, .inr (.inr (.inr (.inr f_245))))), (B0, .inr (9, [.ref B1, .ref B3, .ref B2, .ref B4, .int Bn, .int Bl, .int Bf, .int Bi, .int Bh, .int Bo])), (B1, .inl (K 0, 56, .inl Ba)), (B2, .inl (K 0, 6, .inl Bb)), (B3, .inl (K 0, 24, .inl Bc)), (B4, .inl (K 4, 6, .inr (.inr (.inr (.inr Bd)))))] := hD
          obtain ⟨x_246, ex_246⟩ : ∃ y : Int32, y = v_220 + Int32.ofInt 1 := ⟨_, rfl⟩
          replace hE := hE.trans (Lt_in ex_246)
          have hx_246 : x_246.toInt = (v_220.toInt + 1) := by rw [ex_246]; exact i_add rfl (show (Int32.ofInt 1).toInt = 1 from rfl) (by omega)
          refine lv_iinc (v := x_246) (lv' := [(2, .int x_246), (0, .ref A0), (1, .ref B0)]) hx hb dX9_become_74 hl (k := 0) rfl (by rw [ex_246]) (by decide +kernel) rfl (fun ls hl => ?_)
          refine lv_goto (tgt := 56) hx hb dX9_become_77 (by decide +kernel) ?_
          exact ih_239 x_246 f_245 (by rw [hx_246]; omega) hf_245_0 (by omega) (hE.trans (by rw [hrec_238])) _ _ hP hD hS ls (lv_sub hl [0, 1, 2] rfl)
  exact lp_238 ((7 - (0 : Int32).toInt : Int).toNat + 1) 0 Ad (by decide +kernel) zAd (Nat.lt_succ_self _) hE _ _ hP hD hS ls (lv_sub hl [0, 1, 2] rfl)
set_option maxRecDepth 100000 in
noncomputable def E_w_turn_j277 (dn : Int32) (dr : Int32) (kp : Int32) (u_1652_2_1_0 : Nat → Int32) (r_2053 : Int32) (v_2263 : Int32) (f_2264 : Nat → Int32) (u_2339_2_1_0 : Nat → Int32) (v_2364 : Int32) (v_2365 : Int32) (v_2366 : Int32) (v_2367 : Int32) (f_2368 : Nat → Int32) (f_2369 : Nat → Int32) (f_2370 : Nat → Int32) (f_2371 : Nat → Int32) : Int32 × Int32 × Int32 × Int32 × (Nat → Int32) × (Nat → Int32) × Int32 × Int32 × (Nat → Int32) × Int32 × (Nat → Int32) × (Nat → Int32) × Int32 × (Nat → Int32) × (Nat → Int32) :=
  if 0 ≤ v_2364 then (Lt2 (E_w_keep r_2053 dr kp u_2339_2_1_0) (fun u_2382_2_2_2_1_0 q0_u_2382_2_2_2_1_0 => Lt2 q0_u_2382_2_2_2_1_0 (fun u_2382_2_2_2_1_1 u_2382_2_1_0 => Lt (dn + 1 : Int32) (fun x_2386 => ((1, x_2386, v_2365, v_2263, f_2264, u_1652_2_1_0, u_2382_2_2_2_1_0, u_2382_2_2_2_1_1, u_2382_2_1_0, v_2366, f_2368, f_2369, v_2367, f_2370, f_2371) : Int32 × Int32 × Int32 × Int32 × (Nat → Int32) × (Nat → Int32) × Int32 × Int32 × (Nat → Int32) × Int32 × (Nat → Int32) × (Nat → Int32) × Int32 × (Nat → Int32) × (Nat → Int32)))))) else (((0, dn, v_2365, v_2263, f_2264, u_1652_2_1_0, dr, kp, u_2339_2_1_0, v_2366, f_2368, f_2369, v_2367, f_2370, f_2371) : Int32 × Int32 × Int32 × Int32 × (Nat → Int32) × (Nat → Int32) × Int32 × Int32 × (Nat → Int32) × Int32 × (Nat → Int32) × (Nat → Int32) × Int32 × (Nat → Int32) × (Nat → Int32)))
set_option maxRecDepth 100000 in
noncomputable def E_w_turn_j178 (G : Nat → LC) (dn : Int32) (me : Int32) (dr : Int32) (kp : Int32) (fs2 : Nat → Int32) (br : Int32) (fs : Nat → Int32) (fw : Nat → Int32) (n : Int32) (lt : Int32) (nf : Int32) (fi : Int32) (f1 : Nat → Int32) (f2 : Nat → Int32) (f3 : Nat → Int32) (fl : Nat → Option Nat) (u_1652_2_1_0 : Nat → Int32) (r_2053 : Int32) (v_2067 : Int32) (v_2262 : Int32) (v_2263 : Int32) (f_2264 : Nat → Int32) : Int32 × Int32 × Int32 × Int32 × (Nat → Int32) × (Nat → Int32) × Int32 × Int32 × (Nat → Int32) × Int32 × (Nat → Int32) × (Nat → Int32) × Int32 × (Nat → Int32) × (Nat → Int32) :=
  Lt (E_w_draft dr fs2 fi f1 f2) (fun u_2339_2_1_0 => if (r_2053 : Int32).toInt = 0 then (Lt2 (E_w_kindle G v_2067 br fs fw n lt nf fi f1 f2 f3 fl) (fun r_2388 q0_r_2388 => Lt2 q0_r_2388 (fun u_2389_2_2_2_1_0 q1_u_2389_2_2_2_1_0 => Lt2 q1_u_2389_2_2_2_1_0 (fun u_2389_2_1_0 q2_u_2389_2_1_0 => Lt2 q2_u_2389_2_1_0 (fun u_2389_2_1_1 u_2389_2_1_2 => E_w_turn_j277 dn dr kp u_1652_2_1_0 r_2053 v_2263 f_2264 u_2339_2_1_0 r_2388 me u_2389_2_2_2_1_0 fi u_2389_2_1_0 u_2389_2_1_1 u_2389_2_1_2 f2))))) else (if (r_2053 : Int32).toInt = 1 then (Lt2 (E_w_quench v_2067 v_2262 n f1) (fun r_2394 u_2395_2_1_0 => E_w_turn_j277 dn dr kp u_1652_2_1_0 r_2053 v_2263 f_2264 u_2339_2_1_0 r_2394 me br fi fs fw u_2395_2_1_0 f2)) else (if (r_2053 : Int32).toInt = 2 then (Lt2 (E_w_supply v_2067 v_2262 n f1) (fun r_2399 u_2400_2_1_0 => E_w_turn_j277 dn dr kp u_1652_2_1_0 r_2053 v_2263 f_2264 u_2339_2_1_0 r_2399 me br fi fs fw u_2400_2_1_0 f2)) else (Lt2 (E_w_nextHour G br fs fw n lt nf fi f1 f2 f3 fl) (fun r_2404 q0_r_2404 => Lt2 q0_r_2404 (fun u_2405_2_2_2_1_0 q1_u_2405_2_2_2_1_0 => Lt2 q1_u_2405_2_2_2_1_0 (fun u_2405_2_1_0 q2_u_2405_2_1_0 => Lt2 q2_u_2405_2_1_0 (fun u_2405_2_1_1 q3_u_2405_2_1_1 => Lt2 q3_u_2405_2_1_1 (fun u_2405_2_2_2_1_1 q4_u_2405_2_2_2_1_1 => Lt2 q4_u_2405_2_2_2_1_1 (fun u_2405_2_1_2 u_2405_2_1_3 => E_w_turn_j277 dn dr kp u_1652_2_1_0 r_2053 v_2263 f_2264 u_2339_2_1_0 r_2404 r_2404 u_2405_2_2_2_1_0 u_2405_2_2_2_1_1 u_2405_2_1_0 u_2405_2_1_1 u_2405_2_1_2 u_2405_2_1_3))))))))))
set_option maxRecDepth 100000 in
noncomputable def E_w_turn_j122 (G : Nat → LC) (x : Int32) (dn : Int32) (me : Int32) (fh : Nat → Int32) (fc : Nat → Int32) (dr : Int32) (kp : Int32) (fs2 : Nat → Int32) (br : Int32) (fs : Nat → Int32) (fw : Nat → Int32) (n : Int32) (lt : Int32) (nf : Int32) (fi : Int32) (f1 : Nat → Int32) (f2 : Nat → Int32) (f3 : Nat → Int32) (fl : Nat → Option Nat) (u_1652_2_1_0 : Nat → Int32) (r_2053 : Int32) (v_2067 : Int32) (v_2068 : Int32) (f_2069 : Nat → Int32) : Int32 × Int32 × Int32 × Int32 × (Nat → Int32) × (Nat → Int32) × Int32 × Int32 × (Nat → Int32) × Int32 × (Nat → Int32) × (Nat → Int32) × Int32 × (Nat → Int32) × (Nat → Int32) :=
  Lt (E_w_head x 3 60 fh) (fun r_2412 => Lt2 (E_w_run r_2412 v_2068 f_2069 28 u_1652_2_1_0 800 fc) (fun r_2415 q0_r_2415 => Lt2 q0_r_2415 (fun u_2416_2_2_2_1_0 u_2416_2_1_0 => if u_2416_2_2_2_1_0 = 0 then (E_w_turn_j178 G dn me dr kp fs2 br fs fw n lt nf fi f1 f2 f3 fl u_1652_2_1_0 r_2053 v_2067 r_2415 u_2416_2_2_2_1_0 u_2416_2_1_0) else (((0, dn, me, u_2416_2_2_2_1_0, u_2416_2_1_0, u_1652_2_1_0, dr, kp, fs2, br, fs, fw, fi, f1, f2) : Int32 × Int32 × Int32 × Int32 × (Nat → Int32) × (Nat → Int32) × Int32 × Int32 × (Nat → Int32) × Int32 × (Nat → Int32) × (Nat → Int32) × Int32 × (Nat → Int32) × (Nat → Int32))))))
set_option maxRecDepth 100000 in
noncomputable def E_w_turn_j110 (G : Nat → LC) (x : Int32) (dn : Int32) (me : Int32) (fh : Nat → Int32) (fc : Nat → Int32) (dr : Int32) (kp : Int32) (fs2 : Nat → Int32) (br : Int32) (fs : Nat → Int32) (fw : Nat → Int32) (n : Int32) (lt : Int32) (nf : Int32) (fi : Int32) (f1 : Nat → Int32) (f2 : Nat → Int32) (f3 : Nat → Int32) (fl : Nat → Option Nat) (u_1652_2_1_0 : Nat → Int32) (r_2053 : Int32) (v_2067 : Int32) (v_2068 : Int32) (f_2069 : Nat → Int32) : Int32 × Int32 × Int32 × Int32 × (Nat → Int32) × (Nat → Int32) × Int32 × Int32 × (Nat → Int32) × Int32 × (Nat → Int32) × (Nat → Int32) × Int32 × (Nat → Int32) × (Nat → Int32) :=
  if r_2053 = 1 then (E_w_turn_j122 G x dn me fh fc dr kp fs2 br fs fw n lt nf fi f1 f2 f3 fl u_1652_2_1_0 r_2053 v_2067 v_2068 f_2069) else (if r_2053 = 2 then (E_w_turn_j122 G x dn me fh fc dr kp fs2 br fs fw n lt nf fi f1 f2 f3 fl u_1652_2_1_0 r_2053 v_2067 v_2068 f_2069) else (E_w_turn_j178 G dn me dr kp fs2 br fs fw n lt nf fi f1 f2 f3 fl u_1652_2_1_0 r_2053 v_2067 0 v_2068 f_2069))
set_option maxRecDepth 100000 in
noncomputable def E_w_turn_j51 (G : Nat → LC) (x : Int32) (dn : Int32) (me : Int32) (fh : Nat → Int32) (fc : Nat → Int32) (dr : Int32) (kp : Int32) (fs2 : Nat → Int32) (br : Int32) (fs : Nat → Int32) (fw : Nat → Int32) (n : Int32) (lt : Int32) (nf : Int32) (fi : Int32) (f1 : Nat → Int32) (f2 : Nat → Int32) (f3 : Nat → Int32) (fl : Nat → Option Nat) (u_1652_2_1_0 : Nat → Int32) (v_1667 : Int32) (f_1668 : Nat → Int32) : Int32 × Int32 × Int32 × Int32 × (Nat → Int32) × (Nat → Int32) × Int32 × Int32 × (Nat → Int32) × Int32 × (Nat → Int32) × (Nat → Int32) × Int32 × (Nat → Int32) × (Nat → Int32) :=
  Lt (E_w_head x 0 60 fh) (fun r_2053 => if r_2053 = 3 then (if r_2053 = 3 then (E_w_turn_j110 G x dn me fh fc dr kp fs2 br fs fw n lt nf fi f1 f2 f3 fl u_1652_2_1_0 r_2053 (-1) v_1667 f_1668) else (((0, 0, 0, 0, fun _ => 0, fun _ => 0, 0, 0, fun _ => 0, 0, fun _ => 0, fun _ => 0, 0, fun _ => 0, fun _ => 0) : Int32 × Int32 × Int32 × Int32 × (Nat → Int32) × (Nat → Int32) × Int32 × Int32 × (Nat → Int32) × Int32 × (Nat → Int32) × (Nat → Int32) × Int32 × (Nat → Int32) × (Nat → Int32)))) else (Lt (E_w_head x 2 60 fh) (fun r_2426 => Lt2 (E_w_run r_2426 v_1667 f_1668 28 u_1652_2_1_0 800 fc) (fun r_2429 q0_r_2429 => Lt2 q0_r_2429 (fun u_2430_2_2_2_1_0 u_2430_2_1_0 => if r_2053 = 3 then (E_w_turn_j110 G x dn me fh fc dr kp fs2 br fs fw n lt nf fi f1 f2 f3 fl u_1652_2_1_0 r_2053 r_2429 u_2430_2_2_2_1_0 u_2430_2_1_0) else (if u_2430_2_2_2_1_0 = 0 then (E_w_turn_j110 G x dn me fh fc dr kp fs2 br fs fw n lt nf fi f1 f2 f3 fl u_1652_2_1_0 r_2053 r_2429 u_2430_2_2_2_1_0 u_2430_2_1_0) else (((0, dn, me, u_2430_2_2_2_1_0, u_2430_2_1_0, u_1652_2_1_0, dr, kp, fs2, br, fs, fw, fi, f1, f2) : Int32 × Int32 × Int32 × Int32 × (Nat → Int32) × (Nat → Int32) × Int32 × Int32 × (Nat → Int32) × Int32 × (Nat → Int32) × (Nat → Int32) × Int32 × (Nat → Int32) × (Nat → Int32)))))))))
set_option maxRecDepth 100000 in
noncomputable def E_w_turn_j49 (dn : Int32) (me : Int32) (dr : Int32) (kp : Int32) (fs2 : Nat → Int32) (br : Int32) (fs : Nat → Int32) (fw : Nat → Int32) (fi : Int32) (f1 : Nat → Int32) (f2 : Nat → Int32) (u_1652_2_1_0 : Nat → Int32) (u_2438_2_2_2_1_0 : Int32) (u_2438_2_1_0 : Nat → Int32) : Int32 × Int32 × Int32 × Int32 × (Nat → Int32) × (Nat → Int32) × Int32 × Int32 × (Nat → Int32) × Int32 × (Nat → Int32) × (Nat → Int32) × Int32 × (Nat → Int32) × (Nat → Int32) :=
  ((1, dn, me, u_2438_2_2_2_1_0, u_2438_2_1_0, u_1652_2_1_0, dr, kp, fs2, br, fs, fw, fi, f1, f2) : Int32 × Int32 × Int32 × Int32 × (Nat → Int32) × (Nat → Int32) × Int32 × Int32 × (Nat → Int32) × Int32 × (Nat → Int32) × (Nat → Int32) × Int32 × (Nat → Int32) × (Nat → Int32))
set_option maxRecDepth 100000 in
noncomputable def E_w_turn (G : Nat → LC) (x : Int32) (dn : Int32) (me : Int32) (xb : Int32) (fx : Nat → Int32) (fv : Nat → Int32) (scl : Int32) (sus : Int32) (fh : Nat → Int32) (fc : Nat → Int32) (dr : Int32) (kp : Int32) (fs2 : Nat → Int32) (br : Int32) (fs : Nat → Int32) (fw : Nat → Int32) (n : Int32) (lt : Int32) (nf : Int32) (fi : Int32) (f1 : Nat → Int32) (f2 : Nat → Int32) (f3 : Nat → Int32) (fl : Nat → Option Nat) : Int32 × Int32 × Int32 × Int32 × (Nat → Int32) × (Nat → Int32) × Int32 × Int32 × (Nat → Int32) × Int32 × (Nat → Int32) × (Nat → Int32) × Int32 × (Nat → Int32) × (Nat → Int32) :=
  Lt (E_w_look dn me fv n fi f1 f2) (fun u_1652_2_1_0 => Lt (E_w_head x 4 60 fh) (fun r_1654 => if r_1654 = (-1) then (E_w_turn_j51 G x dn me fh fc dr kp fs2 br fs fw n lt nf fi f1 f2 f3 fl u_1652_2_1_0 xb fx) else (Lt2 (E_w_run r_1654 xb fx 28 u_1652_2_1_0 800 fc) (fun r_2437 q0_r_2437 => Lt2 q0_r_2437 (fun u_2438_2_2_2_1_0 u_2438_2_1_0 => if r_2437 = 0 then (E_w_turn_j49 dn me dr kp fs2 br fs fw fi f1 f2 u_1652_2_1_0 u_2438_2_2_2_1_0 u_2438_2_1_0) else (if u_2438_2_2_2_1_0 = 0 then (E_w_turn_j51 G x dn me fh fc dr kp fs2 br fs fw n lt nf fi f1 f2 f3 fl u_1652_2_1_0 u_2438_2_2_2_1_0 u_2438_2_1_0) else (E_w_turn_j49 dn me dr kp fs2 br fs fw fi f1 f2 u_1652_2_1_0 u_2438_2_2_2_1_0 u_2438_2_1_0)))))))
set_option maxHeartbeats 4000000 in
set_option maxRecDepth 100000 in
theorem w_turn (l : Launch) (D : va_G) (K : Nat → ClassId) (g : Nat → Nat) (L : Nat → Prop) (G : Nat → LC) (e0 : Nat) (s0 : Nat) (x : Int32) (t0 : Nat) (h0 : Nat) (r0 : Nat) (x0 : Nat) (v0 : Nat) (e_3 : Value) (e_4 : Value) (dn : Int32) (me : Int32) (e_7 : Value) (x1 : Nat) (xb : Int32) (fx : Nat → Int32) (fv : Nat → Int32) (s1 : Nat) (s2 : Nat) (scl : Int32) (sus : Int32) (fh : Nat → Int32) (fc : Nat → Int32) (h1 : Nat) (dr : Int32) (kp : Int32) (fs2 : Nat → Int32) (a0 : Nat) (m0 : Nat) (w0 : Nat) (m1 : Nat) (br : Int32) (fs : Nat → Int32) (fw : Nat → Int32) (t1 : Nat) (t3 : Nat) (t2 : Nat) (l0 : Nat) (n : Int32) (lt : Int32) (nf : Int32) (fi : Int32) (k_8 : Value) (k_9 : Value) (f1 : Nat → Int32) (gt : Nat → Int32) (f2 : Nat → Int32) (f3 : Nat → Int32) (gc : Nat → Int32) (fl : Nat → Option Nat) (sz : Nat) (zn : 0 ≤ n.toInt ∧ n.toInt ≤ 8) (zlt : 0 ≤ lt.toInt ∧ lt.toInt ≤ 6) (zbr : 0 ≤ br.toInt ∧ br.toInt ≤ 1) (zdr : 0 ≤ dr.toInt ∧ dr.toInt ≤ 16) (zkp : 0 ≤ kp.toInt ∧ kp.toInt ≤ 16) (zxb : 0 ≤ xb.toInt ∧ xb.toInt ≤ 1) (zfh : Rg 60 (-1) 1000 fh) (zfc : Rg 800 0 1000 fc) (zgt : FzC gt f1) (zgc : FzH gc f3) (zfl : InL L fl) : Met l yX1_turn wsX1_turn ({ frames := 5, cells := 0, slots := 0, locals := 128 }) (va_Pc [.ref e0, .ref s0, .int x, .ref t0, .ref h0] (PreY D K [(e0, .inr (1, [.ref r0, .ref x0, .ref v0, e_3, e_4, .int dn, .int me, e_7])), (x0, .inr (3, [.ref x1, .int xb])), (x1, .inl (K 0, 64, .inl fx)), (v0, .inl (K 0, 28, .inl fv)), (s0, .inr (7, [.ref s1, .ref s2, .int scl, .int sus])), (s1, .inl (K 0, 60, .inl fh)), (s2, .inl (K 0, 800, .inl fc)), (h0, .inr (2, [.ref h1, .int dr, .int kp])), (h1, .inl (K 0, 476, .inl fs2)), (r0, .inr (10, [.ref a0])), (a0, .inr (0, [.ref m0, .ref w0])), (m0, .inr (3, [.ref m1, .int br])), (m1, .inl (K 0, 64, .inl fs)), (w0, .inl (K 0, 9, .inl fw)), (t0, .inr (9, [.ref t1, .ref t3, .ref t2, .ref l0, .int n, .int lt, .int nf, .int fi, k_8, k_9])), (t1, .inl (K 0, 56, .inl f1)), (t2, .inl (K 0, 6, .inl f2)), (t3, .inl (K 0, 24, .inl f3)), (l0, .inl (K 4, 6, .inr (.inr (.inr (.inr fl)))))] [] sz g L G (va_A [(e0, .inr (1, [.ref r0, .ref x0, .ref v0, e_3, e_4, .int dn, .int me, e_7])), (x0, .inr (3, [.ref x1, .int xb])), (x1, .inl (K 0, 64, .inl fx)), (v0, .inl (K 0, 28, .inl fv)), (s0, .inr (7, [.ref s1, .ref s2, .int scl, .int sus])), (s1, .inl (K 0, 60, .inl fh)), (s2, .inl (K 0, 800, .inl fc)), (h0, .inr (2, [.ref h1, .int dr, .int kp])), (h1, .inl (K 0, 476, .inl fs2)), (r0, .inr (10, [.ref a0])), (a0, .inr (0, [.ref m0, .ref w0])), (m0, .inr (3, [.ref m1, .int br])), (m1, .inl (K 0, 64, .inl fs)), (w0, .inl (K 0, 9, .inl fw)), (t0, .inr (9, [.ref t1, .ref t3, .ref t2, .ref l0, .int n, .int lt, .int nf, .int fi, k_8, k_9])), (t1, .inl (K 0, 56, .inl f1)), (t2, .inl (K 0, 6, .inl f2)), (t3, .inl (K 0, 24, .inl f3)), (l0, .inl (K 4, 6, .inr (.inr (.inr (.inr fl)))))] sz))) (va_Qi (S := Su) (fun (r : Int32) (u : Su) => (0 ≤ r.toInt ∧ r.toInt ≤ 1) ∧ (0 ≤ (u.2.2.2.1 2).toInt ∧ (u.2.2.2.1 2).toInt ≤ 1) ∧ (0 ≤ (u.2.2.2.1 3).toInt ∧ (u.2.2.2.1 3).toInt ≤ 16) ∧ (0 ≤ (u.2.2.2.1 4).toInt ∧ (u.2.2.2.1 4).toInt ≤ 16) ∧ (0 ≤ (u.2.2.2.1 5).toInt ∧ (u.2.2.2.1 5).toInt ≤ 1) ∧ (FzC gt (u.2.1 5)) ∧ ((r, (u.2.2.2.1 0), (u.2.2.2.1 1), (u.2.2.2.1 2), (u.2.1 0), (u.2.1 1), (u.2.2.2.1 3), (u.2.2.2.1 4), (u.2.1 2), (u.2.2.2.1 5), (u.2.1 3), (u.2.1 4), (u.2.2.2.1 6), (u.2.1 5), (u.2.1 6)) = E_w_turn G x dn me xb fx fv scl sus fh fc dr kp fs2 br fs fw n lt nf fi f1 f2 f3 fl) ∧ True) (fun u t => Wd D (va_A [(e0, .inr (1, [.ref r0, .ref x0, .ref v0, e_3, e_4, .int dn, .int me, e_7])), (x0, .inr (3, [.ref x1, .int xb])), (x1, .inl (K 0, 64, .inl fx)), (v0, .inl (K 0, 28, .inl fv)), (s0, .inr (7, [.ref s1, .ref s2, .int scl, .int sus])), (s1, .inl (K 0, 60, .inl fh)), (s2, .inl (K 0, 800, .inl fc)), (h0, .inr (2, [.ref h1, .int dr, .int kp])), (h1, .inl (K 0, 476, .inl fs2)), (r0, .inr (10, [.ref a0])), (a0, .inr (0, [.ref m0, .ref w0])), (m0, .inr (3, [.ref m1, .int br])), (m1, .inl (K 0, 64, .inl fs)), (w0, .inl (K 0, 9, .inl fw)), (t0, .inr (9, [.ref t1, .ref t3, .ref t2, .ref l0, .int n, .int lt, .int nf, .int fi, k_8, k_9])), (t1, .inl (K 0, 56, .inl f1)), (t2, .inl (K 0, 6, .inl f2)), (t3, .inl (K 0, 24, .inl f3)), (l0, .inl (K 4, 6, .inr (.inr (.inr (.inr fl)))))] sz) ((fun u => [(e0, .inr (1, [.ref r0, .ref x0, .ref v0, e_3, e_4, .int (u.2.2.2.1 0), .int (u.2.2.2.1 1), e_7])), (x0, .inr (3, [.ref x1, .int (u.2.2.2.1 2)])), (x1, .inl (K 0, 64, .inl (u.2.1 0))), (v0, .inl (K 0, 28, .inl (u.2.1 1))), (s0, .inr (7, [.ref s1, .ref s2, .int scl, .int sus])), (s1, .inl (K 0, 60, .inl fh)), (s2, .inl (K 0, 800, .inl fc)), (h0, .inr (2, [.ref h1, .int (u.2.2.2.1 3), .int (u.2.2.2.1 4)])), (h1, .inl (K 0, 476, .inl (u.2.1 2))), (r0, .inr (10, [.ref a0])), (a0, .inr (0, [.ref m0, .ref w0])), (m0, .inr (3, [.ref m1, .int (u.2.2.2.1 5)])), (m1, .inl (K 0, 64, .inl (u.2.1 3))), (w0, .inl (K 0, 9, .inl (u.2.1 4))), (t0, .inr (9, [.ref t1, .ref t3, .ref t2, .ref l0, .int n, .int lt, .int nf, .int (u.2.2.2.1 6), k_8, k_9])), (t1, .inl (K 0, 56, .inl (u.2.1 5))), (t2, .inl (K 0, 6, .inl (u.2.1 6))), (t3, .inl (K 0, 24, .inl f3)), (l0, .inl (K 4, 6, .inr (.inr (.inr (.inr fl)))))]) u) t) (va_A [(e0, .inr (1, [.ref r0, .ref x0, .ref v0, e_3, e_4, .int dn, .int me, e_7])), (x0, .inr (3, [.ref x1, .int xb])), (x1, .inl (K 0, 64, .inl fx)), (v0, .inl (K 0, 28, .inl fv)), (s0, .inr (7, [.ref s1, .ref s2, .int scl, .int sus])), (s1, .inl (K 0, 60, .inl fh)), (s2, .inl (K 0, 800, .inl fc)), (h0, .inr (2, [.ref h1, .int dr, .int kp])), (h1, .inl (K 0, 476, .inl fs2)), (r0, .inr (10, [.ref a0])), (a0, .inr (0, [.ref m0, .ref w0])), (m0, .inr (3, [.ref m1, .int br])), (m1, .inl (K 0, 64, .inl fs)), (w0, .inl (K 0, 9, .inl fw)), (t0, .inr (9, [.ref t1, .ref t3, .ref t2, .ref l0, .int n, .int lt, .int nf, .int fi, k_8, k_9])), (t1, .inl (K 0, 56, .inl f1)), (t2, .inl (K 0, 6, .inl f2)), (t3, .inl (K 0, 24, .inl f3)), (l0, .inl (K 4, 6, .inr (.inr (.inr (.inr fl)))))] sz)) 0 0 (va_A [(e0, .inr (1, [.ref r0, .ref x0, .ref v0, e_3, e_4, .int dn, .int me, e_7])), (x0, .inr (3, [.ref x1, .int xb])), (x1, .inl (K 0, 64, .inl fx)), (v0, .inl (K 0, 28, .inl fv)), (s0, .inr (7, [.ref s1, .ref s2, .int scl, .int sus])), (s1, .inl (K 0, 60, .inl fh)), (s2, .inl (K 0, 800, .inl fc)), (h0, .inr (2, [.ref h1, .int dr, .int kp])), (h1, .inl (K 0, 476, .inl fs2)), (r0, .inr (10, [.ref a0])), (a0, .inr (0, [.ref m0, .ref w0])), (m0, .inr (3, [.ref m1, .int br])), (m1, .inl (K 0, 64, .inl fs)), (w0, .inl (K 0, 9, .inl fw)), (t0, .inr (9, [.ref t1, .ref t3, .ref t2, .ref l0, .int n, .int lt, .int nf, .int fi, k_8, k_9])), (t1, .inl (K 0, 56, .inl f1)), (t2, .inl (K 0, 6, .inl f2)), (t3, .inl (K 0, 24, .inl f3)), (l0, .inl (K 4, 6, .inr (.inr (.inr (.inr fl)))))] sz) := by
  refine Met.ofW (cc := cX1_turn) (maxL := 11) (ret := (some .boolean)) (by decide +kernel) rfl ?_
  intro p e s m args below meth c s₁ B hml hv
  obtain ⟨rfl, ⟨hsz, hP, hK, hD0, hN⟩, hG, hPl, hRo⟩ := hv
  have hx := B.exec
  have hb := B.bytes
  have hr := B.returns
  have hts := atoms_spec (ws := wsX1_turn) B.pre
  have hown : s.vm.findClass RX1 = some m.cls := findClass_of_methodNamed B.named
  have hlocks := B.notSynchronized
  subst hsz
  have hD := hD0.self (sz := s.heap.size)
  generalize hAe : va_A [(e0, .inr (1, [.ref r0, .ref x0, .ref v0, e_3, e_4, .int dn, .int me, e_7])), (x0, .inr (3, [.ref x1, .int xb])), (x1, .inl (K 0, 64, .inl fx)), (v0, .inl (K 0, 28, .inl fv)), (s0, .inr (7, [.ref s1, .ref s2, .int scl, .int sus])), (s1, .inl (K 0, 60, .inl fh)), (s2, .inl (K 0, 800, .inl fc)), (h0, .inr (2, [.ref h1, .int dr, .int kp])), (h1, .inl (K 0, 476, .inl fs2)), (r0, .inr (10, [.ref a0])), (a0, .inr (0, [.ref m0, .ref w0])), (m0, .inr (3, [.ref m1, .int br])), (m1, .inl (K 0, 64, .inl fs)), (w0, .inl (K 0, 9, .inl fw)), (t0, .inr (9, [.ref t1, .ref t3, .ref t2, .ref l0, .int n, .int lt, .int nf, .int fi, k_8, k_9])), (t1, .inl (K 0, 56, .inl f1)), (t2, .inl (K 0, 6, .inl f2)), (t3, .inl (K 0, 24, .inl f3)), (l0, .inl (K 4, 6, .inr (.inr (.inr (.inr fl)))))] s.heap.size = A at hD hG hPl hRo ⊢
  have hA : ∀ q : Nat, s.heap.size ≤ q → A q := fun q h => by rw [← hAe]; exact Or.inr h
  clear hAe
  have hS : va_S A s.heap s.heap [] := va_S.rf
  replace hP : va_P D vwCl [(e0, .inr (1, [.ref r0, .ref x0, .ref v0, e_3, e_4, .int dn, .int me, e_7])), (x0, .inr (3, [.ref x1, .int xb])), (x1, .inl (K 0, 64, .inl fx)), (v0, .inl (K 0, 28, .inl fv)), (s0, .inr (7, [.ref s1, .ref s2, .int scl, .int sus])), (s1, .inl (K 0, 60, .inl fh)), (s2, .inl (K 0, 800, .inl fc)), (h0, .inr (2, [.ref h1, .int dr, .int kp])), (h1, .inl (K 0, 476, .inl fs2)), (r0, .inr (10, [.ref a0])), (a0, .inr (0, [.ref m0, .ref w0])), (m0, .inr (3, [.ref m1, .int br])), (m1, .inl (K 0, 64, .inl fs)), (w0, .inl (K 0, 9, .inl fw)), (t0, .inr (9, [.ref t1, .ref t3, .ref t2, .ref l0, .int n, .int lt, .int nf, .int fi, k_8, k_9])), (t1, .inl (K 0, 56, .inl f1)), (t2, .inl (K 0, 6, .inl f2)), (t3, .inl (K 0, 24, .inl f3)), (l0, .inl (K 4, 6, .inr (.inr (.inr (.inr fl)))))] s.heap := hP
  have hl := lv_entry [.ref e0, .ref s0, .int x, .ref t0, .ref h0] (n := 11) (Nat.le_of_ble_eq_true rfl)
  rw [lg_entry_eq]
  generalize (lg_sl [.ref e0, .ref s0, .int x, .ref t0, .ref h0] ++ List.replicate (11 - (lg_sl [.ref e0, .ref s0, .int x, .ref t0, .ref h0]).length) Slot.unset).toArray = ls at hl ⊢
  have hl : lv_has ls 11 [(0, .ref e0), (1, .ref s0), (2, .int x), (3, .ref t0), (4, .ref h0)] := hl
  have hw0 : ∀ w ∈ wsX00, w ∈ wsX1_turn := fun w h => (List.mem_cons_of_mem _ (List.mem_append_right _ h))
  have hw1 : ∀ w ∈ wsX10, w ∈ wsX1_turn := fun w h => (List.mem_cons_of_mem _ (List.mem_append_left _ (List.mem_append_left _ (List.mem_append_left _ (List.mem_append_left _ (List.mem_append_left _ (List.mem_append_left _ (List.mem_append_right _ h))))))))
  have hw2 : ∀ w ∈ wsX20, w ∈ wsX1_turn := fun w h => (List.mem_cons_of_mem _ (List.mem_append_left _ (List.mem_append_left _ (List.mem_append_right _ h))))
  have hw3 : ∀ w ∈ wsX30, w ∈ wsX1_turn := fun w h => (List.mem_cons_of_mem _ (List.mem_append_left _ (List.mem_append_left _ (List.mem_append_left _ (List.mem_append_left _ (List.mem_append_right _ h))))))
  have hw7 : ∀ w ∈ wsX70, w ∈ wsX1_turn := fun w h => (List.mem_cons_of_mem _ (List.mem_append_left _ (List.mem_append_left _ (List.mem_append_left _ (List.mem_append_left _ (List.mem_append_left _ (List.mem_append_right _ h)))))))
  have hw9 : ∀ w ∈ wsX90, w ∈ wsX1_turn := fun w h => (List.mem_cons_of_mem _ (List.mem_append_left _ (List.mem_append_left _ (List.mem_append_left _ (List.mem_append_right _ h)))))
  have hw10 : ∀ w ∈ wsX100, w ∈ wsX1_turn := fun w h => (List.mem_cons_of_mem _ (List.mem_append_left _ (List.mem_append_right _ h)))
  generalize hQ : MQ below _ _ s _ _ _ = Q
  have hE := E_w_turn.eq_def G x dn me xb fx fv scl sus fh fc dr kp fs2 br fs fw n lt nf fi f1 f2 f3 fl
  refine lv_aload_n hx hb dX1_turn_0 rfl (lv_at hl 0 rfl) ?_
  refine lv_aload_n hx hb dX1_turn_1 rfl (lv_at hl 3 rfl) ?_
  refine kcv (S := Su) (wr := [(x0, .inr (3, [.ref x1, .int xb])), (x1, .inl (K 0, 64, .inl fx)), (s0, .inr (7, [.ref s1, .ref s2, .int scl, .int sus])), (s1, .inl (K 0, 60, .inl fh)), (s2, .inl (K 0, 800, .inl fc)), (h0, .inr (2, [.ref h1, .int dr, .int kp])), (h1, .inl (K 0, 476, .inl fs2)), (r0, .inr (10, [.ref a0])), (a0, .inr (0, [.ref m0, .ref w0])), (m0, .inr (3, [.ref m1, .int br])), (m1, .inl (K 0, 64, .inl fs)), (w0, .inl (K 0, 9, .inl fw)), (t3, .inl (K 0, 24, .inl f3)), (l0, .inl (K 4, 6, .inr (.inr (.inr (.inr fl)))))]) (va_runV (As := [.ref t0]) (rest := []) ⟨hx, hb, hml, hown, hts⟩ (w_look l D K e0 t0 (.ref r0) (.ref x0) v0 e_3 e_4 dn me e_7 fv t1 (.ref t3) t2 (.ref l0) n (.int lt) (.int nf) fi k_8 k_9 f1 f2 s.heap.size (by first | omega | decide)) (cwV 1 hts gX1_turn_X1_look rfl rfl rfl (by decide +kernel) ⟨Nat.le_of_ble_eq_true rfl, Nat.le_of_ble_eq_true rfl⟩) (mkV hK hN (hP.sub [0, 3, 14, 15, 16] rfl) (hD.sub [0, 3, 14, 15, 16] (by decide +kernel) rfl) (ci := 1) (q0 := 0) rfl rfl) rfl rfl hl.1 rfl (lv_room (Nat.le_of_ble_eq_true rfl)) dX1_turn_2 ⟨Nat.le_of_ble_eq_true rfl, Nat.le_of_ble_eq_true rfl⟩) hP hD hS hA [0, 3, 14, 15, 16] [1, 2, 4, 5, 6, 7, 8, 9, 10, 11, 12, 13, 17, 18] rfl rfl (by decide +kernel) (by decide +kernel) (fun u_1652 H locs hw hP0 hD0 hS0 => ?_)
  clear hP hD hS
  have hP := hP0
  have hD := hD0
  have hS := hS0
  clear hP0 hD0 hS0
  replace hP : va_P D vwCl [(x0, .inr (3, [.ref x1, .int xb])), (x1, .inl (K 0, 64, .inl fx)), (s0, .inr (7, [.ref s1, .ref s2, .int scl, .int sus])), (s1, .inl (K 0, 60, .inl fh)), (s2, .inl (K 0, 800, .inl fc)), (h0, .inr (2, [.ref h1, .int dr, .int kp])), (h1, .inl (K 0, 476, .inl fs2)), (r0, .inr (10, [.ref a0])), (a0, .inr (0, [.ref m0, .ref w0])), (m0, .inr (3, [.ref m1, .int br])), (m1, .inl (K 0, 64, .inl fs)), (w0, .inl (K 0, 9, .inl fw)), (t3, .inl (K 0, 24, .inl f3)), (l0, .inl (K 4, 6, .inr (.inr (.inr (.inr fl))))), (e0, .inr (1, [.ref r0, .ref x0, .ref v0, e_3, e_4, .int dn, .int me, e_7])), (v0, .inl (K 0, 28, .inl (u_1652.2.1 0))), (t0, .inr (9, [.ref t1, .ref t3, .ref t2, .ref l0, .int n, .int lt, .int nf, .int fi, k_8, k_9])), (t1, .inl (K 0, 56, .inl f1)), (t2, .inl (K 0, 6, .inl f2))] H := hP
  replace hD : va_D A [(x0, .inr (3, [.ref x1, .int xb])), (x1, .inl (K 0, 64, .inl fx)), (s0, .inr (7, [.ref s1, .ref s2, .int scl, .int sus])), (s1, .inl (K 0, 60, .inl fh)), (s2, .inl (K 0, 800, .inl fc)), (h0, .inr (2, [.ref h1, .int dr, .int kp])), (h1, .inl (K 0, 476, .inl fs2)), (r0, .inr (10, [.ref a0])), (a0, .inr (0, [.ref m0, .ref w0])), (m0, .inr (3, [.ref m1, .int br])), (m1, .inl (K 0, 64, .inl fs)), (w0, .inl (K 0, 9, .inl fw)), (t3, .inl (K 0, 24, .inl f3)), (l0, .inl (K 4, 6, .inr (.inr (.inr (.inr fl))))), (e0, .inr (1, [.ref r0, .ref x0, .ref v0, e_3, e_4, .int dn, .int me, e_7])), (v0, .inl (K 0, 28, .inl (u_1652.2.1 0))), (t0, .inr (9, [.ref t1, .ref t3, .ref t2, .ref l0, .int n, .int lt, .int nf, .int fi, k_8, k_9])), (t1, .inl (K 0, 56, .inl f1)), (t2, .inl (K 0, 6, .inl f2))] := hD
  obtain ⟨k_1653, -⟩ := hw
  replace hE := hE.trans (Lt_in k_1653)
  refine lv_aload_n hx hb dX1_turn_5 rfl (lv_at hl 1 rfl) ?_
  refine lv_iload_n hx hb dX1_turn_6 rfl (lv_at hl 2 rfl) ?_
  refine lv_iconst (v := 4) hx hb dX1_turn_7 (by decide +kernel) ?_
  refine pci (va_runVN (As := [.int x, .int 4]) (rest := []) ⟨hx, hb, hml, hown, hts⟩ (w_head l D K s0 x 4 s1 (.ref s2) (.int scl) (.int sus) 60 fh H.size (by omega) zfh) ⟨va_cnB 2 hts gX1_turn_X7_head_n65 rfl rfl rfl (nst_at hN 43 rfl) (hts _ mm_X1_turn_148) (by decide +kernel) ⟨Nat.le_of_ble_eq_true rfl, Nat.le_of_ble_eq_true rfl⟩, (hts _ mm_X1_turn_413), (hts _ mm_X1_turn_14)⟩ (mkV hK hN (hP.sub [2, 3] rfl) (hD.sub [2, 3] (by decide +kernel) rfl) (ci := 7) (q0 := 0) rfl rfl) rfl rfl hl.1 rfl (lv_room (Nat.le_of_ble_eq_true rfl)) dX1_turn_8 ⟨Nat.le_of_ble_eq_true rfl, Nat.le_of_ble_eq_true rfl⟩) (fun r_1654 hw => ?_)
  obtain ⟨h_1656, k_1655, -⟩ := hw
  replace hE := hE.trans (Lt_in k_1655)
  refine lv_istore (lv' := [(5, .int r_1654), (0, .ref e0), (1, .ref s0), (2, .int x), (3, .ref t0), (4, .ref h0)]) hx hb dX1_turn_11 hl (by decide +kernel) rfl (fun ls hl => ?_)
  refine lv_iload hx hb dX1_turn_13 (lv_at hl 0 rfl) ?_
  refine lv_iconst (v := (-1)) hx hb dX1_turn_15 (by decide +kernel) ?_
  have j_2052 : ∀ (v_1667 : Int32) (f_1668 : Nat → Int32) (hv_1667 : 0 ≤ v_1667.toInt ∧ v_1667.toInt ≤ 1) (hE : E_w_turn G x dn me xb fx fv scl sus fh fc dr kp fs2 br fs fw n lt nf fi f1 f2 f3 fl = E_w_turn_j51 G x dn me fh fc dr kp fs2 br fs fw n lt nf fi f1 f2 f3 fl (u_1652.2.1 0) v_1667 f_1668) (H : Heap) (locs : List Loc) (hP : va_P D vwCl [(x0, .inr (3, [.ref x1, .int v_1667])), (x1, .inl (K 0, 64, .inl f_1668)), (s0, .inr (7, [.ref s1, .ref s2, .int scl, .int sus])), (s1, .inl (K 0, 60, .inl fh)), (s2, .inl (K 0, 800, .inl fc)), (h0, .inr (2, [.ref h1, .int dr, .int kp])), (h1, .inl (K 0, 476, .inl fs2)), (r0, .inr (10, [.ref a0])), (a0, .inr (0, [.ref m0, .ref w0])), (m0, .inr (3, [.ref m1, .int br])), (m1, .inl (K 0, 64, .inl fs)), (w0, .inl (K 0, 9, .inl fw)), (t3, .inl (K 0, 24, .inl f3)), (l0, .inl (K 4, 6, .inr (.inr (.inr (.inr fl))))), (e0, .inr (1, [.ref r0, .ref x0, .ref v0, e_3, e_4, .int dn, .int me, e_7])), (v0, .inl (K 0, 28, .inl (u_1652.2.1 0))), (t0, .inr (9, [.ref t1, .ref t3, .ref t2, .ref l0, .int n, .int lt, .int nf, .int fi, k_8, k_9])), (t1, .inl (K 0, 56, .inl f1)), (t2, .inl (K 0, 6, .inl f2))] H) (hD : va_D A [(x0, .inr (3, [.ref x1, .int v_1667])), (x1, .inl (K 0, 64, .inl f_1668)), (s0, .inr (7, [.ref s1, .ref s2, .int scl, .int sus])), (s1, .inl (K 0, 60, .inl fh)), (s2, .inl (K 0, 800, .inl fc)), (h0, .inr (2, [.ref h1, .int dr, .int kp])), (h1, .inl (K 0, 476, .inl fs2)), (r0, .inr (10, [.ref a0])), (a0, .inr (0, [.ref m0, .ref w0])), (m0, .inr (3, [.ref m1, .int br])), (m1, .inl (K 0, 64, .inl fs)), (w0, .inl (K 0, 9, .inl fw)), (t3, .inl (K 0, 24, .inl f3)), (l0, .inl (K 4, 6, .inr (.inr (.inr (.inr fl))))), (e0, .inr (1, [.ref r0, .ref x0, .ref v0, e_3, e_4, .int dn, .int me, e_7])), (v0, .inl (K 0, 28, .inl (u_1652.2.1 0))), (t0, .inr (9, [.ref t1, .ref t3, .ref t2, .ref l0, .int n, .int lt, .int nf, .int fi, k_8, k_9])), (t1, .inl (K 0, 56, .inl f1)), (t2, .inl (K 0, 6, .inl f2))]) (hS : va_S A s.heap H locs) (ls : Array Slot) (hl : lv_has ls 11 [(0, .ref e0), (1, .ref s0), (2, .int x), (3, .ref t0), (4, .ref h0)]), W p l e ({ frames := 5, cells := 0, slots := 0, locals := 128 }) s m (([.ref e0, .ref s0, .int x, .ref t0, .ref h0] : List Value).toArray) below meth c H locs 0 0 Q (F0 m 51 ls []) := by
    clear hE hP hD hS hl
    intro v_1667 f_1668 hv_1667 hE H locs hP hD hS ls hl
    replace hE := hE.trans (E_w_turn_j51.eq_def _ _ _ _ _ _ _ _ _ _ _ _ _ _ _ _ _ _ _ _ _ _ _)
    refine lv_aload_n hx hb dX1_turn_51 rfl (lv_at hl 1 rfl) ?_
    refine lv_iload_n hx hb dX1_turn_52 rfl (lv_at hl 2 rfl) ?_
    refine lv_iconst (v := 0) hx hb dX1_turn_53 (by decide +kernel) ?_
    refine pci (va_runVN (As := [.int x, .int 0]) (rest := []) ⟨hx, hb, hml, hown, hts⟩ (w_head l D K s0 x 0 s1 (.ref s2) (.int scl) (.int sus) 60 fh H.size (by omega) zfh) ⟨va_cnB 2 hts gX1_turn_X7_head_n65 rfl rfl rfl (nst_at hN 43 rfl) (hts _ mm_X1_turn_148) (by decide +kernel) ⟨Nat.le_of_ble_eq_true rfl, Nat.le_of_ble_eq_true rfl⟩, (hts _ mm_X1_turn_413), (hts _ mm_X1_turn_14)⟩ (mkV hK hN (hP.sub [2, 3] rfl) (hD.sub [2, 3] (by decide +kernel) rfl) (ci := 7) (q0 := 0) rfl rfl) rfl rfl hl.1 rfl (lv_room (Nat.le_of_ble_eq_true rfl)) dX1_turn_54 ⟨Nat.le_of_ble_eq_true rfl, Nat.le_of_ble_eq_true rfl⟩) (fun r_2053 hw => ?_)
    obtain ⟨h_2055, k_2054, -⟩ := hw
    replace hE := hE.trans (Lt_in k_2054)
    refine lv_istore (lv' := [(6, .int r_2053), (0, .ref e0), (1, .ref s0), (2, .int x), (3, .ref t0), (4, .ref h0)]) hx hb dX1_turn_57 hl (by decide +kernel) rfl (fun ls hl => ?_)
    refine lv_iload hx hb dX1_turn_59 (lv_at hl 0 rfl) ?_
    refine lv_iconst (v := 3) hx hb dX1_turn_61 (by decide +kernel) ?_
    have j_2247 : ∀ (v_2067 : Int32) (v_2068 : Int32) (f_2069 : Nat → Int32) (hv_2068 : 0 ≤ v_2068.toInt ∧ v_2068.toInt ≤ 1) (hE : E_w_turn G x dn me xb fx fv scl sus fh fc dr kp fs2 br fs fw n lt nf fi f1 f2 f3 fl = E_w_turn_j110 G x dn me fh fc dr kp fs2 br fs fw n lt nf fi f1 f2 f3 fl (u_1652.2.1 0) r_2053 v_2067 v_2068 f_2069) (H : Heap) (locs : List Loc) (hP : va_P D vwCl [(s0, .inr (7, [.ref s1, .ref s2, .int scl, .int sus])), (s1, .inl (K 0, 60, .inl fh)), (s2, .inl (K 0, 800, .inl fc)), (h0, .inr (2, [.ref h1, .int dr, .int kp])), (h1, .inl (K 0, 476, .inl fs2)), (r0, .inr (10, [.ref a0])), (a0, .inr (0, [.ref m0, .ref w0])), (m0, .inr (3, [.ref m1, .int br])), (m1, .inl (K 0, 64, .inl fs)), (w0, .inl (K 0, 9, .inl fw)), (t3, .inl (K 0, 24, .inl f3)), (l0, .inl (K 4, 6, .inr (.inr (.inr (.inr fl))))), (e0, .inr (1, [.ref r0, .ref x0, .ref v0, e_3, e_4, .int dn, .int me, e_7])), (t0, .inr (9, [.ref t1, .ref t3, .ref t2, .ref l0, .int n, .int lt, .int nf, .int fi, k_8, k_9])), (t1, .inl (K 0, 56, .inl f1)), (t2, .inl (K 0, 6, .inl f2)), (x0, .inr (3, [.ref x1, .int v_2068])), (x1, .inl (K 0, 64, .inl f_2069)), (v0, .inl (K 0, 28, .inl (u_1652.2.1 0)))] H) (hD : va_D A [(s0, .inr (7, [.ref s1, .ref s2, .int scl, .int sus])), (s1, .inl (K 0, 60, .inl fh)), (s2, .inl (K 0, 800, .inl fc)), (h0, .inr (2, [.ref h1, .int dr, .int kp])), (h1, .inl (K 0, 476, .inl fs2)), (r0, .inr (10, [.ref a0])), (a0, .inr (0, [.ref m0, .ref w0])), (m0, .inr (3, [.ref m1, .int br])), (m1, .inl (K 0, 64, .inl fs)), (w0, .inl (K 0, 9, .inl fw)), (t3, .inl (K 0, 24, .inl f3)), (l0, .inl (K 4, 6, .inr (.inr (.inr (.inr fl))))), (e0, .inr (1, [.ref r0, .ref x0, .ref v0, e_3, e_4, .int dn, .int me, e_7])), (t0, .inr (9, [.ref t1, .ref t3, .ref t2, .ref l0, .int n, .int lt, .int nf, .int fi, k_8, k_9])), (t1, .inl (K 0, 56, .inl f1)), (t2, .inl (K 0, 6, .inl f2)), (x0, .inr (3, [.ref x1, .int v_2068])), (x1, .inl (K 0, 64, .inl f_2069)), (v0, .inl (K 0, 28, .inl (u_1652.2.1 0)))]) (hS : va_S A s.heap H locs) (ls : Array Slot) (hl : lv_has ls 11 [(7, .int v_2067), (6, .int r_2053), (0, .ref e0), (1, .ref s0), (2, .int x), (3, .ref t0), (4, .ref h0)]), W p l e ({ frames := 5, cells := 0, slots := 0, locals := 128 }) s m (([.ref e0, .ref s0, .int x, .ref t0, .ref h0] : List Value).toArray) below meth c H locs 0 0 Q (F0 m 110 ls []) := by
      clear hE hP hD hS hl
      intro v_2067 v_2068 f_2069 hv_2068 hE H locs hP hD hS ls hl
      replace hE := hE.trans (E_w_turn_j110.eq_def _ _ _ _ _ _ _ _ _ _ _ _ _ _ _ _ _ _ _ _ _ _ _ _ _)
      refine lv_iload hx hb dX1_turn_110 (lv_at hl 1 rfl) ?_
      refine lv_iconst (v := 1) hx hb dX1_turn_112 (by decide +kernel) ?_
      have j_2337 : ∀ (v_2262 : Int32) (v_2263 : Int32) (f_2264 : Nat → Int32) (hv_2263 : 0 ≤ v_2263.toInt ∧ v_2263.toInt ≤ 1) (hE : E_w_turn G x dn me xb fx fv scl sus fh fc dr kp fs2 br fs fw n lt nf fi f1 f2 f3 fl = E_w_turn_j178 G dn me dr kp fs2 br fs fw n lt nf fi f1 f2 f3 fl (u_1652.2.1 0) r_2053 v_2067 v_2262 v_2263 f_2264) (H : Heap) (locs : List Loc) (hP : va_P D vwCl [(s0, .inr (7, [.ref s1, .ref s2, .int scl, .int sus])), (s1, .inl (K 0, 60, .inl fh)), (s2, .inl (K 0, 800, .inl fc)), (h0, .inr (2, [.ref h1, .int dr, .int kp])), (h1, .inl (K 0, 476, .inl fs2)), (r0, .inr (10, [.ref a0])), (a0, .inr (0, [.ref m0, .ref w0])), (m0, .inr (3, [.ref m1, .int br])), (m1, .inl (K 0, 64, .inl fs)), (w0, .inl (K 0, 9, .inl fw)), (t3, .inl (K 0, 24, .inl f3)), (l0, .inl (K 4, 6, .inr (.inr (.inr (.inr fl))))), (e0, .inr (1, [.ref r0, .ref x0, .ref v0, e_3, e_4, .int dn, .int me, e_7])), (t0, .inr (9, [.ref t1, .ref t3, .ref t2, .ref l0, .int n, .int lt, .int nf, .int fi, k_8, k_9])), (t1, .inl (K 0, 56, .inl f1)), (t2, .inl (K 0, 6, .inl f2)), (x0, .inr (3, [.ref x1, .int v_2263])), (x1, .inl (K 0, 64, .inl f_2264)), (v0, .inl (K 0, 28, .inl (u_1652.2.1 0)))] H) (hD : va_D A [(s0, .inr (7, [.ref s1, .ref s2, .int scl, .int sus])), (s1, .inl (K 0, 60, .inl fh)), (s2, .inl (K 0, 800, .inl fc)), (h0, .inr (2, [.ref h1, .int dr, .int kp])), (h1, .inl (K 0, 476, .inl fs2)), (r0, .inr (10, [.ref a0])), (a0, .inr (0, [.ref m0, .ref w0])), (m0, .inr (3, [.ref m1, .int br])), (m1, .inl (K 0, 64, .inl fs)), (w0, .inl (K 0, 9, .inl fw)), (t3, .inl (K 0, 24, .inl f3)), (l0, .inl (K 4, 6, .inr (.inr (.inr (.inr fl))))), (e0, .inr (1, [.ref r0, .ref x0, .ref v0, e_3, e_4, .int dn, .int me, e_7])), (t0, .inr (9, [.ref t1, .ref t3, .ref t2, .ref l0, .int n, .int lt, .int nf, .int fi, k_8, k_9])), (t1, .inl (K 0, 56, .inl f1)), (t2, .inl (K 0, 6, .inl f2)), (x0, .inr (3, [.ref x1, .int v_2263])), (x1, .inl (K 0, 64, .inl f_2264)), (v0, .inl (K 0, 28, .inl (u_1652.2.1 0)))]) (hS : va_S A s.heap H locs) (ls : Array Slot) (hl : lv_has ls 11 [(9, .int v_2262), (7, .int v_2067), (6, .int r_2053), (0, .ref e0), (3, .ref t0), (4, .ref h0)]), W p l e ({ frames := 5, cells := 0, slots := 0, locals := 128 }) s m (([.ref e0, .ref s0, .int x, .ref t0, .ref h0] : List Value).toArray) below meth c H locs 0 0 Q (F0 m 178 ls []) := by
        clear hE hP hD hS hl
        intro v_2262 v_2263 f_2264 hv_2263 hE H locs hP hD hS ls hl
        replace hE := hE.trans (E_w_turn_j178.eq_def _ _ _ _ _ _ _ _ _ _ _ _ _ _ _ _ _ _ _ _ _ _ _)
        refine lv_aload hx hb dX1_turn_178 (lv_at hl 5 rfl) ?_
        refine lv_aload_n hx hb dX1_turn_180 rfl (lv_at hl 4 rfl) ?_
        refine kcv (S := Su) (wr := [(s0, .inr (7, [.ref s1, .ref s2, .int scl, .int sus])), (s1, .inl (K 0, 60, .inl fh)), (s2, .inl (K 0, 800, .inl fc)), (r0, .inr (10, [.ref a0])), (a0, .inr (0, [.ref m0, .ref w0])), (m0, .inr (3, [.ref m1, .int br])), (m1, .inl (K 0, 64, .inl fs)), (w0, .inl (K 0, 9, .inl fw)), (t3, .inl (K 0, 24, .inl f3)), (l0, .inl (K 4, 6, .inr (.inr (.inr (.inr fl))))), (e0, .inr (1, [.ref r0, .ref x0, .ref v0, e_3, e_4, .int dn, .int me, e_7])), (x0, .inr (3, [.ref x1, .int v_2263])), (x1, .inl (K 0, 64, .inl f_2264)), (v0, .inl (K 0, 28, .inl (u_1652.2.1 0)))]) (va_runVN (As := [.ref t0]) (rest := []) ⟨hx, hb, hml, hown, hts⟩ (w_draft l D K h0 t0 h1 dr (.int kp) fs2 t1 (.ref t3) t2 (.ref l0) (.int n) (.int lt) (.int nf) fi k_8 k_9 f1 f2 H.size (by first | omega | decide)) ⟨va_cnB 1 hts gX1_turn_X2_draft_n87 rfl rfl rfl (nst_at hN 48 rfl) (hts _ mm_X1_turn_153) (by decide +kernel) ⟨Nat.le_of_ble_eq_true rfl, Nat.le_of_ble_eq_true rfl⟩, (hts _ mm_X1_turn_593), (hts _ mm_X1_turn_41)⟩ (mkV hK hN (hP.sub [3, 4, 13, 14, 15] rfl) (hD.sub [3, 4, 13, 14, 15] (by decide +kernel) rfl) (ci := 2) (q0 := 0) rfl rfl) rfl rfl hl.1 rfl (lv_room (Nat.le_of_ble_eq_true rfl)) dX1_turn_181 ⟨Nat.le_of_ble_eq_true rfl, Nat.le_of_ble_eq_true rfl⟩) hP hD hS hA [3, 4, 13, 14, 15] [0, 1, 2, 5, 6, 7, 8, 9, 10, 11, 12, 16, 17, 18] rfl rfl (by decide +kernel) (by decide +kernel) (fun u_2339 H locs hw hP0 hD0 hS0 => ?_)
        clear hP hD hS
        have hP := hP0
        have hD := hD0
        have hS := hS0
        clear hP0 hD0 hS0
        replace hP : va_P D vwCl [(s0, .inr (7, [.ref s1, .ref s2, .int scl, .int sus])), (s1, .inl (K 0, 60, .inl fh)), (s2, .inl (K 0, 800, .inl fc)), (r0, .inr (10, [.ref a0])), (a0, .inr (0, [.ref m0, .ref w0])), (m0, .inr (3, [.ref m1, .int br])), (m1, .inl (K 0, 64, .inl fs)), (w0, .inl (K 0, 9, .inl fw)), (t3, .inl (K 0, 24, .inl f3)), (l0, .inl (K 4, 6, .inr (.inr (.inr (.inr fl))))), (e0, .inr (1, [.ref r0, .ref x0, .ref v0, e_3, e_4, .int dn, .int me, e_7])), (x0, .inr (3, [.ref x1, .int v_2263])), (x1, .inl (K 0, 64, .inl f_2264)), (v0, .inl (K 0, 28, .inl (u_1652.2.1 0))), (h0, .inr (2, [.ref h1, .int dr, .int kp])), (h1, .inl (K 0, 476, .inl (u_2339.2.1 0))), (t0, .inr (9, [.ref t1, .ref t3, .ref t2, .ref l0, .int n, .int lt, .int nf, .int fi, k_8, k_9])), (t1, .inl (K 0, 56, .inl f1)), (t2, .inl (K 0, 6, .inl f2))] H := hP
        replace hD : va_D A [(s0, .inr (7, [.ref s1, .ref s2, .int scl, .int sus])), (s1, .inl (K 0, 60, .inl fh)), (s2, .inl (K 0, 800, .inl fc)), (r0, .inr (10, [.ref a0])), (a0, .inr (0, [.ref m0, .ref w0])), (m0, .inr (3, [.ref m1, .int br])), (m1, .inl (K 0, 64, .inl fs)), (w0, .inl (K 0, 9, .inl fw)), (t3, .inl (K 0, 24, .inl f3)), (l0, .inl (K 4, 6, .inr (.inr (.inr (.inr fl))))), (e0, .inr (1, [.ref r0, .ref x0, .ref v0, e_3, e_4, .int dn, .int me, e_7])), (x0, .inr (3, [.ref x1, .int v_2263])), (x1, .inl (K 0, 64, .inl f_2264)), (v0, .inl (K 0, 28, .inl (u_1652.2.1 0))), (h0, .inr (2, [.ref h1, .int dr, .int kp])), (h1, .inl (K 0, 476, .inl (u_2339.2.1 0))), (t0, .inr (9, [.ref t1, .ref t3, .ref t2, .ref l0, .int n, .int lt, .int nf, .int fi, k_8, k_9])), (t1, .inl (K 0, 56, .inl f1)), (t2, .inl (K 0, 6, .inl f2))] := hD
        obtain ⟨k_2340, -⟩ := hw
        replace hE := hE.trans (Lt_in k_2340)
        refine lv_iload hx hb dX1_turn_184 (lv_at hl 2 rfl) ?_
        have j_2379 : ∀ (v_2364 : Int32) (v_2365 : Int32) (v_2366 : Int32) (v_2367 : Int32) (f_2368 : Nat → Int32) (f_2369 : Nat → Int32) (f_2370 : Nat → Int32) (f_2371 : Nat → Int32) (hv_2366 : 0 ≤ v_2366.toInt ∧ v_2366.toInt ≤ 1) (hf_2370_0 : FzC gt f_2370) (hE : E_w_turn G x dn me xb fx fv scl sus fh fc dr kp fs2 br fs fw n lt nf fi f1 f2 f3 fl = E_w_turn_j277 dn dr kp (u_1652.2.1 0) r_2053 v_2263 f_2264 (u_2339.2.1 0) v_2364 v_2365 v_2366 v_2367 f_2368 f_2369 f_2370 f_2371) (H : Heap) (locs : List Loc) (hP : va_P D vwCl [(s0, .inr (7, [.ref s1, .ref s2, .int scl, .int sus])), (s1, .inl (K 0, 60, .inl fh)), (s2, .inl (K 0, 800, .inl fc)), (e0, .inr (1, [.ref r0, .ref x0, .ref v0, e_3, e_4, .int dn, .int v_2365, e_7])), (x0, .inr (3, [.ref x1, .int v_2263])), (x1, .inl (K 0, 64, .inl f_2264)), (v0, .inl (K 0, 28, .inl (u_1652.2.1 0))), (h0, .inr (2, [.ref h1, .int dr, .int kp])), (h1, .inl (K 0, 476, .inl (u_2339.2.1 0))), (r0, .inr (10, [.ref a0])), (a0, .inr (0, [.ref m0, .ref w0])), (m0, .inr (3, [.ref m1, .int v_2366])), (m1, .inl (K 0, 64, .inl f_2368)), (w0, .inl (K 0, 9, .inl f_2369)), (t0, .inr (9, [.ref t1, .ref t3, .ref t2, .ref l0, .int n, .int lt, .int nf, .int v_2367, k_8, k_9])), (t1, .inl (K 0, 56, .inl f_2370)), (t2, .inl (K 0, 6, .inl f_2371)), (t3, .inl (K 0, 24, .inl f3)), (l0, .inl (K 4, 6, .inr (.inr (.inr (.inr fl)))))] H) (hD : va_D A [(s0, .inr (7, [.ref s1, .ref s2, .int scl, .int sus])), (s1, .inl (K 0, 60, .inl fh)), (s2, .inl (K 0, 800, .inl fc)), (e0, .inr (1, [.ref r0, .ref x0, .ref v0, e_3, e_4, .int dn, .int v_2365, e_7])), (x0, .inr (3, [.ref x1, .int v_2263])), (x1, .inl (K 0, 64, .inl f_2264)), (v0, .inl (K 0, 28, .inl (u_1652.2.1 0))), (h0, .inr (2, [.ref h1, .int dr, .int kp])), (h1, .inl (K 0, 476, .inl (u_2339.2.1 0))), (r0, .inr (10, [.ref a0])), (a0, .inr (0, [.ref m0, .ref w0])), (m0, .inr (3, [.ref m1, .int v_2366])), (m1, .inl (K 0, 64, .inl f_2368)), (w0, .inl (K 0, 9, .inl f_2369)), (t0, .inr (9, [.ref t1, .ref t3, .ref t2, .ref l0, .int n, .int lt, .int nf, .int v_2367, k_8, k_9])), (t1, .inl (K 0, 56, .inl f_2370)), (t2, .inl (K 0, 6, .inl f_2371)), (t3, .inl (K 0, 24, .inl f3)), (l0, .inl (K 4, 6, .inr (.inr (.inr (.inr fl)))))]) (hS : va_S A s.heap H locs) (ls : Array Slot) (hl : lv_has ls 11 [(10, .int v_2364), (6, .int r_2053), (0, .ref e0), (4, .ref h0)]), W p l e ({ frames := 5, cells := 0, slots := 0, locals := 128 }) s m (([.ref e0, .ref s0, .int x, .ref t0, .ref h0] : List Value).toArray) below meth c H locs 0 0 Q (F0 m 277 ls []) := by
          clear hE hP hD hS hl
          intro v_2364 v_2365 v_2366 v_2367 f_2368 f_2369 f_2370 f_2371 hv_2366 hf_2370_0 hE H locs hP hD hS ls hl
          replace hE := hE.trans (E_w_turn_j277.eq_def _ _ _ _ _ _ _ _ _ _ _ _ _ _ _ _)
          refine lv_iload hx hb dX1_turn_277 (lv_at hl 0 rfl) ?_
          refine lv_if_ge (tgt := 284) hx hb dX1_turn_279 (by decide +kernel) (fun c_2380 => ?_) (fun c_2380 => ?_)
          · have c_2380i := i_le (x := 0) (y := v_2364.toInt) rfl rfl c_2380
            replace hE := hE.trans (if_pos c_2380)
            refine lv_aload hx hb dX1_turn_284 (lv_at hl 3 rfl) ?_
            refine lv_iload hx hb dX1_turn_286 (lv_at hl 1 rfl) ?_
            refine kcv (S := Su) (wr := [(s0, .inr (7, [.ref s1, .ref s2, .int scl, .int sus])), (s1, .inl (K 0, 60, .inl fh)), (s2, .inl (K 0, 800, .inl fc)), (e0, .inr (1, [.ref r0, .ref x0, .ref v0, e_3, e_4, .int dn, .int v_2365, e_7])), (x0, .inr (3, [.ref x1, .int v_2263])), (x1, .inl (K 0, 64, .inl f_2264)), (v0, .inl (K 0, 28, .inl (u_1652.2.1 0))), (r0, .inr (10, [.ref a0])), (a0, .inr (0, [.ref m0, .ref w0])), (m0, .inr (3, [.ref m1, .int v_2366])), (m1, .inl (K 0, 64, .inl f_2368)), (w0, .inl (K 0, 9, .inl f_2369)), (t0, .inr (9, [.ref t1, .ref t3, .ref t2, .ref l0, .int n, .int lt, .int nf, .int v_2367, k_8, k_9])), (t1, .inl (K 0, 56, .inl f_2370)), (t2, .inl (K 0, 6, .inl f_2371)), (t3, .inl (K 0, 24, .inl f3)), (l0, .inl (K 4, 6, .inr (.inr (.inr (.inr fl)))))]) (va_runVN (As := [.int r_2053]) (rest := []) ⟨hx, hb, hml, hown, hts⟩ (w_keep l D K h0 r_2053 h1 dr kp (u_2339.2.1 0) H.size (by first | omega | decide) (by first | omega | decide)) ⟨va_cnB 1 hts gX1_turn_X2_keep_n105 rfl rfl rfl (nst_at hN 64 rfl) (hts _ mm_X1_turn_153) (by decide +kernel) ⟨Nat.le_of_ble_eq_true rfl, Nat.le_of_ble_eq_true rfl⟩, (hts _ mm_X1_turn_629), (hts _ mm_X1_turn_52)⟩ (mkV hK hN (hP.sub [7, 8] rfl) (hD.sub [7, 8] (by decide +kernel) rfl) (ci := 2) (q0 := 0) rfl rfl) rfl rfl hl.1 rfl (lv_room (Nat.le_of_ble_eq_true rfl)) dX1_turn_288 ⟨Nat.le_of_ble_eq_true rfl, Nat.le_of_ble_eq_true rfl⟩) hP hD hS hA [7, 8] [0, 1, 2, 3, 4, 5, 6, 9, 10, 11, 12, 13, 14, 15, 16, 17, 18] rfl rfl (by decide +kernel) (by decide +kernel) (fun u_2382 H locs hw hP0 hD0 hS0 => ?_)
            clear hP hD hS
            have hP := hP0
            have hD := hD0
            have hS := hS0
            clear hP0 hD0 hS0
            replace hP : va_P D vwCl [(s0, .inr (7, [.ref s1, .ref s2, .int scl, .int sus])), (s1, .inl (K 0, 60, .inl fh)), (s2, .inl (K 0, 800, .inl fc)), (e0, .inr (1, [.ref r0, .ref x0, .ref v0, e_3, e_4, .int dn, .int v_2365, e_7])), (x0, .inr (3, [.ref x1, .int v_2263])), (x1, .inl (K 0, 64, .inl f_2264)), (v0, .inl (K 0, 28, .inl (u_1652.2.1 0))), (r0, .inr (10, [.ref a0])), (a0, .inr (0, [.ref m0, .ref w0])), (m0, .inr (3, [.ref m1, .int v_2366])), (m1, .inl (K 0, 64, .inl f_2368)), (w0, .inl (K 0, 9, .inl f_2369)), (t0, .inr (9, [.ref t1, .ref t3, .ref t2, .ref l0, .int n, .int lt, .int nf, .int v_2367, k_8, k_9])), (t1, .inl (K 0, 56, .inl f_2370)), (t2, .inl (K 0, 6, .inl f_2371)), (t3, .inl (K 0, 24, .inl f3)), (l0, .inl (K 4, 6, .inr (.inr (.inr (.inr fl))))), (h0, .inr (2, [.ref h1, .int (u_2382.2.2.2.1 0), .int (u_2382.2.2.2.1 1)])), (h1, .inl (K 0, 476, .inl (u_2382.2.1 0)))] H := hP
            replace hD : va_D A [(s0, .inr (7, [.ref s1, .ref s2, .int scl, .int sus])), (s1, .inl (K 0, 60, .inl fh)), (s2, .inl (K 0, 800, .inl fc)), (e0, .inr (1, [.ref r0, .ref x0, .ref v0, e_3, e_4, .int dn, .int v_2365, e_7])), (x0, .inr (3, [.ref x1, .int v_2263])), (x1, .inl (K 0, 64, .inl f_2264)), (v0, .inl (K 0, 28, .inl (u_1652.2.1 0))), (r0, .inr (10, [.ref a0])), (a0, .inr (0, [.ref m0, .ref w0])), (m0, .inr (3, [.ref m1, .int v_2366])), (m1, .inl (K 0, 64, .inl f_2368)), (w0, .inl (K 0, 9, .inl f_2369)), (t0, .inr (9, [.ref t1, .ref t3, .ref t2, .ref l0, .int n, .int lt, .int nf, .int v_2367, k_8, k_9])), (t1, .inl (K 0, 56, .inl f_2370)), (t2, .inl (K 0, 6, .inl f_2371)), (t3, .inl (K 0, 24, .inl f3)), (l0, .inl (K 4, 6, .inr (.inr (.inr (.inr fl))))), (h0, .inr (2, [.ref h1, .int (u_2382.2.2.2.1 0), .int (u_2382.2.2.2.1 1)])), (h1, .inl (K 0, 476, .inl (u_2382.2.1 0)))] := hD
            obtain ⟨k_2383, k_2384, k_2385, -⟩ := hw
            replace hE := (hE.trans (Lt2_in k_2385)).trans (Lt2_in rfl)
            refine lv_aload_n hx hb dX1_turn_291 rfl (lv_at hl 2 rfl) ?_
            refine lv_dup hx hb dX1_turn_292 rfl ?_
            refine va_get (ci := 1) (v := .int dn) (C := RX1) (T := TX1) (N := 8) hx hb hts hw1 hown hK hP 3 rfl rfl 5 (by decide +kernel) (hts _ mm_X1_turn_289) (fun _ h9 => h9) rfl dX1_turn_293 ?_
            refine lv_iconst (v := 1) hx hb dX1_turn_296 (by decide +kernel) ?_
            refine lv_iadd hx hb dX1_turn_297 ?_
            refine lv_topi (fun x_2386 ex_2386 => ?_)
            replace hE := hE.trans (Lt_in ex_2386)
            refine va_put (ci := 1) (v := .int x_2386) (ty := .int) (C := RX1) (T := TX1) (N := 8) hx hb hts hw1 tyX1 tyX1_ok nmX1 hown hK hP hD hS 3 rfl rfl 5 (by decide +kernel) (hts _ mm_X1_turn_289) (fun _ h9 => h9) rfl (by decide +kernel) (by first | rfl | decide) (by first | rfl | decide) (Nat.le_of_ble_eq_true rfl) dX1_turn_298 (fun H locs hP0 hD0 hS0 => ?_)
            clear hP hD hS
            have hP := hP0
            have hD := hD0
            have hS := hS0
            clear hP0 hD0 hS0
            replace hP : va_P D vwCl [(s0, .inr (7, [.ref s1, .ref s2, .int scl, .int sus])), (s1, .inl (K 0, 60, .inl fh)), (s2, .inl (K 0, 800, .inl fc)), (e0, .inr (1, [.ref r0, .ref x0, .ref v0, e_3, e_4, .int x_2386, .int v_2365, e_7])), (x0, .inr (3, [.ref x1, .int v_2263])), (x1, .inl (K 0, 64, .inl f_2264)), (v0, .inl (K 0, 28, .inl (u_1652.2.1 0))), (r0, .inr (10, [.ref a0])), (a0, .inr (0, [.ref m0, .ref w0])), (m0, .inr (3, [.ref m1, .int v_2366])), (m1, .inl (K 0, 64, .inl f_2368)), (w0, .inl (K 0, 9, .inl f_2369)), (t0, .inr (9, [.ref t1, .ref t3, .ref t2, .ref l0, .int n, .int lt, .int nf, .int v_2367, k_8, k_9])), (t1, .inl (K 0, 56, .inl f_2370)), (t2, .inl (K 0, 6, .inl f_2371)), (t3, .inl (K 0, 24, .inl f3)), (l0, .inl (K 4, 6, .inr (.inr (.inr (.inr fl))))), (h0, .inr (2, [.ref h1, .int (u_2382.2.2.2.1 0), .int (u_2382.2.2.2.1 1)])), (h1, .inl (K 0, 476, .inl (u_2382.2.1 0)))] H := hP
            replace hD : va_D A [(s0, .inr (7, [.ref s1, .ref s2, .int scl, .int sus])), (s1, .inl (K 0, 60, .inl fh)), (s2, .inl (K 0, 800, .inl fc)), (e0, .inr (1, [.ref r0, .ref x0, .ref v0, e_3, e_4, .int x_2386, .int v_2365, e_7])), (x0, .inr (3, [.ref x1, .int v_2263])), (x1, .inl (K 0, 64, .inl f_2264)), (v0, .inl (K 0, 28, .inl (u_1652.2.1 0))), (r0, .inr (10, [.ref a0])), (a0, .inr (0, [.ref m0, .ref w0])), (m0, .inr (3, [.ref m1, .int v_2366])), (m1, .inl (K 0, 64, .inl f_2368)), (w0, .inl (K 0, 9, .inl f_2369)), (t0, .inr (9, [.ref t1, .ref t3, .ref t2, .ref l0, .int n, .int lt, .int nf, .int v_2367, k_8, k_9])), (t1, .inl (K 0, 56, .inl f_2370)), (t2, .inl (K 0, 6, .inl f_2371)), (t3, .inl (K 0, 24, .inl f3)), (l0, .inl (K 4, 6, .inr (.inr (.inr (.inr fl))))), (h0, .inr (2, [.ref h1, .int (u_2382.2.2.2.1 0), .int (u_2382.2.2.2.1 1)])), (h1, .inl (K 0, 476, .inl (u_2382.2.1 0)))] := hD
            refine lv_iconst (v := 1) hx hb dX1_turn_301 (by decide +kernel) ?_
            rw [← hQ]
            have hP9 := hP.sub (ws' := [(e0, .inr (1, [.ref r0, .ref x0, .ref v0, e_3, e_4, .int x_2386, .int v_2365, e_7])), (x0, .inr (3, [.ref x1, .int v_2263])), (x1, .inl (K 0, 64, .inl f_2264)), (v0, .inl (K 0, 28, .inl (u_1652.2.1 0))), (s0, .inr (7, [.ref s1, .ref s2, .int scl, .int sus])), (s1, .inl (K 0, 60, .inl fh)), (s2, .inl (K 0, 800, .inl fc)), (h0, .inr (2, [.ref h1, .int (u_2382.2.2.2.1 0), .int (u_2382.2.2.2.1 1)])), (h1, .inl (K 0, 476, .inl (u_2382.2.1 0))), (r0, .inr (10, [.ref a0])), (a0, .inr (0, [.ref m0, .ref w0])), (m0, .inr (3, [.ref m1, .int v_2366])), (m1, .inl (K 0, 64, .inl f_2368)), (w0, .inl (K 0, 9, .inl f_2369)), (t0, .inr (9, [.ref t1, .ref t3, .ref t2, .ref l0, .int n, .int lt, .int nf, .int v_2367, k_8, k_9])), (t1, .inl (K 0, 56, .inl f_2370)), (t2, .inl (K 0, 6, .inl f_2371)), (t3, .inl (K 0, 24, .inl f3)), (l0, .inl (K 4, 6, .inr (.inr (.inr (.inr fl)))))]) [3, 4, 5, 6, 0, 1, 2, 17, 18, 7, 8, 9, 10, 11, 12, 13, 14, 15, 16] rfl
            have hD9 := hD.sub (ws' := [(e0, .inr (1, [.ref r0, .ref x0, .ref v0, e_3, e_4, .int x_2386, .int v_2365, e_7])), (x0, .inr (3, [.ref x1, .int v_2263])), (x1, .inl (K 0, 64, .inl f_2264)), (v0, .inl (K 0, 28, .inl (u_1652.2.1 0))), (s0, .inr (7, [.ref s1, .ref s2, .int scl, .int sus])), (s1, .inl (K 0, 60, .inl fh)), (s2, .inl (K 0, 800, .inl fc)), (h0, .inr (2, [.ref h1, .int (u_2382.2.2.2.1 0), .int (u_2382.2.2.2.1 1)])), (h1, .inl (K 0, 476, .inl (u_2382.2.1 0))), (r0, .inr (10, [.ref a0])), (a0, .inr (0, [.ref m0, .ref w0])), (m0, .inr (3, [.ref m1, .int v_2366])), (m1, .inl (K 0, 64, .inl f_2368)), (w0, .inl (K 0, 9, .inl f_2369)), (t0, .inr (9, [.ref t1, .ref t3, .ref t2, .ref l0, .int n, .int lt, .int nf, .int v_2367, k_8, k_9])), (t1, .inl (K 0, 56, .inl f_2370)), (t2, .inl (K 0, 6, .inl f_2371)), (t3, .inl (K 0, 24, .inl f3)), (l0, .inl (K 4, 6, .inr (.inr (.inr (.inr fl)))))]) [3, 4, 5, 6, 0, 1, 2, 17, 18, 7, 8, 9, 10, 11, 12, 13, 14, 15, 16] (by decide +kernel) rfl
            exact W.zret (v := 1) hx hb hr (by decide +kernel) (fun t ht hW => ⟨⟨1, ((fun _ => 0, fun i => ([f_2264, (u_1652.2.1 0), (u_2382.2.1 0), f_2368, f_2369, f_2370, f_2371] : List _).getD i (fun _ => 0), fun _ => fun _ => 0, fun i => ([x_2386, v_2365, v_2263, (u_2382.2.2.2.1 0), (u_2382.2.2.2.1 1), v_2366, v_2367] : List _).getD i (0), fun _ => 0, fun _ => fun _ => none) : Su), rfl, ⟨(show 0 ≤ (1 : Int32).toInt ∧ (1 : Int32).toInt ≤ 1 by decide), (show 0 ≤ (v_2263 : Int32).toInt ∧ (v_2263 : Int32).toInt ≤ 1 by omega), (show 0 ≤ ((u_2382.2.2.2.1 0) : Int32).toInt ∧ ((u_2382.2.2.2.1 0) : Int32).toInt ≤ 16 by omega), (show 0 ≤ ((u_2382.2.2.2.1 1) : Int32).toInt ∧ ((u_2382.2.2.2.1 1) : Int32).toInt ≤ 16 by omega), (show 0 ≤ (v_2366 : Int32).toInt ∧ (v_2366 : Int32).toInt ≤ 1 by omega), hf_2370_0, hE.symm, trivial⟩, (⟨by rw [ht]; exact hP9, hD9⟩ : Wd D A _ t)⟩, hS.F ht⟩) hS.2.2 dX1_turn_302
          · have c_2380i := i_nle (x := 0) (y := v_2364.toInt) rfl rfl c_2380
            replace hE := hE.trans (if_neg c_2380)
            refine lv_iconst (v := 0) hx hb dX1_turn_282 (by decide +kernel) ?_
            rw [← hQ]
            have hP9 := hP.sub (ws' := [(e0, .inr (1, [.ref r0, .ref x0, .ref v0, e_3, e_4, .int dn, .int v_2365, e_7])), (x0, .inr (3, [.ref x1, .int v_2263])), (x1, .inl (K 0, 64, .inl f_2264)), (v0, .inl (K 0, 28, .inl (u_1652.2.1 0))), (s0, .inr (7, [.ref s1, .ref s2, .int scl, .int sus])), (s1, .inl (K 0, 60, .inl fh)), (s2, .inl (K 0, 800, .inl fc)), (h0, .inr (2, [.ref h1, .int dr, .int kp])), (h1, .inl (K 0, 476, .inl (u_2339.2.1 0))), (r0, .inr (10, [.ref a0])), (a0, .inr (0, [.ref m0, .ref w0])), (m0, .inr (3, [.ref m1, .int v_2366])), (m1, .inl (K 0, 64, .inl f_2368)), (w0, .inl (K 0, 9, .inl f_2369)), (t0, .inr (9, [.ref t1, .ref t3, .ref t2, .ref l0, .int n, .int lt, .int nf, .int v_2367, k_8, k_9])), (t1, .inl (K 0, 56, .inl f_2370)), (t2, .inl (K 0, 6, .inl f_2371)), (t3, .inl (K 0, 24, .inl f3)), (l0, .inl (K 4, 6, .inr (.inr (.inr (.inr fl)))))]) [3, 4, 5, 6, 0, 1, 2, 7, 8, 9, 10, 11, 12, 13, 14, 15, 16, 17, 18] rfl
            have hD9 := hD.sub (ws' := [(e0, .inr (1, [.ref r0, .ref x0, .ref v0, e_3, e_4, .int dn, .int v_2365, e_7])), (x0, .inr (3, [.ref x1, .int v_2263])), (x1, .inl (K 0, 64, .inl f_2264)), (v0, .inl (K 0, 28, .inl (u_1652.2.1 0))), (s0, .inr (7, [.ref s1, .ref s2, .int scl, .int sus])), (s1, .inl (K 0, 60, .inl fh)), (s2, .inl (K 0, 800, .inl fc)), (h0, .inr (2, [.ref h1, .int dr, .int kp])), (h1, .inl (K 0, 476, .inl (u_2339.2.1 0))), (r0, .inr (10, [.ref a0])), (a0, .inr (0, [.ref m0, .ref w0])), (m0, .inr (3, [.ref m1, .int v_2366])), (m1, .inl (K 0, 64, .inl f_2368)), (w0, .inl (K 0, 9, .inl f_2369)), (t0, .inr (9, [.ref t1, .ref t3, .ref t2, .ref l0, .int n, .int lt, .int nf, .int v_2367, k_8, k_9])), (t1, .inl (K 0, 56, .inl f_2370)), (t2, .inl (K 0, 6, .inl f_2371)), (t3, .inl (K 0, 24, .inl f3)), (l0, .inl (K 4, 6, .inr (.inr (.inr (.inr fl)))))]) [3, 4, 5, 6, 0, 1, 2, 7, 8, 9, 10, 11, 12, 13, 14, 15, 16, 17, 18] (by decide +kernel) rfl
            exact W.zret (v := 0) hx hb hr (by decide +kernel) (fun t ht hW => ⟨⟨0, ((fun _ => 0, fun i => ([f_2264, (u_1652.2.1 0), (u_2339.2.1 0), f_2368, f_2369, f_2370, f_2371] : List _).getD i (fun _ => 0), fun _ => fun _ => 0, fun i => ([dn, v_2365, v_2263, dr, kp, v_2366, v_2367] : List _).getD i (0), fun _ => 0, fun _ => fun _ => none) : Su), rfl, ⟨(show 0 ≤ (0 : Int32).toInt ∧ (0 : Int32).toInt ≤ 1 by decide), (show 0 ≤ (v_2263 : Int32).toInt ∧ (v_2263 : Int32).toInt ≤ 1 by omega), (show 0 ≤ (dr : Int32).toInt ∧ (dr : Int32).toInt ≤ 16 by omega), (show 0 ≤ (kp : Int32).toInt ∧ (kp : Int32).toInt ≤ 16 by omega), (show 0 ≤ (v_2366 : Int32).toInt ∧ (v_2366 : Int32).toInt ≤ 1 by omega), hf_2370_0, hE.symm, trivial⟩, (⟨by rw [ht]; exact hP9, hD9⟩ : Wd D A _ t)⟩, hS.F ht⟩) hS.2.2 dX1_turn_283
        have w_2387 : r_2053.toInt = 0 ∨ r_2053.toInt = 1 ∨ r_2053.toInt = 2 ∨ (r_2053.toInt < 0 ∨ 2 < r_2053.toInt) := by omega
        rcases w_2387 with w_2387 | w_2387 | w_2387 | w_2387
        · replace hE := (hE).trans (if_pos (by first | omega | (rw [rfl]; omega)))
          refine lv_tableIn (tgt := 212) hx hb dX1_turn_186 (by omega) (by omega) (by rw [w_2387]; rfl) (by decide +kernel) ?_
          refine lv_aload_n hx hb dX1_turn_212 rfl (lv_at hl 3 rfl) ?_
          refine va_get (ci := 1) (v := .ref r0) (C := RX1) (T := TX1) (N := 8) hx hb hts hw1 hown hK hP 10 rfl rfl 0 (by decide +kernel) (hts _ mm_X1_turn_284) (fun _ h9 => h9) rfl dX1_turn_213 ?_
          refine lv_aload_n hx hb dX1_turn_216 rfl (lv_at hl 4 rfl) ?_
          refine lv_iload hx hb dX1_turn_217 (lv_at hl 1 rfl) ?_
          refine kci (S := Su) (wr := [(s0, .inr (7, [.ref s1, .ref s2, .int scl, .int sus])), (s1, .inl (K 0, 60, .inl fh)), (s2, .inl (K 0, 800, .inl fc)), (e0, .inr (1, [.ref r0, .ref x0, .ref v0, e_3, e_4, .int dn, .int me, e_7])), (x0, .inr (3, [.ref x1, .int v_2263])), (x1, .inl (K 0, 64, .inl f_2264)), (v0, .inl (K 0, 28, .inl (u_1652.2.1 0))), (h0, .inr (2, [.ref h1, .int dr, .int kp])), (h1, .inl (K 0, 476, .inl (u_2339.2.1 0)))]) (va_runVN (As := [.ref t0, .int v_2067]) (rest := []) ⟨hx, hb, hml, hown, hts⟩ (w_kindle l D K g L G r0 t0 v_2067 a0 m0 w0 m1 br fs fw t1 t3 t2 l0 n lt nf fi k_8 k_9 f1 gt f2 f3 gc fl H.size (by first | omega | decide) (by first | omega | decide) (by first | omega | decide) zgt zgc zfl) ⟨va_cnB 2 hts gX1_turn_X10_kindle_n90 rfl rfl rfl (nst_at hN 49 rfl) (hts _ mm_X1_turn_150) (by decide +kernel) ⟨Nat.le_of_ble_eq_true rfl, Nat.le_of_ble_eq_true rfl⟩, (hts _ mm_X1_turn_598), (hts _ mm_X1_turn_42)⟩ (mkVY hK hN (hP.sub [3, 4, 5, 6, 7, 16, 17, 18, 8, 9] rfl) (hD.sub [3, 4, 5, 6, 7, 16, 17, 18, 8, 9] (by decide +kernel) rfl) (ci := 10) (q0 := 0) rfl rfl (fun U hU hW => ⟨Gl.at hG hS hW hU (fun q h => va_free hD hS hA [3, 4, 5, 6, 7, 16, 17, 18, 8, 9] rfl q h), Pool.at hPl hS hU (fun q h => va_free hD hS hA [3, 4, 5, 6, 7, 16, 17, 18, 8, 9] rfl q h), Ro.heap hU (Ro.nil)⟩)) rfl rfl hl.1 rfl (lv_room (Nat.le_of_ble_eq_true rfl)) dX1_turn_219 ⟨Nat.le_of_ble_eq_true rfl, Nat.le_of_ble_eq_true rfl⟩) hP hD hS hA [3, 4, 5, 6, 7, 16, 17, 18, 8, 9] [0, 1, 2, 10, 11, 12, 13, 14, 15] rfl rfl (by decide +kernel) (by decide +kernel) (fun r_2388 u_2389 H locs hw hP0 hD0 hS0 => ?_)
          clear hP hD hS
          have hP := hP0
          have hD := hD0
          have hS := hS0
          clear hP0 hD0 hS0
          replace hP : va_P D vwCl [(s0, .inr (7, [.ref s1, .ref s2, .int scl, .int sus])), (s1, .inl (K 0, 60, .inl fh)), (s2, .inl (K 0, 800, .inl fc)), (e0, .inr (1, [.ref r0, .ref x0, .ref v0, e_3, e_4, .int dn, .int me, e_7])), (x0, .inr (3, [.ref x1, .int v_2263])), (x1, .inl (K 0, 64, .inl f_2264)), (v0, .inl (K 0, 28, .inl (u_1652.2.1 0))), (h0, .inr (2, [.ref h1, .int dr, .int kp])), (h1, .inl (K 0, 476, .inl (u_2339.2.1 0))), (r0, .inr (10, [.ref a0])), (a0, .inr (0, [.ref m0, .ref w0])), (m0, .inr (3, [.ref m1, .int (u_2389.2.2.2.1 0)])), (m1, .inl (K 0, 64, .inl (u_2389.2.1 0))), (w0, .inl (K 0, 9, .inl (u_2389.2.1 1))), (t0, .inr (9, [.ref t1, .ref t3, .ref t2, .ref l0, .int n, .int lt, .int nf, .int fi, k_8, k_9])), (t1, .inl (K 0, 56, .inl (u_2389.2.1 2))), (t2, .inl (K 0, 6, .inl f2)), (t3, .inl (K 0, 24, .inl f3)), (l0, .inl (K 4, 6, .inr (.inr (.inr (.inr fl)))))] H := hP
          replace hD : va_D A [(s0, .inr (7, [.ref s1, .ref s2, .int scl, .int sus])), (s1, .inl (K 0, 60, .inl fh)), (s2, .inl (K 0, 800, .inl fc)), (e0, .inr (1, [.ref r0, .ref x0, .ref v0, e_3, e_4, .int dn, .int me, e_7])), (x0, .inr (3, [.ref x1, .int v_2263])), (x1, .inl (K 0, 64, .inl f_2264)), (v0, .inl (K 0, 28, .inl (u_1652.2.1 0))), (h0, .inr (2, [.ref h1, .int dr, .int kp])), (h1, .inl (K 0, 476, .inl (u_2339.2.1 0))), (r0, .inr (10, [.ref a0])), (a0, .inr (0, [.ref m0, .ref w0])), (m0, .inr (3, [.ref m1, .int (u_2389.2.2.2.1 0)])), (m1, .inl (K 0, 64, .inl (u_2389.2.1 0))), (w0, .inl (K 0, 9, .inl (u_2389.2.1 1))), (t0, .inr (9, [.ref t1, .ref t3, .ref t2, .ref l0, .int n, .int lt, .int nf, .int fi, k_8, k_9])), (t1, .inl (K 0, 56, .inl (u_2389.2.1 2))), (t2, .inl (K 0, 6, .inl f2)), (t3, .inl (K 0, 24, .inl f3)), (l0, .inl (K 4, 6, .inr (.inr (.inr (.inr fl)))))] := hD
          obtain ⟨h_2393, k_2390, k_2391, k_2392, -⟩ := hw
          replace hE := (((hE.trans (Lt2_in k_2392)).trans (Lt2_in rfl)).trans (Lt2_in rfl)).trans (Lt2_in rfl)
          refine lv_istore (lv' := [(10, .int r_2388), (9, .int v_2262), (7, .int v_2067), (6, .int r_2053), (0, .ref e0), (3, .ref t0), (4, .ref h0)]) hx hb dX1_turn_222 hl (by decide +kernel) rfl (fun ls hl => ?_)
          refine lv_goto (tgt := 277) hx hb dX1_turn_224 (by decide +kernel) ?_
          exact j_2379 r_2388 me (u_2389.2.2.2.1 0) fi (u_2389.2.1 0) (u_2389.2.1 1) (u_2389.2.1 2) f2 (by omega) k_2391 hE _ _ hP hD hS ls (lv_sub hl [0, 3, 4, 6] rfl)
        · replace hE := ((hE).trans (if_neg (by first | omega | (rw [rfl]; omega)))).trans (if_pos (by first | omega | (rw [rfl]; omega)))
          refine lv_tableIn (tgt := 227) hx hb dX1_turn_186 (by omega) (by omega) (by rw [w_2387]; rfl) (by decide +kernel) ?_
          refine lv_aload_n hx hb dX1_turn_227 rfl (lv_at hl 3 rfl) ?_
          refine va_get (ci := 1) (v := .ref r0) (C := RX1) (T := TX1) (N := 8) hx hb hts hw1 hown hK hP 10 rfl rfl 0 (by decide +kernel) (hts _ mm_X1_turn_284) (fun _ h9 => h9) rfl dX1_turn_228 ?_
          refine lv_aload_n hx hb dX1_turn_231 rfl (lv_at hl 4 rfl) ?_
          refine lv_iload hx hb dX1_turn_232 (lv_at hl 1 rfl) ?_
          refine lv_iload hx hb dX1_turn_234 (lv_at hl 0 rfl) ?_
          refine kci (S := Su) (wr := [(s0, .inr (7, [.ref s1, .ref s2, .int scl, .int sus])), (s1, .inl (K 0, 60, .inl fh)), (s2, .inl (K 0, 800, .inl fc)), (a0, .inr (0, [.ref m0, .ref w0])), (m0, .inr (3, [.ref m1, .int br])), (m1, .inl (K 0, 64, .inl fs)), (w0, .inl (K 0, 9, .inl fw)), (t3, .inl (K 0, 24, .inl f3)), (l0, .inl (K 4, 6, .inr (.inr (.inr (.inr fl))))), (e0, .inr (1, [.ref r0, .ref x0, .ref v0, e_3, e_4, .int dn, .int me, e_7])), (x0, .inr (3, [.ref x1, .int v_2263])), (x1, .inl (K 0, 64, .inl f_2264)), (v0, .inl (K 0, 28, .inl (u_1652.2.1 0))), (h0, .inr (2, [.ref h1, .int dr, .int kp])), (h1, .inl (K 0, 476, .inl (u_2339.2.1 0))), (t2, .inl (K 0, 6, .inl f2))]) (va_runVN (As := [.ref t0, .int v_2067, .int v_2262]) (rest := []) ⟨hx, hb, hml, hown, hts⟩ (w_quench l D K r0 t0 v_2067 v_2262 (.ref a0) t1 (.ref t3) (.ref t2) (.ref l0) n (.int lt) (.int nf) (.int fi) k_8 k_9 f1 gt H.size (by first | omega | decide) zgt) ⟨va_cnB 3 hts gX1_turn_X10_quench_n94 rfl rfl rfl (nst_at hN 56 rfl) (hts _ mm_X1_turn_150) (by decide +kernel) ⟨Nat.le_of_ble_eq_true rfl, Nat.le_of_ble_eq_true rfl⟩, (hts _ mm_X1_turn_601), (hts _ mm_X1_turn_43)⟩ (mkV hK hN (hP.sub [3, 16, 17] rfl) (hD.sub [3, 16, 17] (by decide +kernel) rfl) (ci := 10) (q0 := 0) rfl rfl) rfl rfl hl.1 rfl (lv_room (Nat.le_of_ble_eq_true rfl)) dX1_turn_236 ⟨Nat.le_of_ble_eq_true rfl, Nat.le_of_ble_eq_true rfl⟩) hP hD hS hA [3, 16, 17] [0, 1, 2, 4, 5, 6, 7, 8, 9, 10, 11, 12, 13, 14, 15, 18] rfl rfl (by decide +kernel) (by decide +kernel) (fun r_2394 u_2395 H locs hw hP0 hD0 hS0 => ?_)
          clear hP hD hS
          have hP := hP0
          have hD := hD0
          have hS := hS0
          clear hP0 hD0 hS0
          replace hP : va_P D vwCl [(s0, .inr (7, [.ref s1, .ref s2, .int scl, .int sus])), (s1, .inl (K 0, 60, .inl fh)), (s2, .inl (K 0, 800, .inl fc)), (a0, .inr (0, [.ref m0, .ref w0])), (m0, .inr (3, [.ref m1, .int br])), (m1, .inl (K 0, 64, .inl fs)), (w0, .inl (K 0, 9, .inl fw)), (t3, .inl (K 0, 24, .inl f3)), (l0, .inl (K 4, 6, .inr (.inr (.inr (.inr fl))))), (e0, .inr (1, [.ref r0, .ref x0, .ref v0, e_3, e_4, .int dn, .int me, e_7])), (x0, .inr (3, [.ref x1, .int v_2263])), (x1, .inl (K 0, 64, .inl f_2264)), (v0, .inl (K 0, 28, .inl (u_1652.2.1 0))), (h0, .inr (2, [.ref h1, .int dr, .int kp])), (h1, .inl (K 0, 476, .inl (u_2339.2.1 0))), (t2, .inl (K 0, 6, .inl f2)), (r0, .inr (10, [.ref a0])), (t0, .inr (9, [.ref t1, .ref t3, .ref t2, .ref l0, .int n, .int lt, .int nf, .int fi, k_8, k_9])), (t1, .inl (K 0, 56, .inl (u_2395.2.1 0)))] H := hP
          replace hD : va_D A [(s0, .inr (7, [.ref s1, .ref s2, .int scl, .int sus])), (s1, .inl (K 0, 60, .inl fh)), (s2, .inl (K 0, 800, .inl fc)), (a0, .inr (0, [.ref m0, .ref w0])), (m0, .inr (3, [.ref m1, .int br])), (m1, .inl (K 0, 64, .inl fs)), (w0, .inl (K 0, 9, .inl fw)), (t3, .inl (K 0, 24, .inl f3)), (l0, .inl (K 4, 6, .inr (.inr (.inr (.inr fl))))), (e0, .inr (1, [.ref r0, .ref x0, .ref v0, e_3, e_4, .int dn, .int me, e_7])), (x0, .inr (3, [.ref x1, .int v_2263])), (x1, .inl (K 0, 64, .inl f_2264)), (v0, .inl (K 0, 28, .inl (u_1652.2.1 0))), (h0, .inr (2, [.ref h1, .int dr, .int kp])), (h1, .inl (K 0, 476, .inl (u_2339.2.1 0))), (t2, .inl (K 0, 6, .inl f2)), (r0, .inr (10, [.ref a0])), (t0, .inr (9, [.ref t1, .ref t3, .ref t2, .ref l0, .int n, .int lt, .int nf, .int fi, k_8, k_9])), (t1, .inl (K 0, 56, .inl (u_2395.2.1 0)))] := hD
          obtain ⟨h_2398, k_2396, k_2397, -⟩ := hw
          replace hE := hE.trans (Lt2_in k_2397)
          refine lv_istore (lv' := [(10, .int r_2394), (9, .int v_2262), (7, .int v_2067), (6, .int r_2053), (0, .ref e0), (3, .ref t0), (4, .ref h0)]) hx hb dX1_turn_239 hl (by decide +kernel) rfl (fun ls hl => ?_)
          refine lv_goto (tgt := 277) hx hb dX1_turn_241 (by decide +kernel) ?_
          exact j_2379 r_2394 me br fi fs fw (u_2395.2.1 0) f2 (by omega) k_2396 hE _ _ (hP.sub [0, 1, 2, 9, 10, 11, 12, 13, 14, 16, 3, 4, 5, 6, 17, 18, 15, 7, 8] rfl) (hD.sub [0, 1, 2, 9, 10, 11, 12, 13, 14, 16, 3, 4, 5, 6, 17, 18, 15, 7, 8] (by decide +kernel) rfl) hS ls (lv_sub hl [0, 3, 4, 6] rfl)
        · replace hE := (((hE).trans (if_neg (by first | omega | (rw [rfl]; omega)))).trans (if_neg (by first | omega | (rw [rfl]; omega)))).trans (if_pos (by first | omega | (rw [rfl]; omega)))
          refine lv_tableIn (tgt := 244) hx hb dX1_turn_186 (by omega) (by omega) (by rw [w_2387]; rfl) (by decide +kernel) ?_
          refine lv_aload_n hx hb dX1_turn_244 rfl (lv_at hl 3 rfl) ?_
          refine va_get (ci := 1) (v := .ref r0) (C := RX1) (T := TX1) (N := 8) hx hb hts hw1 hown hK hP 10 rfl rfl 0 (by decide +kernel) (hts _ mm_X1_turn_284) (fun _ h9 => h9) rfl dX1_turn_245 ?_
          refine lv_aload_n hx hb dX1_turn_248 rfl (lv_at hl 4 rfl) ?_
          refine lv_iload hx hb dX1_turn_249 (lv_at hl 1 rfl) ?_
          refine lv_iload hx hb dX1_turn_251 (lv_at hl 0 rfl) ?_
          refine kci (S := Su) (wr := [(s0, .inr (7, [.ref s1, .ref s2, .int scl, .int sus])), (s1, .inl (K 0, 60, .inl fh)), (s2, .inl (K 0, 800, .inl fc)), (a0, .inr (0, [.ref m0, .ref w0])), (m0, .inr (3, [.ref m1, .int br])), (m1, .inl (K 0, 64, .inl fs)), (w0, .inl (K 0, 9, .inl fw)), (t3, .inl (K 0, 24, .inl f3)), (l0, .inl (K 4, 6, .inr (.inr (.inr (.inr fl))))), (e0, .inr (1, [.ref r0, .ref x0, .ref v0, e_3, e_4, .int dn, .int me, e_7])), (x0, .inr (3, [.ref x1, .int v_2263])), (x1, .inl (K 0, 64, .inl f_2264)), (v0, .inl (K 0, 28, .inl (u_1652.2.1 0))), (h0, .inr (2, [.ref h1, .int dr, .int kp])), (h1, .inl (K 0, 476, .inl (u_2339.2.1 0))), (t2, .inl (K 0, 6, .inl f2))]) (va_runVN (As := [.ref t0, .int v_2067, .int v_2262]) (rest := []) ⟨hx, hb, hml, hown, hts⟩ (w_supply l D K r0 t0 v_2067 v_2262 (.ref a0) t1 (.ref t3) (.ref t2) (.ref l0) n (.int lt) (.int nf) (.int fi) k_8 k_9 f1 gt H.size (by first | omega | decide) zgt) ⟨va_cnB 3 hts gX1_turn_X10_supply_n98 rfl rfl rfl (nst_at hN 58 rfl) (hts _ mm_X1_turn_150) (by decide +kernel) ⟨Nat.le_of_ble_eq_true rfl, Nat.le_of_ble_eq_true rfl⟩, (hts _ mm_X1_turn_604), (hts _ mm_X1_turn_44)⟩ (mkV hK hN (hP.sub [3, 16, 17] rfl) (hD.sub [3, 16, 17] (by decide +kernel) rfl) (ci := 10) (q0 := 0) rfl rfl) rfl rfl hl.1 rfl (lv_room (Nat.le_of_ble_eq_true rfl)) dX1_turn_253 ⟨Nat.le_of_ble_eq_true rfl, Nat.le_of_ble_eq_true rfl⟩) hP hD hS hA [3, 16, 17] [0, 1, 2, 4, 5, 6, 7, 8, 9, 10, 11, 12, 13, 14, 15, 18] rfl rfl (by decide +kernel) (by decide +kernel) (fun r_2399 u_2400 H locs hw hP0 hD0 hS0 => ?_)
          clear hP hD hS
          have hP := hP0
          have hD := hD0
          have hS := hS0
          clear hP0 hD0 hS0
          replace hP : va_P D vwCl [(s0, .inr (7, [.ref s1, .ref s2, .int scl, .int sus])), (s1, .inl (K 0, 60, .inl fh)), (s2, .inl (K 0, 800, .inl fc)), (a0, .inr (0, [.ref m0, .ref w0])), (m0, .inr (3, [.ref m1, .int br])), (m1, .inl (K 0, 64, .inl fs)), (w0, .inl (K 0, 9, .inl fw)), (t3, .inl (K 0, 24, .inl f3)), (l0, .inl (K 4, 6, .inr (.inr (.inr (.inr fl))))), (e0, .inr (1, [.ref r0, .ref x0, .ref v0, e_3, e_4, .int dn, .int me, e_7])), (x0, .inr (3, [.ref x1, .int v_2263])), (x1, .inl (K 0, 64, .inl f_2264)), (v0, .inl (K 0, 28, .inl (u_1652.2.1 0))), (h0, .inr (2, [.ref h1, .int dr, .int kp])), (h1, .inl (K 0, 476, .inl (u_2339.2.1 0))), (t2, .inl (K 0, 6, .inl f2)), (r0, .inr (10, [.ref a0])), (t0, .inr (9, [.ref t1, .ref t3, .ref t2, .ref l0, .int n, .int lt, .int nf, .int fi, k_8, k_9])), (t1, .inl (K 0, 56, .inl (u_2400.2.1 0)))] H := hP
          replace hD : va_D A [(s0, .inr (7, [.ref s1, .ref s2, .int scl, .int sus])), (s1, .inl (K 0, 60, .inl fh)), (s2, .inl (K 0, 800, .inl fc)), (a0, .inr (0, [.ref m0, .ref w0])), (m0, .inr (3, [.ref m1, .int br])), (m1, .inl (K 0, 64, .inl fs)), (w0, .inl (K 0, 9, .inl fw)), (t3, .inl (K 0, 24, .inl f3)), (l0, .inl (K 4, 6, .inr (.inr (.inr (.inr fl))))), (e0, .inr (1, [.ref r0, .ref x0, .ref v0, e_3, e_4, .int dn, .int me, e_7])), (x0, .inr (3, [.ref x1, .int v_2263])), (x1, .inl (K 0, 64, .inl f_2264)), (v0, .inl (K 0, 28, .inl (u_1652.2.1 0))), (h0, .inr (2, [.ref h1, .int dr, .int kp])), (h1, .inl (K 0, 476, .inl (u_2339.2.1 0))), (t2, .inl (K 0, 6, .inl f2)), (r0, .inr (10, [.ref a0])), (t0, .inr (9, [.ref t1, .ref t3, .ref t2, .ref l0, .int n, .int lt, .int nf, .int fi, k_8, k_9])), (t1, .inl (K 0, 56, .inl (u_2400.2.1 0)))] := hD
          obtain ⟨h_2403, k_2401, k_2402, -⟩ := hw
          replace hE := hE.trans (Lt2_in k_2402)
          refine lv_istore (lv' := [(10, .int r_2399), (9, .int v_2262), (7, .int v_2067), (6, .int r_2053), (0, .ref e0), (3, .ref t0), (4, .ref h0)]) hx hb dX1_turn_256 hl (by decide +kernel) rfl (fun ls hl => ?_)
          refine lv_goto (tgt := 277) hx hb dX1_turn_258 (by decide +kernel) ?_
          exact j_2379 r_2399 me br fi fs fw (u_2400.2.1 0) f2 (by omega) k_2401 hE _ _ (hP.sub [0, 1, 2, 9, 10, 11, 12, 13, 14, 16, 3, 4, 5, 6, 17, 18, 15, 7, 8] rfl) (hD.sub [0, 1, 2, 9, 10, 11, 12, 13, 14, 16, 3, 4, 5, 6, 17, 18, 15, 7, 8] (by decide +kernel) rfl) hS ls (lv_sub hl [0, 3, 4, 6] rfl)
        · replace hE := (((hE).trans (if_neg (by first | omega | (rw [rfl]; omega)))).trans (if_neg (by first | omega | (rw [rfl]; omega)))).trans (if_neg (by first | omega | (rw [rfl]; omega)))
          refine lv_tableOut (tgt := 261) hx hb dX1_turn_186 (by omega) (by decide +kernel) ?_
          refine lv_aload_n hx hb dX1_turn_261 rfl (lv_at hl 3 rfl) ?_
          refine va_get (ci := 1) (v := .ref r0) (C := RX1) (T := TX1) (N := 8) hx hb hts hw1 hown hK hP 10 rfl rfl 0 (by decide +kernel) (hts _ mm_X1_turn_284) (fun _ h9 => h9) rfl dX1_turn_262 ?_
          refine lv_aload_n hx hb dX1_turn_265 rfl (lv_at hl 4 rfl) ?_
          refine kci (S := Su) (wr := [(s0, .inr (7, [.ref s1, .ref s2, .int scl, .int sus])), (s1, .inl (K 0, 60, .inl fh)), (s2, .inl (K 0, 800, .inl fc)), (e0, .inr (1, [.ref r0, .ref x0, .ref v0, e_3, e_4, .int dn, .int me, e_7])), (x0, .inr (3, [.ref x1, .int v_2263])), (x1, .inl (K 0, 64, .inl f_2264)), (v0, .inl (K 0, 28, .inl (u_1652.2.1 0))), (h0, .inr (2, [.ref h1, .int dr, .int kp])), (h1, .inl (K 0, 476, .inl (u_2339.2.1 0)))]) (va_runVN (As := [.ref t0]) (rest := []) ⟨hx, hb, hml, hown, hts⟩ (w_nextHour l D K g L G r0 t0 a0 m0 w0 m1 br fs fw t1 t3 t2 l0 n lt nf fi k_8 k_9 f1 gt f2 f3 gc fl H.size (by first | omega | decide) (by first | omega | decide) (by first | omega | decide) zgt zgc zfl) ⟨va_cnB 1 hts gX1_turn_X10_nextHour_n101 rfl rfl rfl (nst_at hN 59 rfl) (hts _ mm_X1_turn_150) (by decide +kernel) ⟨Nat.le_of_ble_eq_true rfl, Nat.le_of_ble_eq_true rfl⟩, (hts _ mm_X1_turn_606), (hts _ mm_X1_turn_45)⟩ (mkVY hK hN (hP.sub [3, 4, 5, 6, 7, 16, 17, 18, 8, 9] rfl) (hD.sub [3, 4, 5, 6, 7, 16, 17, 18, 8, 9] (by decide +kernel) rfl) (ci := 10) (q0 := 0) rfl rfl (fun U hU hW => ⟨Gl.at hG hS hW hU (fun q h => va_free hD hS hA [3, 4, 5, 6, 7, 16, 17, 18, 8, 9] rfl q h), Pool.at hPl hS hU (fun q h => va_free hD hS hA [3, 4, 5, 6, 7, 16, 17, 18, 8, 9] rfl q h), Ro.heap hU (Ro.nil)⟩)) rfl rfl hl.1 rfl (lv_room (Nat.le_of_ble_eq_true rfl)) dX1_turn_266 ⟨Nat.le_of_ble_eq_true rfl, Nat.le_of_ble_eq_true rfl⟩) hP hD hS hA [3, 4, 5, 6, 7, 16, 17, 18, 8, 9] [0, 1, 2, 10, 11, 12, 13, 14, 15] rfl rfl (by decide +kernel) (by decide +kernel) (fun r_2404 u_2405 H locs hw hP0 hD0 hS0 => ?_)
          clear hP hD hS
          have hP := hP0
          have hD := hD0
          have hS := hS0
          clear hP0 hD0 hS0
          replace hP : va_P D vwCl [(s0, .inr (7, [.ref s1, .ref s2, .int scl, .int sus])), (s1, .inl (K 0, 60, .inl fh)), (s2, .inl (K 0, 800, .inl fc)), (e0, .inr (1, [.ref r0, .ref x0, .ref v0, e_3, e_4, .int dn, .int me, e_7])), (x0, .inr (3, [.ref x1, .int v_2263])), (x1, .inl (K 0, 64, .inl f_2264)), (v0, .inl (K 0, 28, .inl (u_1652.2.1 0))), (h0, .inr (2, [.ref h1, .int dr, .int kp])), (h1, .inl (K 0, 476, .inl (u_2339.2.1 0))), (r0, .inr (10, [.ref a0])), (a0, .inr (0, [.ref m0, .ref w0])), (m0, .inr (3, [.ref m1, .int (u_2405.2.2.2.1 0)])), (m1, .inl (K 0, 64, .inl (u_2405.2.1 0))), (w0, .inl (K 0, 9, .inl (u_2405.2.1 1))), (t0, .inr (9, [.ref t1, .ref t3, .ref t2, .ref l0, .int n, .int lt, .int nf, .int (u_2405.2.2.2.1 1), k_8, k_9])), (t1, .inl (K 0, 56, .inl (u_2405.2.1 2))), (t2, .inl (K 0, 6, .inl (u_2405.2.1 3))), (t3, .inl (K 0, 24, .inl f3)), (l0, .inl (K 4, 6, .inr (.inr (.inr (.inr fl)))))] H := hP
          replace hD : va_D A [(s0, .inr (7, [.ref s1, .ref s2, .int scl, .int sus])), (s1, .inl (K 0, 60, .inl fh)), (s2, .inl (K 0, 800, .inl fc)), (e0, .inr (1, [.ref r0, .ref x0, .ref v0, e_3, e_4, .int dn, .int me, e_7])), (x0, .inr (3, [.ref x1, .int v_2263])), (x1, .inl (K 0, 64, .inl f_2264)), (v0, .inl (K 0, 28, .inl (u_1652.2.1 0))), (h0, .inr (2, [.ref h1, .int dr, .int kp])), (h1, .inl (K 0, 476, .inl (u_2339.2.1 0))), (r0, .inr (10, [.ref a0])), (a0, .inr (0, [.ref m0, .ref w0])), (m0, .inr (3, [.ref m1, .int (u_2405.2.2.2.1 0)])), (m1, .inl (K 0, 64, .inl (u_2405.2.1 0))), (w0, .inl (K 0, 9, .inl (u_2405.2.1 1))), (t0, .inr (9, [.ref t1, .ref t3, .ref t2, .ref l0, .int n, .int lt, .int nf, .int (u_2405.2.2.2.1 1), k_8, k_9])), (t1, .inl (K 0, 56, .inl (u_2405.2.1 2))), (t2, .inl (K 0, 6, .inl (u_2405.2.1 3))), (t3, .inl (K 0, 24, .inl f3)), (l0, .inl (K 4, 6, .inr (.inr (.inr (.inr fl)))))] := hD
          obtain ⟨h_2409, k_2406, k_2407, k_2408, -⟩ := hw
          replace hE := (((((hE.trans (Lt2_in k_2408)).trans (Lt2_in rfl)).trans (Lt2_in rfl)).trans (Lt2_in rfl)).trans (Lt2_in rfl)).trans (Lt2_in rfl)
          refine lv_istore (lv' := [(10, .int r_2404), (9, .int v_2262), (7, .int v_2067), (6, .int r_2053), (0, .ref e0), (3, .ref t0), (4, .ref h0)]) hx hb dX1_turn_269 hl (by decide +kernel) rfl (fun ls hl => ?_)
          refine lv_aload_n hx hb dX1_turn_271 rfl (lv_at hl 4 rfl) ?_
          refine lv_iload hx hb dX1_turn_272 (lv_at hl 0 rfl) ?_
          refine va_put (ci := 1) (v := .int r_2404) (ty := .int) (C := RX1) (T := TX1) (N := 8) hx hb hts hw1 tyX1 tyX1_ok nmX1 hown hK hP hD hS 3 rfl rfl 6 (by decide +kernel) (hts _ mm_X1_turn_290) (fun _ h9 => h9) rfl (by decide +kernel) (by first | rfl | decide) (by first | rfl | decide) (Nat.le_of_ble_eq_true rfl) dX1_turn_274 (fun H locs hP0 hD0 hS0 => ?_)
          clear hP hD hS
          have hP := hP0
          have hD := hD0
          have hS := hS0
          clear hP0 hD0 hS0
          replace hP : va_P D vwCl [(s0, .inr (7, [.ref s1, .ref s2, .int scl, .int sus])), (s1, .inl (K 0, 60, .inl fh)), (s2, .inl (K 0, 800, .inl fc)), (e0, .inr (1, [.ref r0, .ref x0, .ref v0, e_3, e_4, .int dn, .int r_2404, e_7])), (x0, .inr (3, [.ref x1, .int v_2263])), (x1, .inl (K 0, 64, .inl f_2264)), (v0, .inl (K 0, 28, .inl (u_1652.2.1 0))), (h0, .inr (2, [.ref h1, .int dr, .int kp])), (h1, .inl (K 0, 476, .inl (u_2339.2.1 0))), (r0, .inr (10, [.ref a0])), (a0, .inr (0, [.ref m0, .ref w0])), (m0, .inr (3, [.ref m1, .int (u_2405.2.2.2.1 0)])), (m1, .inl (K 0, 64, .inl (u_2405.2.1 0))), (w0, .inl (K 0, 9, .inl (u_2405.2.1 1))), (t0, .inr (9, [.ref t1, .ref t3, .ref t2, .ref l0, .int n, .int lt, .int nf, .int (u_2405.2.2.2.1 1), k_8, k_9])), (t1, .inl (K 0, 56, .inl (u_2405.2.1 2))), (t2, .inl (K 0, 6, .inl (u_2405.2.1 3))), (t3, .inl (K 0, 24, .inl f3)), (l0, .inl (K 4, 6, .inr (.inr (.inr (.inr fl)))))] H := hP
          replace hD : va_D A [(s0, .inr (7, [.ref s1, .ref s2, .int scl, .int sus])), (s1, .inl (K 0, 60, .inl fh)), (s2, .inl (K 0, 800, .inl fc)), (e0, .inr (1, [.ref r0, .ref x0, .ref v0, e_3, e_4, .int dn, .int r_2404, e_7])), (x0, .inr (3, [.ref x1, .int v_2263])), (x1, .inl (K 0, 64, .inl f_2264)), (v0, .inl (K 0, 28, .inl (u_1652.2.1 0))), (h0, .inr (2, [.ref h1, .int dr, .int kp])), (h1, .inl (K 0, 476, .inl (u_2339.2.1 0))), (r0, .inr (10, [.ref a0])), (a0, .inr (0, [.ref m0, .ref w0])), (m0, .inr (3, [.ref m1, .int (u_2405.2.2.2.1 0)])), (m1, .inl (K 0, 64, .inl (u_2405.2.1 0))), (w0, .inl (K 0, 9, .inl (u_2405.2.1 1))), (t0, .inr (9, [.ref t1, .ref t3, .ref t2, .ref l0, .int n, .int lt, .int nf, .int (u_2405.2.2.2.1 1), k_8, k_9])), (t1, .inl (K 0, 56, .inl (u_2405.2.1 2))), (t2, .inl (K 0, 6, .inl (u_2405.2.1 3))), (t3, .inl (K 0, 24, .inl f3)), (l0, .inl (K 4, 6, .inr (.inr (.inr (.inr fl)))))] := hD
          exact j_2379 r_2404 r_2404 (u_2405.2.2.2.1 0) (u_2405.2.2.2.1 1) (u_2405.2.1 0) (u_2405.2.1 1) (u_2405.2.1 2) (u_2405.2.1 3) (by omega) k_2407 hE _ _ hP hD hS ls (lv_sub hl [0, 3, 4, 6] rfl)
      have j_2410 : ∀ (hk0_j_2410 : 1 ≤ r_2053.toInt ∧ r_2053.toInt ≤ 2) (hE : E_w_turn G x dn me xb fx fv scl sus fh fc dr kp fs2 br fs fw n lt nf fi f1 f2 f3 fl = E_w_turn_j122 G x dn me fh fc dr kp fs2 br fs fw n lt nf fi f1 f2 f3 fl (u_1652.2.1 0) r_2053 v_2067 v_2068 f_2069) (H : Heap) (locs : List Loc) (hP : va_P D vwCl [(s0, .inr (7, [.ref s1, .ref s2, .int scl, .int sus])), (s1, .inl (K 0, 60, .inl fh)), (s2, .inl (K 0, 800, .inl fc)), (h0, .inr (2, [.ref h1, .int dr, .int kp])), (h1, .inl (K 0, 476, .inl fs2)), (r0, .inr (10, [.ref a0])), (a0, .inr (0, [.ref m0, .ref w0])), (m0, .inr (3, [.ref m1, .int br])), (m1, .inl (K 0, 64, .inl fs)), (w0, .inl (K 0, 9, .inl fw)), (t3, .inl (K 0, 24, .inl f3)), (l0, .inl (K 4, 6, .inr (.inr (.inr (.inr fl))))), (e0, .inr (1, [.ref r0, .ref x0, .ref v0, e_3, e_4, .int dn, .int me, e_7])), (t0, .inr (9, [.ref t1, .ref t3, .ref t2, .ref l0, .int n, .int lt, .int nf, .int fi, k_8, k_9])), (t1, .inl (K 0, 56, .inl f1)), (t2, .inl (K 0, 6, .inl f2)), (x0, .inr (3, [.ref x1, .int v_2068])), (x1, .inl (K 0, 64, .inl f_2069)), (v0, .inl (K 0, 28, .inl (u_1652.2.1 0)))] H) (hD : va_D A [(s0, .inr (7, [.ref s1, .ref s2, .int scl, .int sus])), (s1, .inl (K 0, 60, .inl fh)), (s2, .inl (K 0, 800, .inl fc)), (h0, .inr (2, [.ref h1, .int dr, .int kp])), (h1, .inl (K 0, 476, .inl fs2)), (r0, .inr (10, [.ref a0])), (a0, .inr (0, [.ref m0, .ref w0])), (m0, .inr (3, [.ref m1, .int br])), (m1, .inl (K 0, 64, .inl fs)), (w0, .inl (K 0, 9, .inl fw)), (t3, .inl (K 0, 24, .inl f3)), (l0, .inl (K 4, 6, .inr (.inr (.inr (.inr fl))))), (e0, .inr (1, [.ref r0, .ref x0, .ref v0, e_3, e_4, .int dn, .int me, e_7])), (t0, .inr (9, [.ref t1, .ref t3, .ref t2, .ref l0, .int n, .int lt, .int nf, .int fi, k_8, k_9])), (t1, .inl (K 0, 56, .inl f1)), (t2, .inl (K 0, 6, .inl f2)), (x0, .inr (3, [.ref x1, .int v_2068])), (x1, .inl (K 0, 64, .inl f_2069)), (v0, .inl (K 0, 28, .inl (u_1652.2.1 0)))]) (hS : va_S A s.heap H locs) (ls : Array Slot) (hl : lv_has ls 11 [(7, .int v_2067), (6, .int r_2053), (0, .ref e0), (1, .ref s0), (2, .int x), (3, .ref t0), (4, .ref h0)]), W p l e ({ frames := 5, cells := 0, slots := 0, locals := 128 }) s m (([.ref e0, .ref s0, .int x, .ref t0, .ref h0] : List Value).toArray) below meth c H locs 0 0 Q (F0 m 122 ls []) := by
        clear hE hP hD hS hl
        intro hk0_j_2410 hE H locs hP hD hS ls hl
        replace hE := hE.trans (E_w_turn_j122.eq_def _ _ _ _ _ _ _ _ _ _ _ _ _ _ _ _ _ _ _ _ _ _ _ _ _)
        refine lv_iconst (v := 1) hx hb dX1_turn_122 (by decide +kernel) ?_
        refine lv_goto (tgt := 127) hx hb dX1_turn_123 (by decide +kernel) ?_
        refine lv_istore (lv' := [(8, .int 1), (7, .int v_2067), (6, .int r_2053), (0, .ref e0), (1, .ref s0), (2, .int x), (3, .ref t0), (4, .ref h0)]) hx hb dX1_turn_127 hl (by decide +kernel) rfl (fun ls hl => ?_)
        refine lv_iload hx hb dX1_turn_129 (lv_at hl 0 rfl) ?_
        refine lv_if_eq (tgt := 158) hx hb dX1_turn_131 (by decide +kernel) (fun c_2411 => absurd c_2411 (by decide +kernel)) (fun c_2411 => ?_)
        refine lv_aload_n hx hb dX1_turn_134 rfl (lv_at hl 3 rfl) ?_
        refine va_get (ci := 1) (v := .ref x0) (C := RX1) (T := TX1) (N := 8) hx hb hts hw1 hown hK hP 12 rfl rfl 1 (by decide +kernel) (hts _ mm_X1_turn_285) (fun _ h9 => h9) rfl dX1_turn_135 ?_
        refine lv_aload_n hx hb dX1_turn_138 rfl (lv_at hl 4 rfl) ?_
        refine va_getN (ci := 7) (v := .ref s2) (C := RX7) (T := TX7) (N := 4) hx hb hts hw7 hown hK hP 0 rfl rfl 1 (by decide +kernel) (nst_use hN 125 rfl) (fun _ h9 => h9) rfl dX1_turn_139 ?_
        refine lv_aload_n hx hb dX1_turn_142 rfl (lv_at hl 4 rfl) ?_
        refine lv_iload_n hx hb dX1_turn_143 rfl (lv_at hl 5 rfl) ?_
        refine lv_iconst (v := 3) hx hb dX1_turn_144 (by decide +kernel) ?_
        refine pci (va_runVN (As := [.int x, .int 3]) (rest := [.ref s2, .ref x0]) ⟨hx, hb, hml, hown, hts⟩ (w_head l D K s0 x 3 s1 (.ref s2) (.int scl) (.int sus) 60 fh H.size (by omega) zfh) ⟨va_cnB 2 hts gX1_turn_X7_head_n65 rfl rfl rfl (nst_at hN 43 rfl) (hts _ mm_X1_turn_148) (by decide +kernel) ⟨Nat.le_of_ble_eq_true rfl, Nat.le_of_ble_eq_true rfl⟩, (hts _ mm_X1_turn_413), (hts _ mm_X1_turn_14)⟩ (mkV hK hN (hP.sub [0, 1] rfl) (hD.sub [0, 1] (by decide +kernel) rfl) (ci := 7) (q0 := 0) rfl rfl) rfl rfl hl.1 rfl (lv_room (Nat.le_of_ble_eq_true rfl)) dX1_turn_145 ⟨Nat.le_of_ble_eq_true rfl, Nat.le_of_ble_eq_true rfl⟩) (fun r_2412 hw => ?_)
        obtain ⟨h_2414, k_2413, -⟩ := hw
        replace hE := hE.trans (Lt_in k_2413)
        refine lv_aload_n hx hb dX1_turn_148 rfl (lv_at hl 3 rfl) ?_
        refine va_get (ci := 1) (v := .ref v0) (C := RX1) (T := TX1) (N := 8) hx hb hts hw1 hown hK hP 12 rfl rfl 2 (by decide +kernel) (hts _ mm_X1_turn_286) (fun _ h9 => h9) rfl dX1_turn_149 ?_
        refine kci (S := Su) (wr := [(s0, .inr (7, [.ref s1, .ref s2, .int scl, .int sus])), (s1, .inl (K 0, 60, .inl fh)), (s2, .inl (K 0, 800, .inl fc)), (h0, .inr (2, [.ref h1, .int dr, .int kp])), (h1, .inl (K 0, 476, .inl fs2)), (r0, .inr (10, [.ref a0])), (a0, .inr (0, [.ref m0, .ref w0])), (m0, .inr (3, [.ref m1, .int br])), (m1, .inl (K 0, 64, .inl fs)), (w0, .inl (K 0, 9, .inl fw)), (t3, .inl (K 0, 24, .inl f3)), (l0, .inl (K 4, 6, .inr (.inr (.inr (.inr fl))))), (e0, .inr (1, [.ref r0, .ref x0, .ref v0, e_3, e_4, .int dn, .int me, e_7])), (t0, .inr (9, [.ref t1, .ref t3, .ref t2, .ref l0, .int n, .int lt, .int nf, .int fi, k_8, k_9])), (t1, .inl (K 0, 56, .inl f1)), (t2, .inl (K 0, 6, .inl f2))]) (va_runVN (As := [.ref s2, .int r_2412, .ref v0]) (rest := []) ⟨hx, hb, hml, hown, hts⟩ (w_run l D K g L G x0 s2 r_2412 v0 x1 v_2068 f_2069 28 (u_1652.2.1 0) 800 fc H.size (by first | omega | decide) (by omega) (by omega) zfc) ⟨va_cnB 3 hts gX1_turn_X3_run_n79 rfl rfl rfl (nst_at hN 47 rfl) (hts _ mm_X1_turn_152) (by decide +kernel) ⟨Nat.le_of_ble_eq_true rfl, Nat.le_of_ble_eq_true rfl⟩, (hts _ mm_X1_turn_415), (hts _ mm_X1_turn_15)⟩ (mkVY hK hN (hP.sub [16, 17, 18] rfl) (hD.sub [16, 17, 18] (by decide +kernel) rfl) (ci := 3) (q0 := 0) rfl rfl (fun U hU hW => ⟨Gl.at hG hS hW hU (fun q h => va_free hD hS hA [16, 17, 18] rfl q h), Pool.at hPl hS hU (fun q h => va_free hD hS hA [16, 17, 18] rfl q h), Ro.heap hU (Ro.ofW hP hD [16, 17, 18] [2] rfl rfl (by decide +kernel) (by decide +kernel))⟩)) rfl rfl hl.1 rfl (lv_room (Nat.le_of_ble_eq_true rfl)) dX1_turn_152 ⟨Nat.le_of_ble_eq_true rfl, Nat.le_of_ble_eq_true rfl⟩) hP hD hS hA [16, 17, 18] [0, 1, 2, 3, 4, 5, 6, 7, 8, 9, 10, 11, 12, 13, 14, 15] rfl rfl (by decide +kernel) (by decide +kernel) (fun r_2415 u_2416 H locs hw hP0 hD0 hS0 => ?_)
        clear hP hD hS
        have hP := hP0
        have hD := hD0
        have hS := hS0
        clear hP0 hD0 hS0
        replace hP : va_P D vwCl [(s0, .inr (7, [.ref s1, .ref s2, .int scl, .int sus])), (s1, .inl (K 0, 60, .inl fh)), (s2, .inl (K 0, 800, .inl fc)), (h0, .inr (2, [.ref h1, .int dr, .int kp])), (h1, .inl (K 0, 476, .inl fs2)), (r0, .inr (10, [.ref a0])), (a0, .inr (0, [.ref m0, .ref w0])), (m0, .inr (3, [.ref m1, .int br])), (m1, .inl (K 0, 64, .inl fs)), (w0, .inl (K 0, 9, .inl fw)), (t3, .inl (K 0, 24, .inl f3)), (l0, .inl (K 4, 6, .inr (.inr (.inr (.inr fl))))), (e0, .inr (1, [.ref r0, .ref x0, .ref v0, e_3, e_4, .int dn, .int me, e_7])), (t0, .inr (9, [.ref t1, .ref t3, .ref t2, .ref l0, .int n, .int lt, .int nf, .int fi, k_8, k_9])), (t1, .inl (K 0, 56, .inl f1)), (t2, .inl (K 0, 6, .inl f2)), (x0, .inr (3, [.ref x1, .int (u_2416.2.2.2.1 0)])), (x1, .inl (K 0, 64, .inl (u_2416.2.1 0))), (v0, .inl (K 0, 28, .inl (u_1652.2.1 0)))] H := hP
        replace hD : va_D A [(s0, .inr (7, [.ref s1, .ref s2, .int scl, .int sus])), (s1, .inl (K 0, 60, .inl fh)), (s2, .inl (K 0, 800, .inl fc)), (h0, .inr (2, [.ref h1, .int dr, .int kp])), (h1, .inl (K 0, 476, .inl fs2)), (r0, .inr (10, [.ref a0])), (a0, .inr (0, [.ref m0, .ref w0])), (m0, .inr (3, [.ref m1, .int br])), (m1, .inl (K 0, 64, .inl fs)), (w0, .inl (K 0, 9, .inl fw)), (t3, .inl (K 0, 24, .inl f3)), (l0, .inl (K 4, 6, .inr (.inr (.inr (.inr fl))))), (e0, .inr (1, [.ref r0, .ref x0, .ref v0, e_3, e_4, .int dn, .int me, e_7])), (t0, .inr (9, [.ref t1, .ref t3, .ref t2, .ref l0, .int n, .int lt, .int nf, .int fi, k_8, k_9])), (t1, .inl (K 0, 56, .inl f1)), (t2, .inl (K 0, 6, .inl f2)), (x0, .inr (3, [.ref x1, .int (u_2416.2.2.2.1 0)])), (x1, .inl (K 0, 64, .inl (u_2416.2.1 0))), (v0, .inl (K 0, 28, .inl (u_1652.2.1 0)))] := hD
        obtain ⟨k_2417, k_2418, -⟩ := hw
        replace hE := (hE.trans (Lt2_in k_2418)).trans (Lt2_in rfl)
        refine lv_goto (tgt := 159) hx hb dX1_turn_155 (by decide +kernel) ?_
        refine lv_istore (lv' := [(9, .int r_2415), (8, .int 1), (7, .int v_2067), (6, .int r_2053), (0, .ref e0), (1, .ref s0), (2, .int x), (3, .ref t0), (4, .ref h0)]) hx hb dX1_turn_159 hl (by decide +kernel) rfl (fun ls hl => ?_)
        refine lv_iload hx hb dX1_turn_161 (lv_at hl 1 rfl) ?_
        refine lv_if_eq (tgt := 178) hx hb dX1_turn_163 (by decide +kernel) (fun c_2419 => absurd c_2419 (by decide +kernel)) (fun c_2419 => ?_)
        refine lv_aload_n hx hb dX1_turn_166 rfl (lv_at hl 4 rfl) ?_
        refine va_get (ci := 1) (v := .ref x0) (C := RX1) (T := TX1) (N := 8) hx hb hts hw1 hown hK hP 12 rfl rfl 1 (by decide +kernel) (hts _ mm_X1_turn_285) (fun _ h9 => h9) rfl dX1_turn_167 ?_
        refine va_getN (ci := 3) (v := .int (u_2416.2.2.2.1 0)) (C := RX3) (T := TX3) (N := 2) hx hb hts hw3 hown hK hP 16 rfl rfl 1 (by decide +kernel) (nst_use hN 134 rfl) (fun _ h9 => h9) rfl dX1_turn_170 ?_
        refine lv_if_eq (tgt := 178) hx hb dX1_turn_173 (by decide +kernel) (fun c_2420 => ?_) (fun c_2420 => ?_)
        · have c_2420i := i_eq (x := (u_2416.2.2.2.1 0).toInt) (y := 0) rfl rfl c_2420
          replace hE := hE.trans (if_pos c_2420)
          exact j_2337 r_2415 (u_2416.2.2.2.1 0) (u_2416.2.1 0) (by omega) hE _ _ hP hD hS ls (lv_sub hl [0, 2, 3, 4, 7, 8] rfl)
        · have c_2420i := i_ne (x := (u_2416.2.2.2.1 0).toInt) (y := 0) rfl rfl c_2420
          replace hE := hE.trans (if_neg c_2420)
          refine lv_iconst (v := 0) hx hb dX1_turn_176 (by decide +kernel) ?_
          rw [← hQ]
          have hP9 := hP.sub (ws' := [(e0, .inr (1, [.ref r0, .ref x0, .ref v0, e_3, e_4, .int dn, .int me, e_7])), (x0, .inr (3, [.ref x1, .int (u_2416.2.2.2.1 0)])), (x1, .inl (K 0, 64, .inl (u_2416.2.1 0))), (v0, .inl (K 0, 28, .inl (u_1652.2.1 0))), (s0, .inr (7, [.ref s1, .ref s2, .int scl, .int sus])), (s1, .inl (K 0, 60, .inl fh)), (s2, .inl (K 0, 800, .inl fc)), (h0, .inr (2, [.ref h1, .int dr, .int kp])), (h1, .inl (K 0, 476, .inl fs2)), (r0, .inr (10, [.ref a0])), (a0, .inr (0, [.ref m0, .ref w0])), (m0, .inr (3, [.ref m1, .int br])), (m1, .inl (K 0, 64, .inl fs)), (w0, .inl (K 0, 9, .inl fw)), (t0, .inr (9, [.ref t1, .ref t3, .ref t2, .ref l0, .int n, .int lt, .int nf, .int fi, k_8, k_9])), (t1, .inl (K 0, 56, .inl f1)), (t2, .inl (K 0, 6, .inl f2)), (t3, .inl (K 0, 24, .inl f3)), (l0, .inl (K 4, 6, .inr (.inr (.inr (.inr fl)))))]) [12, 16, 17, 18, 0, 1, 2, 3, 4, 5, 6, 7, 8, 9, 13, 14, 15, 10, 11] rfl
          have hD9 := hD.sub (ws' := [(e0, .inr (1, [.ref r0, .ref x0, .ref v0, e_3, e_4, .int dn, .int me, e_7])), (x0, .inr (3, [.ref x1, .int (u_2416.2.2.2.1 0)])), (x1, .inl (K 0, 64, .inl (u_2416.2.1 0))), (v0, .inl (K 0, 28, .inl (u_1652.2.1 0))), (s0, .inr (7, [.ref s1, .ref s2, .int scl, .int sus])), (s1, .inl (K 0, 60, .inl fh)), (s2, .inl (K 0, 800, .inl fc)), (h0, .inr (2, [.ref h1, .int dr, .int kp])), (h1, .inl (K 0, 476, .inl fs2)), (r0, .inr (10, [.ref a0])), (a0, .inr (0, [.ref m0, .ref w0])), (m0, .inr (3, [.ref m1, .int br])), (m1, .inl (K 0, 64, .inl fs)), (w0, .inl (K 0, 9, .inl fw)), (t0, .inr (9, [.ref t1, .ref t3, .ref t2, .ref l0, .int n, .int lt, .int nf, .int fi, k_8, k_9])), (t1, .inl (K 0, 56, .inl f1)), (t2, .inl (K 0, 6, .inl f2)), (t3, .inl (K 0, 24, .inl f3)), (l0, .inl (K 4, 6, .inr (.inr (.inr (.inr fl)))))]) [12, 16, 17, 18, 0, 1, 2, 3, 4, 5, 6, 7, 8, 9, 13, 14, 15, 10, 11] (by decide +kernel) rfl
          exact W.zret (v := 0) hx hb hr (by decide +kernel) (fun t ht hW => ⟨⟨0, ((fun _ => 0, fun i => ([(u_2416.2.1 0), (u_1652.2.1 0), fs2, fs, fw, f1, f2] : List _).getD i (fun _ => 0), fun _ => fun _ => 0, fun i => ([dn, me, (u_2416.2.2.2.1 0), dr, kp, br, fi] : List _).getD i (0), fun _ => 0, fun _ => fun _ => none) : Su), rfl, ⟨(show 0 ≤ (0 : Int32).toInt ∧ (0 : Int32).toInt ≤ 1 by decide), (show 0 ≤ ((u_2416.2.2.2.1 0) : Int32).toInt ∧ ((u_2416.2.2.2.1 0) : Int32).toInt ≤ 1 by omega), (show 0 ≤ (dr : Int32).toInt ∧ (dr : Int32).toInt ≤ 16 by omega), (show 0 ≤ (kp : Int32).toInt ∧ (kp : Int32).toInt ≤ 16 by omega), (show 0 ≤ (br : Int32).toInt ∧ (br : Int32).toInt ≤ 1 by omega), zgt, hE.symm, trivial⟩, (⟨by rw [ht]; exact hP9, hD9⟩ : Wd D A _ t)⟩, hS.F ht⟩) hS.2.2 dX1_turn_177
      refine lv_icmp_eq (tgt := 122) hx hb dX1_turn_113 (by decide +kernel) (fun c_2421 => ?_) (fun c_2421 => ?_)
      · have c_2421i := i_eq (x := r_2053.toInt) (y := 1) rfl rfl c_2421
        replace hE := hE.trans (if_pos c_2421)
        exact j_2410  (by omega) hE _ _ hP hD hS ls (lv_sub hl [0, 1, 2, 3, 4, 5, 6] rfl)
      · have c_2421i := i_ne (x := r_2053.toInt) (y := 1) rfl rfl c_2421
        replace hE := hE.trans (if_neg c_2421)
        refine lv_iload hx hb dX1_turn_116 (lv_at hl 1 rfl) ?_
        refine lv_iconst (v := 2) hx hb dX1_turn_118 (by decide +kernel) ?_
        refine lv_icmp_ne (tgt := 126) hx hb dX1_turn_119 (by decide +kernel) (fun c_2422 => ?_) (fun c_2422 => ?_)
        · have c_2422i := i_ne (x := r_2053.toInt) (y := 2) rfl rfl c_2422
          replace hE := hE.trans (if_neg c_2422)
          refine lv_iconst (v := 0) hx hb dX1_turn_126 (by decide +kernel) ?_
          refine lv_istore (lv' := [(8, .int 0), (7, .int v_2067), (6, .int r_2053), (0, .ref e0), (1, .ref s0), (2, .int x), (3, .ref t0), (4, .ref h0)]) hx hb dX1_turn_127 hl (by decide +kernel) rfl (fun ls hl => ?_)
          refine lv_iload hx hb dX1_turn_129 (lv_at hl 0 rfl) ?_
          refine lv_if_eq (tgt := 158) hx hb dX1_turn_131 (by decide +kernel) (fun c_2423 => ?_) (fun c_2423 => absurd (by decide +kernel) c_2423)
          refine lv_iconst (v := 0) hx hb dX1_turn_158 (by decide +kernel) ?_
          refine lv_istore (lv' := [(9, .int 0), (8, .int 0), (7, .int v_2067), (6, .int r_2053), (0, .ref e0), (1, .ref s0), (2, .int x), (3, .ref t0), (4, .ref h0)]) hx hb dX1_turn_159 hl (by decide +kernel) rfl (fun ls hl => ?_)
          refine lv_iload hx hb dX1_turn_161 (lv_at hl 1 rfl) ?_
          refine lv_if_eq (tgt := 178) hx hb dX1_turn_163 (by decide +kernel) (fun c_2424 => ?_) (fun c_2424 => absurd (by decide +kernel) c_2424)
          exact j_2337 0 v_2068 f_2069 (by omega) hE _ _ hP hD hS ls (lv_sub hl [0, 2, 3, 4, 7, 8] rfl)
        · have c_2422i := i_eq (x := r_2053.toInt) (y := 2) rfl rfl c_2422
          replace hE := hE.trans (if_pos c_2422)
          exact j_2410  (by omega) hE _ _ hP hD hS ls (lv_sub hl [0, 1, 2, 3, 4, 5, 6] rfl)
    refine lv_icmp_ne (tgt := 69) hx hb dX1_turn_62 (by decide +kernel) (fun c_2425 => ?_) (fun c_2425 => ?_)
    · have c_2425i := i_ne (x := r_2053.toInt) (y := 3) rfl rfl c_2425
      replace hE := hE.trans (if_neg c_2425)
      refine lv_aload_n hx hb dX1_turn_69 rfl (lv_at hl 1 rfl) ?_
      refine va_get (ci := 1) (v := .ref x0) (C := RX1) (T := TX1) (N := 8) hx hb hts hw1 hown hK hP 14 rfl rfl 1 (by decide +kernel) (hts _ mm_X1_turn_285) (fun _ h9 => h9) rfl dX1_turn_70 ?_
      refine lv_aload_n hx hb dX1_turn_73 rfl (lv_at hl 2 rfl) ?_
      refine va_getN (ci := 7) (v := .ref s2) (C := RX7) (T := TX7) (N := 4) hx hb hts hw7 hown hK hP 2 rfl rfl 1 (by decide +kernel) (nst_use hN 125 rfl) (fun _ h9 => h9) rfl dX1_turn_74 ?_
      refine lv_aload_n hx hb dX1_turn_77 rfl (lv_at hl 2 rfl) ?_
      refine lv_iload_n hx hb dX1_turn_78 rfl (lv_at hl 3 rfl) ?_
      refine lv_iconst (v := 2) hx hb dX1_turn_79 (by decide +kernel) ?_
      refine pci (va_runVN (As := [.int x, .int 2]) (rest := [.ref s2, .ref x0]) ⟨hx, hb, hml, hown, hts⟩ (w_head l D K s0 x 2 s1 (.ref s2) (.int scl) (.int sus) 60 fh H.size (by omega) zfh) ⟨va_cnB 2 hts gX1_turn_X7_head_n65 rfl rfl rfl (nst_at hN 43 rfl) (hts _ mm_X1_turn_148) (by decide +kernel) ⟨Nat.le_of_ble_eq_true rfl, Nat.le_of_ble_eq_true rfl⟩, (hts _ mm_X1_turn_413), (hts _ mm_X1_turn_14)⟩ (mkV hK hN (hP.sub [2, 3] rfl) (hD.sub [2, 3] (by decide +kernel) rfl) (ci := 7) (q0 := 0) rfl rfl) rfl rfl hl.1 rfl (lv_room (Nat.le_of_ble_eq_true rfl)) dX1_turn_80 ⟨Nat.le_of_ble_eq_true rfl, Nat.le_of_ble_eq_true rfl⟩) (fun r_2426 hw => ?_)
      obtain ⟨h_2428, k_2427, -⟩ := hw
      replace hE := hE.trans (Lt_in k_2427)
      refine lv_aload_n hx hb dX1_turn_83 rfl (lv_at hl 1 rfl) ?_
      refine va_get (ci := 1) (v := .ref v0) (C := RX1) (T := TX1) (N := 8) hx hb hts hw1 hown hK hP 14 rfl rfl 2 (by decide +kernel) (hts _ mm_X1_turn_286) (fun _ h9 => h9) rfl dX1_turn_84 ?_
      refine kci (S := Su) (wr := [(s0, .inr (7, [.ref s1, .ref s2, .int scl, .int sus])), (s1, .inl (K 0, 60, .inl fh)), (s2, .inl (K 0, 800, .inl fc)), (h0, .inr (2, [.ref h1, .int dr, .int kp])), (h1, .inl (K 0, 476, .inl fs2)), (r0, .inr (10, [.ref a0])), (a0, .inr (0, [.ref m0, .ref w0])), (m0, .inr (3, [.ref m1, .int br])), (m1, .inl (K 0, 64, .inl fs)), (w0, .inl (K 0, 9, .inl fw)), (t3, .inl (K 0, 24, .inl f3)), (l0, .inl (K 4, 6, .inr (.inr (.inr (.inr fl))))), (e0, .inr (1, [.ref r0, .ref x0, .ref v0, e_3, e_4, .int dn, .int me, e_7])), (t0, .inr (9, [.ref t1, .ref t3, .ref t2, .ref l0, .int n, .int lt, .int nf, .int fi, k_8, k_9])), (t1, .inl (K 0, 56, .inl f1)), (t2, .inl (K 0, 6, .inl f2))]) (va_runVN (As := [.ref s2, .int r_2426, .ref v0]) (rest := []) ⟨hx, hb, hml, hown, hts⟩ (w_run l D K g L G x0 s2 r_2426 v0 x1 v_1667 f_1668 28 (u_1652.2.1 0) 800 fc H.size (by first | omega | decide) (by omega) (by omega) zfc) ⟨va_cnB 3 hts gX1_turn_X3_run_n79 rfl rfl rfl (nst_at hN 47 rfl) (hts _ mm_X1_turn_152) (by decide +kernel) ⟨Nat.le_of_ble_eq_true rfl, Nat.le_of_ble_eq_true rfl⟩, (hts _ mm_X1_turn_415), (hts _ mm_X1_turn_15)⟩ (mkVY hK hN (hP.sub [0, 1, 15] rfl) (hD.sub [0, 1, 15] (by decide +kernel) rfl) (ci := 3) (q0 := 0) rfl rfl (fun U hU hW => ⟨Gl.at hG hS hW hU (fun q h => va_free hD hS hA [0, 1, 15] rfl q h), Pool.at hPl hS hU (fun q h => va_free hD hS hA [0, 1, 15] rfl q h), Ro.heap hU (Ro.ofW hP hD [0, 1, 15] [4] rfl rfl (by decide +kernel) (by decide +kernel))⟩)) rfl rfl hl.1 rfl (lv_room (Nat.le_of_ble_eq_true rfl)) dX1_turn_87 ⟨Nat.le_of_ble_eq_true rfl, Nat.le_of_ble_eq_true rfl⟩) hP hD hS hA [0, 1, 15] [2, 3, 4, 5, 6, 7, 8, 9, 10, 11, 12, 13, 14, 16, 17, 18] rfl rfl (by decide +kernel) (by decide +kernel) (fun r_2429 u_2430 H locs hw hP0 hD0 hS0 => ?_)
      clear hP hD hS
      have hP := hP0
      have hD := hD0
      have hS := hS0
      clear hP0 hD0 hS0
      replace hP : va_P D vwCl [(s0, .inr (7, [.ref s1, .ref s2, .int scl, .int sus])), (s1, .inl (K 0, 60, .inl fh)), (s2, .inl (K 0, 800, .inl fc)), (h0, .inr (2, [.ref h1, .int dr, .int kp])), (h1, .inl (K 0, 476, .inl fs2)), (r0, .inr (10, [.ref a0])), (a0, .inr (0, [.ref m0, .ref w0])), (m0, .inr (3, [.ref m1, .int br])), (m1, .inl (K 0, 64, .inl fs)), (w0, .inl (K 0, 9, .inl fw)), (t3, .inl (K 0, 24, .inl f3)), (l0, .inl (K 4, 6, .inr (.inr (.inr (.inr fl))))), (e0, .inr (1, [.ref r0, .ref x0, .ref v0, e_3, e_4, .int dn, .int me, e_7])), (t0, .inr (9, [.ref t1, .ref t3, .ref t2, .ref l0, .int n, .int lt, .int nf, .int fi, k_8, k_9])), (t1, .inl (K 0, 56, .inl f1)), (t2, .inl (K 0, 6, .inl f2)), (x0, .inr (3, [.ref x1, .int (u_2430.2.2.2.1 0)])), (x1, .inl (K 0, 64, .inl (u_2430.2.1 0))), (v0, .inl (K 0, 28, .inl (u_1652.2.1 0)))] H := hP
      replace hD : va_D A [(s0, .inr (7, [.ref s1, .ref s2, .int scl, .int sus])), (s1, .inl (K 0, 60, .inl fh)), (s2, .inl (K 0, 800, .inl fc)), (h0, .inr (2, [.ref h1, .int dr, .int kp])), (h1, .inl (K 0, 476, .inl fs2)), (r0, .inr (10, [.ref a0])), (a0, .inr (0, [.ref m0, .ref w0])), (m0, .inr (3, [.ref m1, .int br])), (m1, .inl (K 0, 64, .inl fs)), (w0, .inl (K 0, 9, .inl fw)), (t3, .inl (K 0, 24, .inl f3)), (l0, .inl (K 4, 6, .inr (.inr (.inr (.inr fl))))), (e0, .inr (1, [.ref r0, .ref x0, .ref v0, e_3, e_4, .int dn, .int me, e_7])), (t0, .inr (9, [.ref t1, .ref t3, .ref t2, .ref l0, .int n, .int lt, .int nf, .int fi, k_8, k_9])), (t1, .inl (K 0, 56, .inl f1)), (t2, .inl (K 0, 6, .inl f2)), (x0, .inr (3, [.ref x1, .int (u_2430.2.2.2.1 0)])), (x1, .inl (K 0, 64, .inl (u_2430.2.1 0))), (v0, .inl (K 0, 28, .inl (u_1652.2.1 0)))] := hD
      obtain ⟨k_2431, k_2432, -⟩ := hw
      replace hE := (hE.trans (Lt2_in k_2432)).trans (Lt2_in rfl)
      refine lv_istore (lv' := [(7, .int r_2429), (6, .int r_2053), (0, .ref e0), (1, .ref s0), (2, .int x), (3, .ref t0), (4, .ref h0)]) hx hb dX1_turn_90 hl (by decide +kernel) rfl (fun ls hl => ?_)
      refine lv_iload hx hb dX1_turn_92 (lv_at hl 1 rfl) ?_
      refine lv_iconst (v := 3) hx hb dX1_turn_94 (by decide +kernel) ?_
      refine lv_icmp_eq (tgt := 110) hx hb dX1_turn_95 (by decide +kernel) (fun c_2433 => ?_) (fun c_2433 => ?_)
      · have c_2433i := i_eq (x := r_2053.toInt) (y := 3) rfl rfl c_2433
        replace hE := hE.trans (if_pos c_2433)
        exact j_2247 r_2429 (u_2430.2.2.2.1 0) (u_2430.2.1 0) (by omega) hE _ _ hP hD hS ls (lv_sub hl [0, 1, 2, 3, 4, 5, 6] rfl)
      · have c_2433i := i_ne (x := r_2053.toInt) (y := 3) rfl rfl c_2433
        replace hE := hE.trans (if_neg c_2433)
        refine lv_aload_n hx hb dX1_turn_98 rfl (lv_at hl 2 rfl) ?_
        refine va_get (ci := 1) (v := .ref x0) (C := RX1) (T := TX1) (N := 8) hx hb hts hw1 hown hK hP 12 rfl rfl 1 (by decide +kernel) (hts _ mm_X1_turn_285) (fun _ h9 => h9) rfl dX1_turn_99 ?_
        refine va_getN (ci := 3) (v := .int (u_2430.2.2.2.1 0)) (C := RX3) (T := TX3) (N := 2) hx hb hts hw3 hown hK hP 16 rfl rfl 1 (by decide +kernel) (nst_use hN 134 rfl) (fun _ h9 => h9) rfl dX1_turn_102 ?_
        refine lv_if_eq (tgt := 110) hx hb dX1_turn_105 (by decide +kernel) (fun c_2434 => ?_) (fun c_2434 => ?_)
        · have c_2434i := i_eq (x := (u_2430.2.2.2.1 0).toInt) (y := 0) rfl rfl c_2434
          replace hE := hE.trans (if_pos c_2434)
          exact j_2247 r_2429 (u_2430.2.2.2.1 0) (u_2430.2.1 0) (by omega) hE _ _ hP hD hS ls (lv_sub hl [0, 1, 2, 3, 4, 5, 6] rfl)
        · have c_2434i := i_ne (x := (u_2430.2.2.2.1 0).toInt) (y := 0) rfl rfl c_2434
          replace hE := hE.trans (if_neg c_2434)
          refine lv_iconst (v := 0) hx hb dX1_turn_108 (by decide +kernel) ?_
          rw [← hQ]
          have hP9 := hP.sub (ws' := [(e0, .inr (1, [.ref r0, .ref x0, .ref v0, e_3, e_4, .int dn, .int me, e_7])), (x0, .inr (3, [.ref x1, .int (u_2430.2.2.2.1 0)])), (x1, .inl (K 0, 64, .inl (u_2430.2.1 0))), (v0, .inl (K 0, 28, .inl (u_1652.2.1 0))), (s0, .inr (7, [.ref s1, .ref s2, .int scl, .int sus])), (s1, .inl (K 0, 60, .inl fh)), (s2, .inl (K 0, 800, .inl fc)), (h0, .inr (2, [.ref h1, .int dr, .int kp])), (h1, .inl (K 0, 476, .inl fs2)), (r0, .inr (10, [.ref a0])), (a0, .inr (0, [.ref m0, .ref w0])), (m0, .inr (3, [.ref m1, .int br])), (m1, .inl (K 0, 64, .inl fs)), (w0, .inl (K 0, 9, .inl fw)), (t0, .inr (9, [.ref t1, .ref t3, .ref t2, .ref l0, .int n, .int lt, .int nf, .int fi, k_8, k_9])), (t1, .inl (K 0, 56, .inl f1)), (t2, .inl (K 0, 6, .inl f2)), (t3, .inl (K 0, 24, .inl f3)), (l0, .inl (K 4, 6, .inr (.inr (.inr (.inr fl)))))]) [12, 16, 17, 18, 0, 1, 2, 3, 4, 5, 6, 7, 8, 9, 13, 14, 15, 10, 11] rfl
          have hD9 := hD.sub (ws' := [(e0, .inr (1, [.ref r0, .ref x0, .ref v0, e_3, e_4, .int dn, .int me, e_7])), (x0, .inr (3, [.ref x1, .int (u_2430.2.2.2.1 0)])), (x1, .inl (K 0, 64, .inl (u_2430.2.1 0))), (v0, .inl (K 0, 28, .inl (u_1652.2.1 0))), (s0, .inr (7, [.ref s1, .ref s2, .int scl, .int sus])), (s1, .inl (K 0, 60, .inl fh)), (s2, .inl (K 0, 800, .inl fc)), (h0, .inr (2, [.ref h1, .int dr, .int kp])), (h1, .inl (K 0, 476, .inl fs2)), (r0, .inr (10, [.ref a0])), (a0, .inr (0, [.ref m0, .ref w0])), (m0, .inr (3, [.ref m1, .int br])), (m1, .inl (K 0, 64, .inl fs)), (w0, .inl (K 0, 9, .inl fw)), (t0, .inr (9, [.ref t1, .ref t3, .ref t2, .ref l0, .int n, .int lt, .int nf, .int fi, k_8, k_9])), (t1, .inl (K 0, 56, .inl f1)), (t2, .inl (K 0, 6, .inl f2)), (t3, .inl (K 0, 24, .inl f3)), (l0, .inl (K 4, 6, .inr (.inr (.inr (.inr fl)))))]) [12, 16, 17, 18, 0, 1, 2, 3, 4, 5, 6, 7, 8, 9, 13, 14, 15, 10, 11] (by decide +kernel) rfl
          exact W.zret (v := 0) hx hb hr (by decide +kernel) (fun t ht hW => ⟨⟨0, ((fun _ => 0, fun i => ([(u_2430.2.1 0), (u_1652.2.1 0), fs2, fs, fw, f1, f2] : List _).getD i (fun _ => 0), fun _ => fun _ => 0, fun i => ([dn, me, (u_2430.2.2.2.1 0), dr, kp, br, fi] : List _).getD i (0), fun _ => 0, fun _ => fun _ => none) : Su), rfl, ⟨(show 0 ≤ (0 : Int32).toInt ∧ (0 : Int32).toInt ≤ 1 by decide), (show 0 ≤ ((u_2430.2.2.2.1 0) : Int32).toInt ∧ ((u_2430.2.2.2.1 0) : Int32).toInt ≤ 1 by omega), (show 0 ≤ (dr : Int32).toInt ∧ (dr : Int32).toInt ≤ 16 by omega), (show 0 ≤ (kp : Int32).toInt ∧ (kp : Int32).toInt ≤ 16 by omega), (show 0 ≤ (br : Int32).toInt ∧ (br : Int32).toInt ≤ 1 by omega), zgt, hE.symm, trivial⟩, (⟨by rw [ht]; exact hP9, hD9⟩ : Wd D A _ t)⟩, hS.F ht⟩) hS.2.2 dX1_turn_109
    · have c_2425i := i_eq (x := r_2053.toInt) (y := 3) rfl rfl c_2425
      replace hE := hE.trans (if_pos c_2425)
      refine lv_iconst (v := (-1)) hx hb dX1_turn_65 (by decide +kernel) ?_
      refine lv_goto (tgt := 90) hx hb dX1_turn_66 (by decide +kernel) ?_
      refine lv_istore (lv' := [(7, .int (-1)), (6, .int r_2053), (0, .ref e0), (1, .ref s0), (2, .int x), (3, .ref t0), (4, .ref h0)]) hx hb dX1_turn_90 hl (by decide +kernel) rfl (fun ls hl => ?_)
      refine lv_iload hx hb dX1_turn_92 (lv_at hl 1 rfl) ?_
      refine lv_iconst (v := 3) hx hb dX1_turn_94 (by decide +kernel) ?_
      refine lv_icmp_eq (tgt := 110) hx hb dX1_turn_95 (by decide +kernel) (fun c_2435 => ?_) (fun c_2435 => ?_)
      · have c_2435i := i_eq (x := r_2053.toInt) (y := 3) rfl rfl c_2435
        replace hE := hE.trans (if_pos c_2435)
        exact j_2247 (-1) v_1667 f_1668 (by omega) hE _ _ (hP.sub [2, 3, 4, 5, 6, 7, 8, 9, 10, 11, 12, 13, 14, 16, 17, 18, 0, 1, 15] rfl) (hD.sub [2, 3, 4, 5, 6, 7, 8, 9, 10, 11, 12, 13, 14, 16, 17, 18, 0, 1, 15] (by decide +kernel) rfl) hS ls (lv_sub hl [0, 1, 2, 3, 4, 5, 6] rfl)
      · have c_2435i := i_ne (x := r_2053.toInt) (y := 3) rfl rfl c_2435
        exfalso; omega
  refine lv_icmp_eq (tgt := 51) hx hb dX1_turn_16 (by decide +kernel) (fun c_2436 => ?_) (fun c_2436 => ?_)
  · have c_2436i := i_eq (x := r_1654.toInt) (y := (-1)) rfl rfl c_2436
    replace hE := hE.trans (if_pos c_2436)
    exact j_2052 xb fx (by omega) hE _ _ hP hD hS ls (lv_sub hl [1, 2, 3, 4, 5] rfl)
  · have c_2436i := i_ne (x := r_1654.toInt) (y := (-1)) rfl rfl c_2436
    replace hE := hE.trans (if_neg c_2436)
    refine lv_aload_n hx hb dX1_turn_19 rfl (lv_at hl 1 rfl) ?_
    refine va_get (ci := 1) (v := .ref x0) (C := RX1) (T := TX1) (N := 8) hx hb hts hw1 hown hK hP 14 rfl rfl 1 (by decide +kernel) (hts _ mm_X1_turn_285) (fun _ h9 => h9) rfl dX1_turn_20 ?_
    refine lv_aload_n hx hb dX1_turn_23 rfl (lv_at hl 2 rfl) ?_
    refine va_getN (ci := 7) (v := .ref s2) (C := RX7) (T := TX7) (N := 4) hx hb hts hw7 hown hK hP 2 rfl rfl 1 (by decide +kernel) (nst_use hN 125 rfl) (fun _ h9 => h9) rfl dX1_turn_24 ?_
    refine lv_iload hx hb dX1_turn_27 (lv_at hl 0 rfl) ?_
    refine lv_aload_n hx hb dX1_turn_29 rfl (lv_at hl 1 rfl) ?_
    refine va_get (ci := 1) (v := .ref v0) (C := RX1) (T := TX1) (N := 8) hx hb hts hw1 hown hK hP 14 rfl rfl 2 (by decide +kernel) (hts _ mm_X1_turn_286) (fun _ h9 => h9) rfl dX1_turn_30 ?_
    refine kci (S := Su) (wr := [(s0, .inr (7, [.ref s1, .ref s2, .int scl, .int sus])), (s1, .inl (K 0, 60, .inl fh)), (s2, .inl (K 0, 800, .inl fc)), (h0, .inr (2, [.ref h1, .int dr, .int kp])), (h1, .inl (K 0, 476, .inl fs2)), (r0, .inr (10, [.ref a0])), (a0, .inr (0, [.ref m0, .ref w0])), (m0, .inr (3, [.ref m1, .int br])), (m1, .inl (K 0, 64, .inl fs)), (w0, .inl (K 0, 9, .inl fw)), (t3, .inl (K 0, 24, .inl f3)), (l0, .inl (K 4, 6, .inr (.inr (.inr (.inr fl))))), (e0, .inr (1, [.ref r0, .ref x0, .ref v0, e_3, e_4, .int dn, .int me, e_7])), (t0, .inr (9, [.ref t1, .ref t3, .ref t2, .ref l0, .int n, .int lt, .int nf, .int fi, k_8, k_9])), (t1, .inl (K 0, 56, .inl f1)), (t2, .inl (K 0, 6, .inl f2))]) (va_runVN (As := [.ref s2, .int r_1654, .ref v0]) (rest := []) ⟨hx, hb, hml, hown, hts⟩ (w_run l D K g L G x0 s2 r_1654 v0 x1 xb fx 28 (u_1652.2.1 0) 800 fc H.size (by first | omega | decide) (by omega) (by omega) zfc) ⟨va_cnB 3 hts gX1_turn_X3_run_n79 rfl rfl rfl (nst_at hN 47 rfl) (hts _ mm_X1_turn_152) (by decide +kernel) ⟨Nat.le_of_ble_eq_true rfl, Nat.le_of_ble_eq_true rfl⟩, (hts _ mm_X1_turn_415), (hts _ mm_X1_turn_15)⟩ (mkVY hK hN (hP.sub [0, 1, 15] rfl) (hD.sub [0, 1, 15] (by decide +kernel) rfl) (ci := 3) (q0 := 0) rfl rfl (fun U hU hW => ⟨Gl.at hG hS hW hU (fun q h => va_free hD hS hA [0, 1, 15] rfl q h), Pool.at hPl hS hU (fun q h => va_free hD hS hA [0, 1, 15] rfl q h), Ro.heap hU (Ro.ofW hP hD [0, 1, 15] [4] rfl rfl (by decide +kernel) (by decide +kernel))⟩)) rfl rfl hl.1 rfl (lv_room (Nat.le_of_ble_eq_true rfl)) dX1_turn_33 ⟨Nat.le_of_ble_eq_true rfl, Nat.le_of_ble_eq_true rfl⟩) hP hD hS hA [0, 1, 15] [2, 3, 4, 5, 6, 7, 8, 9, 10, 11, 12, 13, 14, 16, 17, 18] rfl rfl (by decide +kernel) (by decide +kernel) (fun r_2437 u_2438 H locs hw hP0 hD0 hS0 => ?_)
    clear hP hD hS
    have hP := hP0
    have hD := hD0
    have hS := hS0
    clear hP0 hD0 hS0
    replace hP : va_P D vwCl [(s0, .inr (7, [.ref s1, .ref s2, .int scl, .int sus])), (s1, .inl (K 0, 60, .inl fh)), (s2, .inl (K 0, 800, .inl fc)), (h0, .inr (2, [.ref h1, .int dr, .int kp])), (h1, .inl (K 0, 476, .inl fs2)), (r0, .inr (10, [.ref a0])), (a0, .inr (0, [.ref m0, .ref w0])), (m0, .inr (3, [.ref m1, .int br])), (m1, .inl (K 0, 64, .inl fs)), (w0, .inl (K 0, 9, .inl fw)), (t3, .inl (K 0, 24, .inl f3)), (l0, .inl (K 4, 6, .inr (.inr (.inr (.inr fl))))), (e0, .inr (1, [.ref r0, .ref x0, .ref v0, e_3, e_4, .int dn, .int me, e_7])), (t0, .inr (9, [.ref t1, .ref t3, .ref t2, .ref l0, .int n, .int lt, .int nf, .int fi, k_8, k_9])), (t1, .inl (K 0, 56, .inl f1)), (t2, .inl (K 0, 6, .inl f2)), (x0, .inr (3, [.ref x1, .int (u_2438.2.2.2.1 0)])), (x1, .inl (K 0, 64, .inl (u_2438.2.1 0))), (v0, .inl (K 0, 28, .inl (u_1652.2.1 0)))] H := hP
    replace hD : va_D A [(s0, .inr (7, [.ref s1, .ref s2, .int scl, .int sus])), (s1, .inl (K 0, 60, .inl fh)), (s2, .inl (K 0, 800, .inl fc)), (h0, .inr (2, [.ref h1, .int dr, .int kp])), (h1, .inl (K 0, 476, .inl fs2)), (r0, .inr (10, [.ref a0])), (a0, .inr (0, [.ref m0, .ref w0])), (m0, .inr (3, [.ref m1, .int br])), (m1, .inl (K 0, 64, .inl fs)), (w0, .inl (K 0, 9, .inl fw)), (t3, .inl (K 0, 24, .inl f3)), (l0, .inl (K 4, 6, .inr (.inr (.inr (.inr fl))))), (e0, .inr (1, [.ref r0, .ref x0, .ref v0, e_3, e_4, .int dn, .int me, e_7])), (t0, .inr (9, [.ref t1, .ref t3, .ref t2, .ref l0, .int n, .int lt, .int nf, .int fi, k_8, k_9])), (t1, .inl (K 0, 56, .inl f1)), (t2, .inl (K 0, 6, .inl f2)), (x0, .inr (3, [.ref x1, .int (u_2438.2.2.2.1 0)])), (x1, .inl (K 0, 64, .inl (u_2438.2.1 0))), (v0, .inl (K 0, 28, .inl (u_1652.2.1 0)))] := hD
    obtain ⟨k_2439, k_2440, -⟩ := hw
    replace hE := (hE.trans (Lt2_in k_2440)).trans (Lt2_in rfl)
    have j_2443 : ∀ (hE : E_w_turn G x dn me xb fx fv scl sus fh fc dr kp fs2 br fs fw n lt nf fi f1 f2 f3 fl = E_w_turn_j49 dn me dr kp fs2 br fs fw fi f1 f2 (u_1652.2.1 0) (u_2438.2.2.2.1 0) (u_2438.2.1 0)) (H : Heap) (locs : List Loc) (hP : va_P D vwCl [(s0, .inr (7, [.ref s1, .ref s2, .int scl, .int sus])), (s1, .inl (K 0, 60, .inl fh)), (s2, .inl (K 0, 800, .inl fc)), (h0, .inr (2, [.ref h1, .int dr, .int kp])), (h1, .inl (K 0, 476, .inl fs2)), (r0, .inr (10, [.ref a0])), (a0, .inr (0, [.ref m0, .ref w0])), (m0, .inr (3, [.ref m1, .int br])), (m1, .inl (K 0, 64, .inl fs)), (w0, .inl (K 0, 9, .inl fw)), (t3, .inl (K 0, 24, .inl f3)), (l0, .inl (K 4, 6, .inr (.inr (.inr (.inr fl))))), (e0, .inr (1, [.ref r0, .ref x0, .ref v0, e_3, e_4, .int dn, .int me, e_7])), (t0, .inr (9, [.ref t1, .ref t3, .ref t2, .ref l0, .int n, .int lt, .int nf, .int fi, k_8, k_9])), (t1, .inl (K 0, 56, .inl f1)), (t2, .inl (K 0, 6, .inl f2)), (x0, .inr (3, [.ref x1, .int (u_2438.2.2.2.1 0)])), (x1, .inl (K 0, 64, .inl (u_2438.2.1 0))), (v0, .inl (K 0, 28, .inl (u_1652.2.1 0)))] H) (hD : va_D A [(s0, .inr (7, [.ref s1, .ref s2, .int scl, .int sus])), (s1, .inl (K 0, 60, .inl fh)), (s2, .inl (K 0, 800, .inl fc)), (h0, .inr (2, [.ref h1, .int dr, .int kp])), (h1, .inl (K 0, 476, .inl fs2)), (r0, .inr (10, [.ref a0])), (a0, .inr (0, [.ref m0, .ref w0])), (m0, .inr (3, [.ref m1, .int br])), (m1, .inl (K 0, 64, .inl fs)), (w0, .inl (K 0, 9, .inl fw)), (t3, .inl (K 0, 24, .inl f3)), (l0, .inl (K 4, 6, .inr (.inr (.inr (.inr fl))))), (e0, .inr (1, [.ref r0, .ref x0, .ref v0, e_3, e_4, .int dn, .int me, e_7])), (t0, .inr (9, [.ref t1, .ref t3, .ref t2, .ref l0, .int n, .int lt, .int nf, .int fi, k_8, k_9])), (t1, .inl (K 0, 56, .inl f1)), (t2, .inl (K 0, 6, .inl f2)), (x0, .inr (3, [.ref x1, .int (u_2438.2.2.2.1 0)])), (x1, .inl (K 0, 64, .inl (u_2438.2.1 0))), (v0, .inl (K 0, 28, .inl (u_1652.2.1 0)))]) (hS : va_S A s.heap H locs) (ls : Array Slot) (hl : lv_has ls 11 []), W p l e ({ frames := 5, cells := 0, slots := 0, locals := 128 }) s m (([.ref e0, .ref s0, .int x, .ref t0, .ref h0] : List Value).toArray) below meth c H locs 0 0 Q (F0 m 49 ls []) := by
      clear hE hP hD hS hl
      intro hE H locs hP hD hS ls hl
      replace hE := hE.trans (E_w_turn_j49.eq_def _ _ _ _ _ _ _ _ _ _ _ _ _ _)
      refine lv_iconst (v := 1) hx hb dX1_turn_49 (by decide +kernel) ?_
      rw [← hQ]
      have hP9 := hP.sub (ws' := [(e0, .inr (1, [.ref r0, .ref x0, .ref v0, e_3, e_4, .int dn, .int me, e_7])), (x0, .inr (3, [.ref x1, .int (u_2438.2.2.2.1 0)])), (x1, .inl (K 0, 64, .inl (u_2438.2.1 0))), (v0, .inl (K 0, 28, .inl (u_1652.2.1 0))), (s0, .inr (7, [.ref s1, .ref s2, .int scl, .int sus])), (s1, .inl (K 0, 60, .inl fh)), (s2, .inl (K 0, 800, .inl fc)), (h0, .inr (2, [.ref h1, .int dr, .int kp])), (h1, .inl (K 0, 476, .inl fs2)), (r0, .inr (10, [.ref a0])), (a0, .inr (0, [.ref m0, .ref w0])), (m0, .inr (3, [.ref m1, .int br])), (m1, .inl (K 0, 64, .inl fs)), (w0, .inl (K 0, 9, .inl fw)), (t0, .inr (9, [.ref t1, .ref t3, .ref t2, .ref l0, .int n, .int lt, .int nf, .int fi, k_8, k_9])), (t1, .inl (K 0, 56, .inl f1)), (t2, .inl (K 0, 6, .inl f2)), (t3, .inl (K 0, 24, .inl f3)), (l0, .inl (K 4, 6, .inr (.inr (.inr (.inr fl)))))]) [12, 16, 17, 18, 0, 1, 2, 3, 4, 5, 6, 7, 8, 9, 13, 14, 15, 10, 11] rfl
      have hD9 := hD.sub (ws' := [(e0, .inr (1, [.ref r0, .ref x0, .ref v0, e_3, e_4, .int dn, .int me, e_7])), (x0, .inr (3, [.ref x1, .int (u_2438.2.2.2.1 0)])), (x1, .inl (K 0, 64, .inl (u_2438.2.1 0))), (v0, .inl (K 0, 28, .inl (u_1652.2.1 0))), (s0, .inr (7, [.ref s1, .ref s2, .int scl, .int sus])), (s1, .inl (K 0, 60, .inl fh)), (s2, .inl (K 0, 800, .inl fc)), (h0, .inr (2, [.ref h1, .int dr, .int kp])), (h1, .inl (K 0, 476, .inl fs2)), (r0, .inr (10, [.ref a0])), (a0, .inr (0, [.ref m0, .ref w0])), (m0, .inr (3, [.ref m1, .int br])), (m1, .inl (K 0, 64, .inl fs)), (w0, .inl (K 0, 9, .inl fw)), (t0, .inr (9, [.ref t1, .ref t3, .ref t2, .ref l0, .int n, .int lt, .int nf, .int fi, k_8, k_9])), (t1, .inl (K 0, 56, .inl f1)), (t2, .inl (K 0, 6, .inl f2)), (t3, .inl (K 0, 24, .inl f3)), (l0, .inl (K 4, 6, .inr (.inr (.inr (.inr fl)))))]) [12, 16, 17, 18, 0, 1, 2, 3, 4, 5, 6, 7, 8, 9, 13, 14, 15, 10, 11] (by decide +kernel) rfl
      exact W.zret (v := 1) hx hb hr (by decide +kernel) (fun t ht hW => ⟨⟨1, ((fun _ => 0, fun i => ([(u_2438.2.1 0), (u_1652.2.1 0), fs2, fs, fw, f1, f2] : List _).getD i (fun _ => 0), fun _ => fun _ => 0, fun i => ([dn, me, (u_2438.2.2.2.1 0), dr, kp, br, fi] : List _).getD i (0), fun _ => 0, fun _ => fun _ => none) : Su), rfl, ⟨(show 0 ≤ (1 : Int32).toInt ∧ (1 : Int32).toInt ≤ 1 by decide), (show 0 ≤ ((u_2438.2.2.2.1 0) : Int32).toInt ∧ ((u_2438.2.2.2.1 0) : Int32).toInt ≤ 1 by omega), (show 0 ≤ (dr : Int32).toInt ∧ (dr : Int32).toInt ≤ 16 by omega), (show 0 ≤ (kp : Int32).toInt ∧ (kp : Int32).toInt ≤ 16 by omega), (show 0 ≤ (br : Int32).toInt ∧ (br : Int32).toInt ≤ 1 by omega), zgt, hE.symm, trivial⟩, (⟨by rw [ht]; exact hP9, hD9⟩ : Wd D A _ t)⟩, hS.F ht⟩) hS.2.2 dX1_turn_50
    refine lv_if_eq (tgt := 49) hx hb dX1_turn_36 (by decide +kernel) (fun c_2444 => ?_) (fun c_2444 => ?_)
    · have c_2444i := i_eq (x := r_2437.toInt) (y := 0) rfl rfl c_2444
      replace hE := hE.trans (if_pos c_2444)
      exact j_2443   hE _ _ hP hD hS ls (lv_sub hl [] rfl)
    · have c_2444i := i_ne (x := r_2437.toInt) (y := 0) rfl rfl c_2444
      replace hE := hE.trans (if_neg c_2444)
      refine lv_aload_n hx hb dX1_turn_39 rfl (lv_at hl 1 rfl) ?_
      refine va_get (ci := 1) (v := .ref x0) (C := RX1) (T := TX1) (N := 8) hx hb hts hw1 hown hK hP 12 rfl rfl 1 (by decide +kernel) (hts _ mm_X1_turn_285) (fun _ h9 => h9) rfl dX1_turn_40 ?_
      refine va_getN (ci := 3) (v := .int (u_2438.2.2.2.1 0)) (C := RX3) (T := TX3) (N := 2) hx hb hts hw3 hown hK hP 16 rfl rfl 1 (by decide +kernel) (nst_use hN 134 rfl) (fun _ h9 => h9) rfl dX1_turn_43 ?_
      refine lv_if_eq (tgt := 51) hx hb dX1_turn_46 (by decide +kernel) (fun c_2445 => ?_) (fun c_2445 => ?_)
      · have c_2445i := i_eq (x := (u_2438.2.2.2.1 0).toInt) (y := 0) rfl rfl c_2445
        replace hE := hE.trans (if_pos c_2445)
        exact j_2052 (u_2438.2.2.2.1 0) (u_2438.2.1 0) (by omega) hE _ _ (hP.sub [16, 17, 0, 1, 2, 3, 4, 5, 6, 7, 8, 9, 10, 11, 12, 18, 13, 14, 15] rfl) (hD.sub [16, 17, 0, 1, 2, 3, 4, 5, 6, 7, 8, 9, 10, 11, 12, 18, 13, 14, 15] (by decide +kernel) rfl) hS ls (lv_sub hl [1, 2, 3, 4, 5] rfl)
      · have c_2445i := i_ne (x := (u_2438.2.2.2.1 0).toInt) (y := 0) rfl rfl c_2445
        replace hE := hE.trans (if_neg c_2445)
        exact j_2443   hE _ _ hP hD hS ls (lv_sub hl [] rfl)
