theorem BX12_layTunes_0 : bsegs (ByteArray.data cX12_layTunes |>.toList.drop 0) 0 [(0, [3]), (1, [61]), (2, [3]), (3, [62]), (4, [29]), (5, [42]), (6, [180, 0, 13]), (9, [3]), (10, [46]), (11, [162, 0, 32]), (14, [42]), (15, [180, 0, 13]), (18, [16, 43]), (20, [29]), (21, [96]), (22, [46]), (23, [27]), (24, [160, 0, 13]), (27, [42]), (28, [180, 0, 129]), (31, [28]), (32, [29]), (33, [79]), (34, [132, 2, 1])] = true := by decide +kernel
theorem dX12_layTunes_0 : decode cX12_layTunes 0 = .ok (.iconst 0, 1) := dk_3 (bs_at BX12_layTunes_0 0 rfl)
theorem dX12_layTunes_1 : decode cX12_layTunes 1 = .ok (.istore_n 2, 1) := dk_61 (bs_at BX12_layTunes_0 1 rfl)
theorem dX12_layTunes_2 : decode cX12_layTunes 2 = .ok (.iconst 0, 1) := dk_3 (bs_at BX12_layTunes_0 2 rfl)
theorem dX12_layTunes_3 : decode cX12_layTunes 3 = .ok (.istore_n 3, 1) := dk_62 (bs_at BX12_layTunes_0 3 rfl)
theorem dX12_layTunes_4 : decode cX12_layTunes 4 = .ok (.iload_n 3, 1) := dk_29 (bs_at BX12_layTunes_0 4 rfl)
theorem dX12_layTunes_5 : decode cX12_layTunes 5 = .ok (.aload_n 0, 1) := dk_42 (bs_at BX12_layTunes_0 5 rfl)
theorem dX12_layTunes_6 : decode cX12_layTunes 6 = .ok (.getfield 13, 3) := dk_180 0 13 (bs_at BX12_layTunes_0 6 rfl) rfl
theorem dX12_layTunes_9 : decode cX12_layTunes 9 = .ok (.iconst 0, 1) := dk_3 (bs_at BX12_layTunes_0 7 rfl)
theorem dX12_layTunes_10 : decode cX12_layTunes 10 = .ok (.iaload, 1) := dk_46 (bs_at BX12_layTunes_0 8 rfl)
theorem dX12_layTunes_11 : decode cX12_layTunes 11 = .ok (.if_icmp .ge 32, 3) := dk_162 0 32 (bs_at BX12_layTunes_0 9 rfl) rfl
theorem dX12_layTunes_14 : decode cX12_layTunes 14 = .ok (.aload_n 0, 1) := dk_42 (bs_at BX12_layTunes_0 10 rfl)
theorem dX12_layTunes_15 : decode cX12_layTunes 15 = .ok (.getfield 13, 3) := dk_180 0 13 (bs_at BX12_layTunes_0 11 rfl) rfl
theorem dX12_layTunes_18 : decode cX12_layTunes 18 = .ok (.bipush 43, 2) := dk_16 43 (bs_at BX12_layTunes_0 12 rfl) rfl
theorem dX12_layTunes_20 : decode cX12_layTunes 20 = .ok (.iload_n 3, 1) := dk_29 (bs_at BX12_layTunes_0 13 rfl)
theorem dX12_layTunes_21 : decode cX12_layTunes 21 = .ok (.iadd, 1) := dk_96 (bs_at BX12_layTunes_0 14 rfl)
theorem dX12_layTunes_22 : decode cX12_layTunes 22 = .ok (.iaload, 1) := dk_46 (bs_at BX12_layTunes_0 15 rfl)
theorem dX12_layTunes_23 : decode cX12_layTunes 23 = .ok (.iload_n 1, 1) := dk_27 (bs_at BX12_layTunes_0 16 rfl)
theorem dX12_layTunes_24 : decode cX12_layTunes 24 = .ok (.if_icmp .ne 13, 3) := dk_160 0 13 (bs_at BX12_layTunes_0 17 rfl) rfl
theorem dX12_layTunes_27 : decode cX12_layTunes 27 = .ok (.aload_n 0, 1) := dk_42 (bs_at BX12_layTunes_0 18 rfl)
theorem dX12_layTunes_28 : decode cX12_layTunes 28 = .ok (.getfield 129, 3) := dk_180 0 129 (bs_at BX12_layTunes_0 19 rfl) rfl
theorem dX12_layTunes_31 : decode cX12_layTunes 31 = .ok (.iload_n 2, 1) := dk_28 (bs_at BX12_layTunes_0 20 rfl)
theorem dX12_layTunes_32 : decode cX12_layTunes 32 = .ok (.iload_n 3, 1) := dk_29 (bs_at BX12_layTunes_0 21 rfl)
theorem dX12_layTunes_33 : decode cX12_layTunes 33 = .ok (.iastore, 1) := dk_79 (bs_at BX12_layTunes_0 22 rfl)
theorem dX12_layTunes_34 : decode cX12_layTunes 34 = .ok (.iinc 2 1, 3) := dk_132 2 1 (bs_at BX12_layTunes_0 23 rfl) rfl
theorem BX12_layTunes_37 : bsegs (ByteArray.data cX12_layTunes |>.toList.drop 37) 37 [(37, [132, 3, 1]), (40, [167, 255, 220]), (43, [3]), (44, [62]), (45, [29]), (46, [17, 0, 128]), (49, [162, 0, 22]), (52, [42]), (53, [180, 0, 126]), (56, [17, 0, 128]), (59, [28]), (60, [104]), (61, [29]), (62, [96]), (63, [3]), (64, [79]), (65, [132, 3, 1]), (68, [167, 255, 233]), (71, [28]), (72, [4]), (73, [100]), (74, [62]), (75, [29]), (76, [155, 0, 89])] = true := by decide +kernel
theorem dX12_layTunes_37 : decode cX12_layTunes 37 = .ok (.iinc 3 1, 3) := dk_132 3 1 (bs_at BX12_layTunes_37 0 rfl) rfl
theorem dX12_layTunes_40 : decode cX12_layTunes 40 = .ok (.goto (-36), 3) := dk_167 255 220 (bs_at BX12_layTunes_37 1 rfl) rfl
theorem dX12_layTunes_43 : decode cX12_layTunes 43 = .ok (.iconst 0, 1) := dk_3 (bs_at BX12_layTunes_37 2 rfl)
theorem dX12_layTunes_44 : decode cX12_layTunes 44 = .ok (.istore_n 3, 1) := dk_62 (bs_at BX12_layTunes_37 3 rfl)
theorem dX12_layTunes_45 : decode cX12_layTunes 45 = .ok (.iload_n 3, 1) := dk_29 (bs_at BX12_layTunes_37 4 rfl)
theorem dX12_layTunes_46 : decode cX12_layTunes 46 = .ok (.sipush 128, 3) := dk_17 0 128 (bs_at BX12_layTunes_37 5 rfl) rfl
theorem dX12_layTunes_49 : decode cX12_layTunes 49 = .ok (.if_icmp .ge 22, 3) := dk_162 0 22 (bs_at BX12_layTunes_37 6 rfl) rfl
theorem dX12_layTunes_52 : decode cX12_layTunes 52 = .ok (.aload_n 0, 1) := dk_42 (bs_at BX12_layTunes_37 7 rfl)
theorem dX12_layTunes_53 : decode cX12_layTunes 53 = .ok (.getfield 126, 3) := dk_180 0 126 (bs_at BX12_layTunes_37 8 rfl) rfl
theorem dX12_layTunes_56 : decode cX12_layTunes 56 = .ok (.sipush 128, 3) := dk_17 0 128 (bs_at BX12_layTunes_37 9 rfl) rfl
theorem dX12_layTunes_59 : decode cX12_layTunes 59 = .ok (.iload_n 2, 1) := dk_28 (bs_at BX12_layTunes_37 10 rfl)
theorem dX12_layTunes_60 : decode cX12_layTunes 60 = .ok (.imul, 1) := dk_104 (bs_at BX12_layTunes_37 11 rfl)
theorem dX12_layTunes_61 : decode cX12_layTunes 61 = .ok (.iload_n 3, 1) := dk_29 (bs_at BX12_layTunes_37 12 rfl)
theorem dX12_layTunes_62 : decode cX12_layTunes 62 = .ok (.iadd, 1) := dk_96 (bs_at BX12_layTunes_37 13 rfl)
theorem dX12_layTunes_63 : decode cX12_layTunes 63 = .ok (.iconst 0, 1) := dk_3 (bs_at BX12_layTunes_37 14 rfl)
theorem dX12_layTunes_64 : decode cX12_layTunes 64 = .ok (.iastore, 1) := dk_79 (bs_at BX12_layTunes_37 15 rfl)
theorem dX12_layTunes_65 : decode cX12_layTunes 65 = .ok (.iinc 3 1, 3) := dk_132 3 1 (bs_at BX12_layTunes_37 16 rfl) rfl
theorem dX12_layTunes_68 : decode cX12_layTunes 68 = .ok (.goto (-23), 3) := dk_167 255 233 (bs_at BX12_layTunes_37 17 rfl) rfl
theorem dX12_layTunes_71 : decode cX12_layTunes 71 = .ok (.iload_n 2, 1) := dk_28 (bs_at BX12_layTunes_37 18 rfl)
theorem dX12_layTunes_72 : decode cX12_layTunes 72 = .ok (.iconst 1, 1) := dk_4 (bs_at BX12_layTunes_37 19 rfl)
theorem dX12_layTunes_73 : decode cX12_layTunes 73 = .ok (.isub, 1) := dk_100 (bs_at BX12_layTunes_37 20 rfl)
theorem dX12_layTunes_74 : decode cX12_layTunes 74 = .ok (.istore_n 3, 1) := dk_62 (bs_at BX12_layTunes_37 21 rfl)
theorem dX12_layTunes_75 : decode cX12_layTunes 75 = .ok (.iload_n 3, 1) := dk_29 (bs_at BX12_layTunes_37 22 rfl)
theorem dX12_layTunes_76 : decode cX12_layTunes 76 = .ok (.ifCond .lt 89, 3) := dk_155 0 89 (bs_at BX12_layTunes_37 23 rfl) rfl
theorem BX12_layTunes_79 : bsegs (ByteArray.data cX12_layTunes |>.toList.drop 79) 79 [(79, [3]), (80, [54, 4]), (82, [21, 4]), (84, [17, 0, 128]), (87, [162, 0, 72]), (90, [19, 1, 220]), (93, [54, 5]), (95, [3]), (96, [54, 6]), (98, [21, 6]), (100, [16, 7]), (102, [162, 0, 36]), (105, [42]), (106, [29]), (107, [21, 4]), (109, [21, 6]), (111, [182, 1, 253]), (114, [54, 7]), (116, [21, 7]), (118, [21, 5]), (120, [162, 0, 8]), (123, [21, 7]), (125, [167, 0, 5]), (128, [21, 5])] = true := by decide +kernel
theorem dX12_layTunes_79 : decode cX12_layTunes 79 = .ok (.iconst 0, 1) := dk_3 (bs_at BX12_layTunes_79 0 rfl)
theorem dX12_layTunes_80 : decode cX12_layTunes 80 = .ok (.istore 4, 2) := dk_54 4 (bs_at BX12_layTunes_79 1 rfl)
theorem dX12_layTunes_82 : decode cX12_layTunes 82 = .ok (.iload 4, 2) := dk_21 4 (bs_at BX12_layTunes_79 2 rfl)
theorem dX12_layTunes_84 : decode cX12_layTunes 84 = .ok (.sipush 128, 3) := dk_17 0 128 (bs_at BX12_layTunes_79 3 rfl) rfl
theorem dX12_layTunes_87 : decode cX12_layTunes 87 = .ok (.if_icmp .ge 72, 3) := dk_162 0 72 (bs_at BX12_layTunes_79 4 rfl) rfl
theorem dX12_layTunes_90 : decode cX12_layTunes 90 = .ok (.ldc_w 476, 3) := dk_19 1 220 (bs_at BX12_layTunes_79 5 rfl) rfl
theorem dX12_layTunes_93 : decode cX12_layTunes 93 = .ok (.istore 5, 2) := dk_54 5 (bs_at BX12_layTunes_79 6 rfl)
theorem dX12_layTunes_95 : decode cX12_layTunes 95 = .ok (.iconst 0, 1) := dk_3 (bs_at BX12_layTunes_79 7 rfl)
theorem dX12_layTunes_96 : decode cX12_layTunes 96 = .ok (.istore 6, 2) := dk_54 6 (bs_at BX12_layTunes_79 8 rfl)
theorem dX12_layTunes_98 : decode cX12_layTunes 98 = .ok (.iload 6, 2) := dk_21 6 (bs_at BX12_layTunes_79 9 rfl)
theorem dX12_layTunes_100 : decode cX12_layTunes 100 = .ok (.bipush 7, 2) := dk_16 7 (bs_at BX12_layTunes_79 10 rfl) rfl
theorem dX12_layTunes_102 : decode cX12_layTunes 102 = .ok (.if_icmp .ge 36, 3) := dk_162 0 36 (bs_at BX12_layTunes_79 11 rfl) rfl
theorem dX12_layTunes_105 : decode cX12_layTunes 105 = .ok (.aload_n 0, 1) := dk_42 (bs_at BX12_layTunes_79 12 rfl)
theorem dX12_layTunes_106 : decode cX12_layTunes 106 = .ok (.iload_n 3, 1) := dk_29 (bs_at BX12_layTunes_79 13 rfl)
theorem dX12_layTunes_107 : decode cX12_layTunes 107 = .ok (.iload 4, 2) := dk_21 4 (bs_at BX12_layTunes_79 14 rfl)
theorem dX12_layTunes_109 : decode cX12_layTunes 109 = .ok (.iload 6, 2) := dk_21 6 (bs_at BX12_layTunes_79 15 rfl)
theorem dX12_layTunes_111 : decode cX12_layTunes 111 = .ok (.invokevirtual 509, 3) := dk_182 1 253 (bs_at BX12_layTunes_79 16 rfl) rfl
theorem dX12_layTunes_114 : decode cX12_layTunes 114 = .ok (.istore 7, 2) := dk_54 7 (bs_at BX12_layTunes_79 17 rfl)
theorem dX12_layTunes_116 : decode cX12_layTunes 116 = .ok (.iload 7, 2) := dk_21 7 (bs_at BX12_layTunes_79 18 rfl)
theorem dX12_layTunes_118 : decode cX12_layTunes 118 = .ok (.iload 5, 2) := dk_21 5 (bs_at BX12_layTunes_79 19 rfl)
theorem dX12_layTunes_120 : decode cX12_layTunes 120 = .ok (.if_icmp .ge 8, 3) := dk_162 0 8 (bs_at BX12_layTunes_79 20 rfl) rfl
theorem dX12_layTunes_123 : decode cX12_layTunes 123 = .ok (.iload 7, 2) := dk_21 7 (bs_at BX12_layTunes_79 21 rfl)
theorem dX12_layTunes_125 : decode cX12_layTunes 125 = .ok (.goto 5, 3) := dk_167 0 5 (bs_at BX12_layTunes_79 22 rfl) rfl
theorem dX12_layTunes_128 : decode cX12_layTunes 128 = .ok (.iload 5, 2) := dk_21 5 (bs_at BX12_layTunes_79 23 rfl)
theorem BX12_layTunes_130 : bsegs (ByteArray.data cX12_layTunes |>.toList.drop 130) 130 [(130, [54, 5]), (132, [132, 6, 1]), (135, [167, 255, 219]), (138, [42]), (139, [180, 0, 126]), (142, [17, 0, 128]), (145, [29]), (146, [104]), (147, [21, 4]), (149, [96]), (150, [21, 5]), (152, [79]), (153, [132, 4, 1]), (156, [167, 255, 182]), (159, [132, 3, 255]), (162, [167, 255, 169]), (165, [28]), (166, [172])] = true := by decide +kernel
theorem dX12_layTunes_130 : decode cX12_layTunes 130 = .ok (.istore 5, 2) := dk_54 5 (bs_at BX12_layTunes_130 0 rfl)
theorem dX12_layTunes_132 : decode cX12_layTunes 132 = .ok (.iinc 6 1, 3) := dk_132 6 1 (bs_at BX12_layTunes_130 1 rfl) rfl
theorem dX12_layTunes_135 : decode cX12_layTunes 135 = .ok (.goto (-37), 3) := dk_167 255 219 (bs_at BX12_layTunes_130 2 rfl) rfl
theorem dX12_layTunes_138 : decode cX12_layTunes 138 = .ok (.aload_n 0, 1) := dk_42 (bs_at BX12_layTunes_130 3 rfl)
theorem dX12_layTunes_139 : decode cX12_layTunes 139 = .ok (.getfield 126, 3) := dk_180 0 126 (bs_at BX12_layTunes_130 4 rfl) rfl
theorem dX12_layTunes_142 : decode cX12_layTunes 142 = .ok (.sipush 128, 3) := dk_17 0 128 (bs_at BX12_layTunes_130 5 rfl) rfl
theorem dX12_layTunes_145 : decode cX12_layTunes 145 = .ok (.iload_n 3, 1) := dk_29 (bs_at BX12_layTunes_130 6 rfl)
theorem dX12_layTunes_146 : decode cX12_layTunes 146 = .ok (.imul, 1) := dk_104 (bs_at BX12_layTunes_130 7 rfl)
theorem dX12_layTunes_147 : decode cX12_layTunes 147 = .ok (.iload 4, 2) := dk_21 4 (bs_at BX12_layTunes_130 8 rfl)
theorem dX12_layTunes_149 : decode cX12_layTunes 149 = .ok (.iadd, 1) := dk_96 (bs_at BX12_layTunes_130 9 rfl)
theorem dX12_layTunes_150 : decode cX12_layTunes 150 = .ok (.iload 5, 2) := dk_21 5 (bs_at BX12_layTunes_130 10 rfl)
theorem dX12_layTunes_152 : decode cX12_layTunes 152 = .ok (.iastore, 1) := dk_79 (bs_at BX12_layTunes_130 11 rfl)
theorem dX12_layTunes_153 : decode cX12_layTunes 153 = .ok (.iinc 4 1, 3) := dk_132 4 1 (bs_at BX12_layTunes_130 12 rfl) rfl
theorem dX12_layTunes_156 : decode cX12_layTunes 156 = .ok (.goto (-74), 3) := dk_167 255 182 (bs_at BX12_layTunes_130 13 rfl) rfl
theorem dX12_layTunes_159 : decode cX12_layTunes 159 = .ok (.iinc 3 (-1), 3) := dk_132 3 255 (bs_at BX12_layTunes_130 14 rfl) rfl
theorem dX12_layTunes_162 : decode cX12_layTunes 162 = .ok (.goto (-87), 3) := dk_167 255 169 (bs_at BX12_layTunes_130 15 rfl) rfl
theorem dX12_layTunes_165 : decode cX12_layTunes 165 = .ok (.iload_n 2, 1) := dk_28 (bs_at BX12_layTunes_130 16 rfl)
theorem dX12_layTunes_166 : decode cX12_layTunes 166 = .ok (.ireturn, 1) := dk_172 (bs_at BX12_layTunes_130 17 rfl)
theorem BX12_tune_0 : bsegs (ByteArray.data cX12_tune |>.toList.drop 0) 0 [(0, [42]), (1, [3]), (2, [181, 0, 158]), (5, [27]), (6, [133]), (7, [9]), (8, [20, 0, 191]), (11, [184, 0, 178]), (14, [153, 0, 36]), (17, [28]), (18, [155, 0, 32]), (21, [28]), (22, [158, 0, 30]), (25, [42]), (26, [28]), (27, [4]), (28, [100]), (29, [182, 0, 197]), (32, [153, 0, 18]), (35, [42]), (36, [180, 0, 13]), (39, [16, 43]), (41, [28]), (42, [96])] = true := by decide +kernel
theorem dX12_tune_0 : decode cX12_tune 0 = .ok (.aload_n 0, 1) := dk_42 (bs_at BX12_tune_0 0 rfl)
theorem dX12_tune_1 : decode cX12_tune 1 = .ok (.iconst 0, 1) := dk_3 (bs_at BX12_tune_0 1 rfl)
theorem dX12_tune_2 : decode cX12_tune 2 = .ok (.putfield 158, 3) := dk_181 0 158 (bs_at BX12_tune_0 2 rfl) rfl
theorem dX12_tune_5 : decode cX12_tune 5 = .ok (.iload_n 1, 1) := dk_27 (bs_at BX12_tune_0 3 rfl)
theorem dX12_tune_6 : decode cX12_tune 6 = .ok (.i2l, 1) := dk_133 (bs_at BX12_tune_0 4 rfl)
theorem dX12_tune_7 : decode cX12_tune 7 = .ok (.lconst 0, 1) := dk_9 (bs_at BX12_tune_0 5 rfl)
theorem dX12_tune_8 : decode cX12_tune 8 = .ok (.ldc2_w 191, 3) := dk_20 0 191 (bs_at BX12_tune_0 6 rfl) rfl
theorem dX12_tune_11 : decode cX12_tune 11 = .ok (.invokestatic 178, 3) := dk_184 0 178 (bs_at BX12_tune_0 7 rfl) rfl
theorem dX12_tune_14 : decode cX12_tune 14 = .ok (.ifCond .eq 36, 3) := dk_153 0 36 (bs_at BX12_tune_0 8 rfl) rfl
theorem dX12_tune_17 : decode cX12_tune 17 = .ok (.iload_n 2, 1) := dk_28 (bs_at BX12_tune_0 9 rfl)
theorem dX12_tune_18 : decode cX12_tune 18 = .ok (.ifCond .lt 32, 3) := dk_155 0 32 (bs_at BX12_tune_0 10 rfl) rfl
theorem dX12_tune_21 : decode cX12_tune 21 = .ok (.iload_n 2, 1) := dk_28 (bs_at BX12_tune_0 11 rfl)
theorem dX12_tune_22 : decode cX12_tune 22 = .ok (.ifCond .le 30, 3) := dk_158 0 30 (bs_at BX12_tune_0 12 rfl) rfl
theorem dX12_tune_25 : decode cX12_tune 25 = .ok (.aload_n 0, 1) := dk_42 (bs_at BX12_tune_0 13 rfl)
theorem dX12_tune_26 : decode cX12_tune 26 = .ok (.iload_n 2, 1) := dk_28 (bs_at BX12_tune_0 14 rfl)
theorem dX12_tune_27 : decode cX12_tune 27 = .ok (.iconst 1, 1) := dk_4 (bs_at BX12_tune_0 15 rfl)
theorem dX12_tune_28 : decode cX12_tune 28 = .ok (.isub, 1) := dk_100 (bs_at BX12_tune_0 16 rfl)
theorem dX12_tune_29 : decode cX12_tune 29 = .ok (.invokevirtual 197, 3) := dk_182 0 197 (bs_at BX12_tune_0 17 rfl) rfl
theorem dX12_tune_32 : decode cX12_tune 32 = .ok (.ifCond .eq 18, 3) := dk_153 0 18 (bs_at BX12_tune_0 18 rfl) rfl
theorem dX12_tune_35 : decode cX12_tune 35 = .ok (.aload_n 0, 1) := dk_42 (bs_at BX12_tune_0 19 rfl)
theorem dX12_tune_36 : decode cX12_tune 36 = .ok (.getfield 13, 3) := dk_180 0 13 (bs_at BX12_tune_0 20 rfl) rfl
theorem dX12_tune_39 : decode cX12_tune 39 = .ok (.bipush 43, 2) := dk_16 43 (bs_at BX12_tune_0 21 rfl) rfl
theorem dX12_tune_41 : decode cX12_tune 41 = .ok (.iload_n 2, 1) := dk_28 (bs_at BX12_tune_0 22 rfl)
theorem dX12_tune_42 : decode cX12_tune 42 = .ok (.iadd, 1) := dk_96 (bs_at BX12_tune_0 23 rfl)
theorem BX12_tune_43 : bsegs (ByteArray.data cX12_tune |>.toList.drop 43) 43 [(43, [4]), (44, [100]), (45, [46]), (46, [27]), (47, [159, 0, 5]), (50, [2]), (51, [172]), (52, [42]), (53, [27]), (54, [182, 2, 0]), (57, [62]), (58, [28]), (59, [154, 0, 10]), (62, [42]), (63, [180, 0, 126]), (66, [3]), (67, [46]), (68, [172]), (69, [3]), (70, [54, 4]), (72, [3]), (73, [54, 5]), (75, [21, 5]), (77, [29])] = true := by decide +kernel
theorem dX12_tune_43 : decode cX12_tune 43 = .ok (.iconst 1, 1) := dk_4 (bs_at BX12_tune_43 0 rfl)
theorem dX12_tune_44 : decode cX12_tune 44 = .ok (.isub, 1) := dk_100 (bs_at BX12_tune_43 1 rfl)
theorem dX12_tune_45 : decode cX12_tune 45 = .ok (.iaload, 1) := dk_46 (bs_at BX12_tune_43 2 rfl)
theorem dX12_tune_46 : decode cX12_tune 46 = .ok (.iload_n 1, 1) := dk_27 (bs_at BX12_tune_43 3 rfl)
theorem dX12_tune_47 : decode cX12_tune 47 = .ok (.if_icmp .eq 5, 3) := dk_159 0 5 (bs_at BX12_tune_43 4 rfl) rfl
theorem dX12_tune_50 : decode cX12_tune 50 = .ok (.iconst (-1), 1) := dk_2 (bs_at BX12_tune_43 5 rfl)
theorem dX12_tune_51 : decode cX12_tune 51 = .ok (.ireturn, 1) := dk_172 (bs_at BX12_tune_43 6 rfl)
theorem dX12_tune_52 : decode cX12_tune 52 = .ok (.aload_n 0, 1) := dk_42 (bs_at BX12_tune_43 7 rfl)
theorem dX12_tune_53 : decode cX12_tune 53 = .ok (.iload_n 1, 1) := dk_27 (bs_at BX12_tune_43 8 rfl)
theorem dX12_tune_54 : decode cX12_tune 54 = .ok (.invokevirtual 512, 3) := dk_182 2 0 (bs_at BX12_tune_43 9 rfl) rfl
theorem dX12_tune_57 : decode cX12_tune 57 = .ok (.istore_n 3, 1) := dk_62 (bs_at BX12_tune_43 10 rfl)
theorem dX12_tune_58 : decode cX12_tune 58 = .ok (.iload_n 2, 1) := dk_28 (bs_at BX12_tune_43 11 rfl)
theorem dX12_tune_59 : decode cX12_tune 59 = .ok (.ifCond .ne 10, 3) := dk_154 0 10 (bs_at BX12_tune_43 12 rfl) rfl
theorem dX12_tune_62 : decode cX12_tune 62 = .ok (.aload_n 0, 1) := dk_42 (bs_at BX12_tune_43 13 rfl)
theorem dX12_tune_63 : decode cX12_tune 63 = .ok (.getfield 126, 3) := dk_180 0 126 (bs_at BX12_tune_43 14 rfl) rfl
theorem dX12_tune_66 : decode cX12_tune 66 = .ok (.iconst 0, 1) := dk_3 (bs_at BX12_tune_43 15 rfl)
theorem dX12_tune_67 : decode cX12_tune 67 = .ok (.iaload, 1) := dk_46 (bs_at BX12_tune_43 16 rfl)
theorem dX12_tune_68 : decode cX12_tune 68 = .ok (.ireturn, 1) := dk_172 (bs_at BX12_tune_43 17 rfl)
theorem dX12_tune_69 : decode cX12_tune 69 = .ok (.iconst 0, 1) := dk_3 (bs_at BX12_tune_43 18 rfl)
theorem dX12_tune_70 : decode cX12_tune 70 = .ok (.istore 4, 2) := dk_54 4 (bs_at BX12_tune_43 19 rfl)
theorem dX12_tune_72 : decode cX12_tune 72 = .ok (.iconst 0, 1) := dk_3 (bs_at BX12_tune_43 20 rfl)
theorem dX12_tune_73 : decode cX12_tune 73 = .ok (.istore 5, 2) := dk_54 5 (bs_at BX12_tune_43 21 rfl)
theorem dX12_tune_75 : decode cX12_tune 75 = .ok (.iload 5, 2) := dk_21 5 (bs_at BX12_tune_43 22 rfl)
theorem dX12_tune_77 : decode cX12_tune 77 = .ok (.iload_n 3, 1) := dk_29 (bs_at BX12_tune_43 23 rfl)
theorem BX12_tune_78 : bsegs (ByteArray.data cX12_tune |>.toList.drop 78) 78 [(78, [162, 0, 70]), (81, [3]), (82, [54, 6]), (84, [42]), (85, [21, 5]), (87, [21, 4]), (89, [21, 6]), (91, [182, 1, 253]), (94, [42]), (95, [180, 0, 126]), (98, [17, 0, 128]), (101, [21, 5]), (103, [104]), (104, [21, 4]), (106, [96]), (107, [46]), (108, [159, 0, 9]), (111, [132, 6, 1]), (114, [167, 255, 226]), (117, [42]), (118, [180, 0, 129]), (121, [21, 5]), (123, [46]), (124, [28])] = true := by decide +kernel
theorem dX12_tune_78 : decode cX12_tune 78 = .ok (.if_icmp .ge 70, 3) := dk_162 0 70 (bs_at BX12_tune_78 0 rfl) rfl
theorem dX12_tune_81 : decode cX12_tune 81 = .ok (.iconst 0, 1) := dk_3 (bs_at BX12_tune_78 1 rfl)
theorem dX12_tune_82 : decode cX12_tune 82 = .ok (.istore 6, 2) := dk_54 6 (bs_at BX12_tune_78 2 rfl)
theorem dX12_tune_84 : decode cX12_tune 84 = .ok (.aload_n 0, 1) := dk_42 (bs_at BX12_tune_78 3 rfl)
theorem dX12_tune_85 : decode cX12_tune 85 = .ok (.iload 5, 2) := dk_21 5 (bs_at BX12_tune_78 4 rfl)
theorem dX12_tune_87 : decode cX12_tune 87 = .ok (.iload 4, 2) := dk_21 4 (bs_at BX12_tune_78 5 rfl)
theorem dX12_tune_89 : decode cX12_tune 89 = .ok (.iload 6, 2) := dk_21 6 (bs_at BX12_tune_78 6 rfl)
theorem dX12_tune_91 : decode cX12_tune 91 = .ok (.invokevirtual 509, 3) := dk_182 1 253 (bs_at BX12_tune_78 7 rfl) rfl
theorem dX12_tune_94 : decode cX12_tune 94 = .ok (.aload_n 0, 1) := dk_42 (bs_at BX12_tune_78 8 rfl)
theorem dX12_tune_95 : decode cX12_tune 95 = .ok (.getfield 126, 3) := dk_180 0 126 (bs_at BX12_tune_78 9 rfl) rfl
theorem dX12_tune_98 : decode cX12_tune 98 = .ok (.sipush 128, 3) := dk_17 0 128 (bs_at BX12_tune_78 10 rfl) rfl
theorem dX12_tune_101 : decode cX12_tune 101 = .ok (.iload 5, 2) := dk_21 5 (bs_at BX12_tune_78 11 rfl)
theorem dX12_tune_103 : decode cX12_tune 103 = .ok (.imul, 1) := dk_104 (bs_at BX12_tune_78 12 rfl)
theorem dX12_tune_104 : decode cX12_tune 104 = .ok (.iload 4, 2) := dk_21 4 (bs_at BX12_tune_78 13 rfl)
theorem dX12_tune_106 : decode cX12_tune 106 = .ok (.iadd, 1) := dk_96 (bs_at BX12_tune_78 14 rfl)
theorem dX12_tune_107 : decode cX12_tune 107 = .ok (.iaload, 1) := dk_46 (bs_at BX12_tune_78 15 rfl)
theorem dX12_tune_108 : decode cX12_tune 108 = .ok (.if_icmp .eq 9, 3) := dk_159 0 9 (bs_at BX12_tune_78 16 rfl) rfl
theorem dX12_tune_111 : decode cX12_tune 111 = .ok (.iinc 6 1, 3) := dk_132 6 1 (bs_at BX12_tune_78 17 rfl) rfl
theorem dX12_tune_114 : decode cX12_tune 114 = .ok (.goto (-30), 3) := dk_167 255 226 (bs_at BX12_tune_78 18 rfl) rfl
theorem dX12_tune_117 : decode cX12_tune 117 = .ok (.aload_n 0, 1) := dk_42 (bs_at BX12_tune_78 19 rfl)
theorem dX12_tune_118 : decode cX12_tune 118 = .ok (.getfield 129, 3) := dk_180 0 129 (bs_at BX12_tune_78 20 rfl) rfl
theorem dX12_tune_121 : decode cX12_tune 121 = .ok (.iload 5, 2) := dk_21 5 (bs_at BX12_tune_78 21 rfl)
theorem dX12_tune_123 : decode cX12_tune 123 = .ok (.iaload, 1) := dk_46 (bs_at BX12_tune_78 22 rfl)
theorem dX12_tune_124 : decode cX12_tune 124 = .ok (.iload_n 2, 1) := dk_28 (bs_at BX12_tune_78 23 rfl)
theorem BX12_tune_125 : bsegs (ByteArray.data cX12_tune |>.toList.drop 125) 125 [(125, [4]), (126, [100]), (127, [160, 0, 6]), (130, [21, 6]), (132, [172]), (133, [21, 4]), (135, [4]), (136, [21, 6]), (138, [120]), (139, [128]), (140, [54, 4]), (142, [132, 5, 1]), (145, [167, 255, 186]), (148, [2]), (149, [172])] = true := by decide +kernel
theorem dX12_tune_125 : decode cX12_tune 125 = .ok (.iconst 1, 1) := dk_4 (bs_at BX12_tune_125 0 rfl)
theorem dX12_tune_126 : decode cX12_tune 126 = .ok (.isub, 1) := dk_100 (bs_at BX12_tune_125 1 rfl)
theorem dX12_tune_127 : decode cX12_tune 127 = .ok (.if_icmp .ne 6, 3) := dk_160 0 6 (bs_at BX12_tune_125 2 rfl) rfl
theorem dX12_tune_130 : decode cX12_tune 130 = .ok (.iload 6, 2) := dk_21 6 (bs_at BX12_tune_125 3 rfl)
theorem dX12_tune_132 : decode cX12_tune 132 = .ok (.ireturn, 1) := dk_172 (bs_at BX12_tune_125 4 rfl)
theorem dX12_tune_133 : decode cX12_tune 133 = .ok (.iload 4, 2) := dk_21 4 (bs_at BX12_tune_125 5 rfl)
theorem dX12_tune_135 : decode cX12_tune 135 = .ok (.iconst 1, 1) := dk_4 (bs_at BX12_tune_125 6 rfl)
theorem dX12_tune_136 : decode cX12_tune 136 = .ok (.iload 6, 2) := dk_21 6 (bs_at BX12_tune_125 7 rfl)
theorem dX12_tune_138 : decode cX12_tune 138 = .ok (.ishl, 1) := dk_120 (bs_at BX12_tune_125 8 rfl)
theorem dX12_tune_139 : decode cX12_tune 139 = .ok (.ior, 1) := dk_128 (bs_at BX12_tune_125 9 rfl)
theorem dX12_tune_140 : decode cX12_tune 140 = .ok (.istore 4, 2) := dk_54 4 (bs_at BX12_tune_125 10 rfl)
theorem dX12_tune_142 : decode cX12_tune 142 = .ok (.iinc 5 1, 3) := dk_132 5 1 (bs_at BX12_tune_125 11 rfl) rfl
theorem dX12_tune_145 : decode cX12_tune 145 = .ok (.goto (-70), 3) := dk_167 255 186 (bs_at BX12_tune_125 12 rfl) rfl
theorem dX12_tune_148 : decode cX12_tune 148 = .ok (.iconst (-1), 1) := dk_2 (bs_at BX12_tune_125 13 rfl)
theorem dX12_tune_149 : decode cX12_tune 149 = .ok (.ireturn, 1) := dk_172 (bs_at BX12_tune_125 14 rfl)
theorem ggX12_layTunes_X12_movedBy : GoodIn wsX12_layTunes wsX12_movedBy := gi_ch ch_X12_layTunes ch_X12_movedBy (by decide +kernel)
theorem gX12_layTunes_X12_movedBy : GoodIn wsX12_layTunes (wsV RX12 509 RX12 yX12_movedBy wsX12_movedBy) := gi_ch ch_X12_layTunes (ch_v [1286, 1287, 135, 156] rfl ch_X12_movedBy) (by decide +kernel)
theorem ggX12_tune_X12_in : GoodIn wsX12_tune wsX12_in := gi_ch ch_X12_tune ch_X12_in (by decide +kernel)
theorem gX12_tune_X12_in : GoodIn wsX12_tune (va_wsS RX12 178 yX12_in wsX12_in) := gi_ch ch_X12_tune (ch_s [965, 966, 156] rfl ch_X12_in) (by decide +kernel)
theorem ggX12_tune_X12_layTunes : GoodIn wsX12_tune wsX12_layTunes := gi_ch ch_X12_tune ch_X12_layTunes (by decide +kernel)
theorem gX12_tune_X12_layTunes : GoodIn wsX12_tune (wsV RX12 512 RX12 yX12_layTunes wsX12_layTunes) := gi_ch ch_X12_tune (ch_v [1283, 1284, 134, 156] rfl ch_X12_layTunes) (by decide +kernel)
theorem ggX12_tune_X12_movedBy : GoodIn wsX12_tune wsX12_movedBy := gi_ch ch_X12_tune ch_X12_movedBy (by decide +kernel)
theorem gX12_tune_X12_movedBy : GoodIn wsX12_tune (wsV RX12 509 RX12 yX12_movedBy wsX12_movedBy) := gi_ch ch_X12_tune (ch_v [1286, 1287, 135, 156] rfl ch_X12_movedBy) (by decide +kernel)
theorem ggX12_tune_X12_isHouse : GoodIn wsX12_tune wsX12_isHouse := gi_ch ch_X12_tune ch_X12_isHouse (by decide +kernel)
theorem gX12_tune_X12_isHouse : GoodIn wsX12_tune (wsV RX12 197 RX12 yX12_isHouse wsX12_isHouse) := gi_ch ch_X12_tune (ch_v [984, 985, 76, 156] rfl ch_X12_isHouse) (by decide +kernel)
set_option maxRecDepth 100000 in
noncomputable def E_v_layTunes_l98 (fw : Nat → Int32) (f_4609 : Nat → Int32) (v_5534 : Int32) (v_6636 : Int32) (f_6637 : Nat → Int32) (rec_6758 : Int32 → (Nat → Int32) → (Int32 × (Nat → Int32) × (Nat → Int32))) (rec_6806 : Int32 → Int32 → (Int32 × (Nat → Int32) × (Nat → Int32))) (v_6790 : Int32) (v_6791 : Int32) : Int32 × (Nat → Int32) × (Nat → Int32) :=
  if 7 ≤ v_6790 then (Lt (128 * v_5534 : Int32) (fun x_6809 => Lt (x_6809 + v_6636 : Int32) (fun x_6810 => Lt (upd f_6637 (x_6810 : Int32).toNatClampNeg v_6791 : Nat → Int32) (fun f_6811 => Lt (v_6636 + Int32.ofInt 1 : Int32) (fun x_6812 => rec_6758 x_6812 f_6811))))) else (Lt (E_v_movedBy v_5534 v_6636 v_6790 fw f_4609 f_6637) (fun r_6813 => if v_6791 ≤ r_6813 then (Lt (v_6790 + Int32.ofInt 1 : Int32) (fun x_6816 => rec_6806 x_6816 v_6791)) else (Lt (v_6790 + Int32.ofInt 1 : Int32) (fun x_6817 => rec_6806 x_6817 r_6813))))
set_option maxRecDepth 100000 in
noncomputable def E_v_layTunes_l82 (fw : Nat → Int32) (f_4609 : Nat → Int32) (v_5534 : Int32) (rec_6392 : Int32 → (Nat → Int32) → (Int32 × (Nat → Int32) × (Nat → Int32))) (rec_6758 : Int32 → (Nat → Int32) → (Int32 × (Nat → Int32) × (Nat → Int32))) (v_6636 : Int32) (f_6637 : Nat → Int32) : Int32 × (Nat → Int32) × (Nat → Int32) :=
  if 128 ≤ v_6636 then (Lt (v_5534 + Int32.ofInt (-1) : Int32) (fun x_6761 => rec_6392 x_6761 f_6637)) else (Lp (α := Int32 → Int32 → (Int32 × (Nat → Int32) × (Nat → Int32))) (E_v_layTunes_l98 fw f_4609 v_5534 v_6636 f_6637 rec_6758) (fun _ _ => ((0, fun _ => 0, fun _ => 0) : Int32 × (Nat → Int32) × (Nat → Int32))) ((8 - (0 : Int32).toInt : Int).toNat + 1) 0 100000000)
set_option maxRecDepth 100000 in
noncomputable def E_v_layTunes_l75 (fw : Nat → Int32) (v_4608 : Int32) (f_4609 : Nat → Int32) (rec_6392 : Int32 → (Nat → Int32) → (Int32 × (Nat → Int32) × (Nat → Int32))) (v_5534 : Int32) (f_5535 : Nat → Int32) : Int32 × (Nat → Int32) × (Nat → Int32) :=
  if v_5534 < 0 then (((v_4608, f_4609, f_5535) : Int32 × (Nat → Int32) × (Nat → Int32))) else (Lp (α := Int32 → (Nat → Int32) → (Int32 × (Nat → Int32) × (Nat → Int32))) (E_v_layTunes_l82 fw f_4609 v_5534 rec_6392) (fun _ _ => ((0, fun _ => 0, fun _ => 0) : Int32 × (Nat → Int32) × (Nat → Int32))) ((129 - (0 : Int32).toInt : Int).toNat + 1) 0 f_5535)
set_option maxRecDepth 100000 in
noncomputable def E_v_layTunes_l45 (fw : Nat → Int32) (v_4608 : Int32) (f_4609 : Nat → Int32) (rec_4674 : Int32 → (Nat → Int32) → (Int32 × (Nat → Int32) × (Nat → Int32))) (v_4660 : Int32) (f_4661 : Nat → Int32) : Int32 × (Nat → Int32) × (Nat → Int32) :=
  if 128 ≤ v_4660 then (Lt (v_4608 - 1 : Int32) (fun x_4677 => Lp (α := Int32 → (Nat → Int32) → (Int32 × (Nat → Int32) × (Nat → Int32))) (E_v_layTunes_l75 fw v_4608 f_4609) (fun _ _ => ((0, fun _ => 0, fun _ => 0) : Int32 × (Nat → Int32) × (Nat → Int32))) (((x_4677 : Int32).toInt - (-2) : Int).toNat + 1) x_4677 f_4661)) else (Lt (128 * v_4608 : Int32) (fun x_6821 => Lt (x_6821 + v_4660 : Int32) (fun x_6822 => Lt (upd f_4661 (x_6822 : Int32).toNatClampNeg 0 : Nat → Int32) (fun f_6823 => Lt (v_4660 + Int32.ofInt 1 : Int32) (fun x_6824 => rec_4674 x_6824 f_6823)))))
set_option maxRecDepth 100000 in
noncomputable def E_v_layTunes_l4 (x : Int32) (fw : Nat → Int32) (fm : Nat → Int32) (rec_4631 : Int32 → Int32 → (Nat → Int32) → (Int32 × (Nat → Int32) × (Nat → Int32))) (v_4607 : Int32) (v_4608 : Int32) (f_4609 : Nat → Int32) : Int32 × (Nat → Int32) × (Nat → Int32) :=
  Lt (fw (0 : Int32).toNatClampNeg : Int32) (fun x_4633 => if x_4633 ≤ v_4607 then (Lp (α := Int32 → (Nat → Int32) → (Int32 × (Nat → Int32) × (Nat → Int32))) (E_v_layTunes_l45 fw v_4608 f_4609) (fun _ _ => ((0, fun _ => 0, fun _ => 0) : Int32 × (Nat → Int32) × (Nat → Int32))) ((129 - (0 : Int32).toInt : Int).toNat + 1) 0 fm) else (Lt (43 + v_4607 : Int32) (fun x_6826 => Lt (fw (x_6826 : Int32).toNatClampNeg : Int32) (fun x_6827 => if x_6827 = x then (Lt (upd f_4609 (v_4608 : Int32).toNatClampNeg v_4607 : Nat → Int32) (fun f_6830 => Lt (v_4608 + Int32.ofInt 1 : Int32) (fun x_6831 => Lt (v_4607 + Int32.ofInt 1 : Int32) (fun x_6832 => rec_4631 x_6832 x_6831 f_6830)))) else (Lt (v_4607 + Int32.ofInt 1 : Int32) (fun x_6829 => rec_4631 x_6829 v_4608 f_4609))))))
set_option maxRecDepth 100000 in
noncomputable def E_v_layTunes (x : Int32) (fw : Nat → Int32) (fp : Nat → Int32) (fm : Nat → Int32) : Int32 × (Nat → Int32) × (Nat → Int32) :=
  Lp (α := Int32 → Int32 → (Nat → Int32) → (Int32 × (Nat → Int32) × (Nat → Int32))) (E_v_layTunes_l4 x fw fm) (fun _ _ _ => ((0, fun _ => 0, fun _ => 0) : Int32 × (Nat → Int32) × (Nat → Int32))) ((9 - (0 : Int32).toInt : Int).toNat + 1) 0 0 fp
set_option maxHeartbeats 4000000 in
set_option maxRecDepth 100000 in
theorem v_layTunes (l : Launch) (D : va_G) (K : Nat → ClassId) (m0 : Nat) (x : Int32) (m_0 : Value) (m_1 : Value) (m_2 : Value) (w0 : Nat) (m_4 : Value) (m_5 : Value) (m_6 : Value) (m_7 : Value) (m_8 : Value) (m_9 : Value) (m_10 : Value) (m_11 : Value) (m_12 : Value) (m_13 : Value) (m_14 : Value) (m_15 : Value) (m_16 : Value) (m_17 : Value) (m_18 : Value) (m_19 : Value) (m_20 : Value) (m_21 : Value) (m_22 : Value) (m_23 : Value) (m_24 : Value) (m_25 : Value) (m_26 : Value) (m_27 : Value) (m_28 : Value) (m_29 : Value) (m_30 : Value) (m_31 : Value) (m_32 : Value) (m_33 : Value) (m_34 : Value) (m_35 : Value) (m_36 : Value) (m_37 : Value) (m_38 : Value) (m_39 : Value) (m_40 : Value) (m_41 : Value) (m_42 : Value) (m_43 : Value) (m_44 : Value) (m_45 : Value) (m_46 : Value) (mo : Nat) (pl : Nat) (m_49 : Value) (m_50 : Value) (m_51 : Value) (m_52 : Value) (m_53 : Value) (m_54 : Value) (m_55 : Value) (m_56 : Value) (m_57 : Value) (m_58 : Value) (m_59 : Value) (fw : Nat → Int32) (gr : Nat → Int32) (fp : Nat → Int32) (fm : Nat → Int32) (sz : Nat) (zfw : RwOK fw) (zgr : FzM gr fw) (zfp : Rg 8 0 7 fp) (zfm : Rg 1152 0 100000000 fm) : Met l yX12_layTunes wsX12_layTunes ({ frames := 3, cells := 0, slots := 0, locals := 66 }) (va_Pc [.ref m0, .int x] (Pre D K [(cc_O m0 12 [m_0, m_1, m_2, .ref w0, m_4, m_5, m_6, m_7, m_8, m_9, m_10, m_11, m_12, m_13, m_14, m_15, m_16, m_17, m_18, m_19, m_20, m_21, m_22, m_23, m_24, m_25, m_26, m_27, m_28, m_29, m_30, m_31, m_32, m_33, m_34, m_35, m_36, m_37, m_38, m_39, m_40, m_41, m_42, m_43, m_44, m_45, m_46, .ref mo, .ref pl, m_49, m_50, m_51, m_52, m_53, m_54, m_55, m_56, m_57, m_58, m_59]), (cc_l w0 (K 0) 5500 fw), (cc_l pl (K 0) 8 fp), (cc_l mo (K 0) 1152 fm)] sz)) (va_Qi (S := Su) (fun (r : Int32) (u : Su) => (0 ≤ r.toInt ∧ r.toInt ≤ 8) ∧ (Rg 8 0 7 (u.2.1 0)) ∧ (Rg 1152 0 100000000 (u.2.1 1)) ∧ (TOK fw (u.2.1 0) (u.2.1 1) (-1) 0 r.toInt) ∧ ((r, (u.2.1 0), (u.2.1 1)) = E_v_layTunes x fw fp fm) ∧ True) (fun u t => Wd D (va_A [(cc_O m0 12 [m_0, m_1, m_2, .ref w0, m_4, m_5, m_6, m_7, m_8, m_9, m_10, m_11, m_12, m_13, m_14, m_15, m_16, m_17, m_18, m_19, m_20, m_21, m_22, m_23, m_24, m_25, m_26, m_27, m_28, m_29, m_30, m_31, m_32, m_33, m_34, m_35, m_36, m_37, m_38, m_39, m_40, m_41, m_42, m_43, m_44, m_45, m_46, .ref mo, .ref pl, m_49, m_50, m_51, m_52, m_53, m_54, m_55, m_56, m_57, m_58, m_59]), (cc_l w0 (K 0) 5500 fw), (cc_l pl (K 0) 8 fp), (cc_l mo (K 0) 1152 fm)] sz) ((fun u => [(cc_O m0 12 [m_0, m_1, m_2, .ref w0, m_4, m_5, m_6, m_7, m_8, m_9, m_10, m_11, m_12, m_13, m_14, m_15, m_16, m_17, m_18, m_19, m_20, m_21, m_22, m_23, m_24, m_25, m_26, m_27, m_28, m_29, m_30, m_31, m_32, m_33, m_34, m_35, m_36, m_37, m_38, m_39, m_40, m_41, m_42, m_43, m_44, m_45, m_46, .ref mo, .ref pl, m_49, m_50, m_51, m_52, m_53, m_54, m_55, m_56, m_57, m_58, m_59]), (cc_l w0 (K 0) 5500 fw), (cc_l pl (K 0) 8 (u.2.1 0)), (cc_l mo (K 0) 1152 (u.2.1 1))]) u) t) (va_A [(cc_O m0 12 [m_0, m_1, m_2, .ref w0, m_4, m_5, m_6, m_7, m_8, m_9, m_10, m_11, m_12, m_13, m_14, m_15, m_16, m_17, m_18, m_19, m_20, m_21, m_22, m_23, m_24, m_25, m_26, m_27, m_28, m_29, m_30, m_31, m_32, m_33, m_34, m_35, m_36, m_37, m_38, m_39, m_40, m_41, m_42, m_43, m_44, m_45, m_46, .ref mo, .ref pl, m_49, m_50, m_51, m_52, m_53, m_54, m_55, m_56, m_57, m_58, m_59]), (cc_l w0 (K 0) 5500 fw), (cc_l pl (K 0) 8 fp), (cc_l mo (K 0) 1152 fm)] sz)) 0 0 (va_A [(cc_O m0 12 [m_0, m_1, m_2, .ref w0, m_4, m_5, m_6, m_7, m_8, m_9, m_10, m_11, m_12, m_13, m_14, m_15, m_16, m_17, m_18, m_19, m_20, m_21, m_22, m_23, m_24, m_25, m_26, m_27, m_28, m_29, m_30, m_31, m_32, m_33, m_34, m_35, m_36, m_37, m_38, m_39, m_40, m_41, m_42, m_43, m_44, m_45, m_46, .ref mo, .ref pl, m_49, m_50, m_51, m_52, m_53, m_54, m_55, m_56, m_57, m_58, m_59]), (cc_l w0 (K 0) 5500 fw), (cc_l pl (K 0) 8 fp), (cc_l mo (K 0) 1152 fm)] sz) := by
  refine Met.ofW (cc := cX12_layTunes) (maxL := 8) (ret := (some .int)) (by decide +kernel) rfl ?_
  intro p e s m args below meth c s₁ B hml hv
  obtain ⟨rfl, hsz, hP, hK, hD0, hN⟩ := hv
  have hx := B.exec
  have hb := B.bytes
  have hr := B.returns
  have hts := atoms_spec (ws := wsX12_layTunes) B.pre
  have hown : s.vm.findClass RX12 = some m.cls := findClass_of_methodNamed B.named
  have hlocks := B.notSynchronized
  subst hsz
  have hD := hD0.self (sz := s.heap.size)
  generalize hAe : va_A [(cc_O m0 12 [m_0, m_1, m_2, .ref w0, m_4, m_5, m_6, m_7, m_8, m_9, m_10, m_11, m_12, m_13, m_14, m_15, m_16, m_17, m_18, m_19, m_20, m_21, m_22, m_23, m_24, m_25, m_26, m_27, m_28, m_29, m_30, m_31, m_32, m_33, m_34, m_35, m_36, m_37, m_38, m_39, m_40, m_41, m_42, m_43, m_44, m_45, m_46, .ref mo, .ref pl, m_49, m_50, m_51, m_52, m_53, m_54, m_55, m_56, m_57, m_58, m_59]), (cc_l w0 (K 0) 5500 fw), (cc_l pl (K 0) 8 fp), (cc_l mo (K 0) 1152 fm)] s.heap.size = A at hD ⊢
  have hA : ∀ q : Nat, s.heap.size ≤ q → A q := fun q h => by rw [← hAe]; exact Or.inr h
  clear hAe
  have hS : va_S A s.heap s.heap [] := va_S.rf
  replace hP : va_P D vwCl [(cc_O m0 12 [m_0, m_1, m_2, .ref w0, m_4, m_5, m_6, m_7, m_8, m_9, m_10, m_11, m_12, m_13, m_14, m_15, m_16, m_17, m_18, m_19, m_20, m_21, m_22, m_23, m_24, m_25, m_26, m_27, m_28, m_29, m_30, m_31, m_32, m_33, m_34, m_35, m_36, m_37, m_38, m_39, m_40, m_41, m_42, m_43, m_44, m_45, m_46, .ref mo, .ref pl, m_49, m_50, m_51, m_52, m_53, m_54, m_55, m_56, m_57, m_58, m_59]), (cc_l w0 (K 0) 5500 fw), (cc_l pl (K 0) 8 fp), (cc_l mo (K 0) 1152 fm)] s.heap := hP
  have hl := lv_entry [.ref m0, .int x] (n := 8) (Nat.le_of_ble_eq_true rfl)
  rw [lg_entry_eq]
  generalize (lg_sl [.ref m0, .int x] ++ List.replicate (8 - (lg_sl [.ref m0, .int x]).length) Slot.unset).toArray = ls at hl ⊢
  have hl : lv_has ls 8 [(0, .ref m0), (1, .int x)] := hl
  have hw12 : ∀ w ∈ wsX120, w ∈ wsX12_layTunes := fun w h => (List.mem_cons_of_mem _ (List.mem_append_right _ h))
  generalize hQ : MQ below _ _ s _ _ _ = Q
  have hE := E_v_layTunes.eq_def x fw fp fm
  refine lv_iconst (v := 0) hx hb dX12_layTunes_0 (by decide +kernel) (lv_istore_n (lv' := [(2, .int 0), (0, .ref m0), (1, .int x)]) hx hb dX12_layTunes_1 rfl hl (by decide +kernel) rfl (fun ls hl => ?_))
  refine lv_iconst (v := 0) hx hb dX12_layTunes_2 (by decide +kernel) (lv_istore_n (lv' := [(3, .int 0), (2, .int 0), (0, .ref m0), (1, .int x)]) hx hb dX12_layTunes_3 rfl hl (by decide +kernel) rfl (fun ls hl => ?_))
  have lp_4631 : ∀ (nn_ : Nat) (v_4607 : Int32) (v_4608 : Int32) (f_4609 : Nat → Int32) (hv_4607 : 0 ≤ v_4607.toInt ∧ v_4607.toInt ≤ 8) (hv_4608 : 0 ≤ v_4608.toInt ∧ v_4608.toInt ≤ 8) (hf_4609_0 : Rg 8 0 7 f_4609) (hr0_lp_4631 : 0 ≤ v_4608.toInt ∧ v_4608.toInt ≤ v_4607.toInt) (hn : (9 - v_4607.toInt : Int).toNat < nn_) (hE : E_v_layTunes x fw fp fm = Lp (α := Int32 → Int32 → (Nat → Int32) → (Int32 × (Nat → Int32) × (Nat → Int32))) (E_v_layTunes_l4 x fw fm) (fun _ _ _ => ((0, fun _ => 0, fun _ => 0) : Int32 × (Nat → Int32) × (Nat → Int32))) nn_ v_4607 v_4608 f_4609) (H : Heap) (locs : List Loc) (hP : va_P D vwCl [(cc_O m0 12 [m_0, m_1, m_2, .ref w0, m_4, m_5, m_6, m_7, m_8, m_9, m_10, m_11, m_12, m_13, m_14, m_15, m_16, m_17, m_18, m_19, m_20, m_21, m_22, m_23, m_24, m_25, m_26, m_27, m_28, m_29, m_30, m_31, m_32, m_33, m_34, m_35, m_36, m_37, m_38, m_39, m_40, m_41, m_42, m_43, m_44, m_45, m_46, .ref mo, .ref pl, m_49, m_50, m_51, m_52, m_53, m_54, m_55, m_56, m_57, m_58, m_59]), (cc_l w0 (K 0) 5500 fw), (cc_l pl (K 0) 8 f_4609), (cc_l mo (K 0) 1152 fm)] H) (hD : va_D A [(cc_O m0 12 [m_0, m_1, m_2, .ref w0, m_4, m_5, m_6, m_7, m_8, m_9, m_10, m_11, m_12, m_13, m_14, m_15, m_16, m_17, m_18, m_19, m_20, m_21, m_22, m_23, m_24, m_25, m_26, m_27, m_28, m_29, m_30, m_31, m_32, m_33, m_34, m_35, m_36, m_37, m_38, m_39, m_40, m_41, m_42, m_43, m_44, m_45, m_46, .ref mo, .ref pl, m_49, m_50, m_51, m_52, m_53, m_54, m_55, m_56, m_57, m_58, m_59]), (cc_l w0 (K 0) 5500 fw), (cc_l pl (K 0) 8 f_4609), (cc_l mo (K 0) 1152 fm)]) (hS : va_S A s.heap H locs) (ls : Array Slot) (hl : lv_has ls 8 [(3, .int v_4607), (2, .int v_4608), (0, .ref m0), (1, .int x)]), W p l e ({ frames := 3, cells := 0, slots := 0, locals := 66 }) s m (([.ref m0, .int x] : List Value).toArray) below meth c H locs 0 0 Q (F0 m 4 ls []) := by
    clear hE hP hD hS hl
    intro nn_
    induction nn_ with
    | zero =>
      intro v_4607 v_4608 f_4609 hv_4607 hv_4608 hf_4609_0 hr0_lp_4631 hn hE H locs hP hD hS ls hl
      exact absurd hn (Nat.not_lt_zero _)
    | succ nn_ ih_4632 =>
      intro v_4607 v_4608 f_4609 hv_4607 hv_4608 hf_4609_0 hr0_lp_4631 hn hE H locs hP hD hS ls hl
      replace hE : E_v_layTunes x fw fp fm = E_v_layTunes_l4 x fw fm (Lp (α := Int32 → Int32 → (Nat → Int32) → (Int32 × (Nat → Int32) × (Nat → Int32))) (E_v_layTunes_l4 x fw fm) (fun _ _ _ => ((0, fun _ => 0, fun _ => 0) : Int32 × (Nat → Int32) × (Nat → Int32))) nn_) v_4607 v_4608 f_4609 := hE
      obtain ⟨rec_4631, hrec_4631⟩ : ∃ z9, z9 = Lp (α := Int32 → Int32 → (Nat → Int32) → (Int32 × (Nat → Int32) × (Nat → Int32))) (E_v_layTunes_l4 x fw fm) (fun _ _ _ => ((0, fun _ => 0, fun _ => 0) : Int32 × (Nat → Int32) × (Nat → Int32))) nn_ := ⟨_, rfl⟩
      rw [← hrec_4631] at hE
      replace hE := hE.trans (E_v_layTunes_l4.eq_def _ _ _ _ _ _ _)
      refine lv_iload_n hx hb dX12_layTunes_4 rfl (lv_at hl 0 rfl) (lv_aload_n hx hb dX12_layTunes_5 rfl (lv_at hl 2 rfl) (va_get (ci := 12) (v := .ref w0) (C := RX12) (T := TX12) (N := 60) hx hb hts hw12 hown hK hP 0 rfl rfl 3 (by decide +kernel) (hts _ mm_X12_layTunes_833) (fun _ h9 => h9) rfl dX12_layTunes_6 (lv_iconst (v := 0) hx hb dX12_layTunes_9 (by decide +kernel) (va_iald hx hb hK hP 1 0 rfl rfl (i_in (x := 0) rfl (by omega)) dX12_layTunes_10 (lv_topi (fun x_4633 ex_4633 => ?_))))))
      replace hE := hE.trans (Lt_in ex_4633)
      have px_4633 := RwOK.at zfw (show (0 : Int32).toInt = 0 from rfl) (show 0 ≤ 0 ∧ 0 < 100 by omega)
      rw [← ex_4633] at px_4633
      have hx_4633 := PR.r_0 px_4633 (by omega)
      refine lv_icmp_ge (tgt := 43) hx hb dX12_layTunes_11 (by decide +kernel) (fun c_4634 => ?_) (fun c_4634 => ?_)
      · have c_4634i := i_le (x := x_4633.toInt) (y := v_4607.toInt) rfl rfl c_4634
        replace hE := hE.trans (if_pos c_4634)
        refine lv_iconst (v := 0) hx hb dX12_layTunes_43 (by decide +kernel) (lv_istore_n (lv' := [(3, .int 0), (2, .int v_4608), (0, .ref m0), (1, .int x)]) hx hb dX12_layTunes_44 rfl hl (by decide +kernel) rfl (fun ls hl => ?_))
        have lp_4674 : ∀ (nn_ : Nat) (v_4660 : Int32) (f_4661 : Nat → Int32) (hv_4660 : 0 ≤ v_4660.toInt ∧ v_4660.toInt ≤ 128) (hf_4661_0 : Rg 1152 0 100000000 f_4661) (hr0_lp_4674 : Zr f_4661 v_4608.toInt v_4660.toInt) (hn : (129 - v_4660.toInt : Int).toNat < nn_) (hE : E_v_layTunes x fw fp fm = Lp (α := Int32 → (Nat → Int32) → (Int32 × (Nat → Int32) × (Nat → Int32))) (E_v_layTunes_l45 fw v_4608 f_4609) (fun _ _ => ((0, fun _ => 0, fun _ => 0) : Int32 × (Nat → Int32) × (Nat → Int32))) nn_ v_4660 f_4661) (H : Heap) (locs : List Loc) (hP : va_P D vwCl [(cc_O m0 12 [m_0, m_1, m_2, .ref w0, m_4, m_5, m_6, m_7, m_8, m_9, m_10, m_11, m_12, m_13, m_14, m_15, m_16, m_17, m_18, m_19, m_20, m_21, m_22, m_23, m_24, m_25, m_26, m_27, m_28, m_29, m_30, m_31, m_32, m_33, m_34, m_35, m_36, m_37, m_38, m_39, m_40, m_41, m_42, m_43, m_44, m_45, m_46, .ref mo, .ref pl, m_49, m_50, m_51, m_52, m_53, m_54, m_55, m_56, m_57, m_58, m_59]), (cc_l w0 (K 0) 5500 fw), (cc_l pl (K 0) 8 f_4609), (cc_l mo (K 0) 1152 f_4661)] H) (hD : va_D A [(cc_O m0 12 [m_0, m_1, m_2, .ref w0, m_4, m_5, m_6, m_7, m_8, m_9, m_10, m_11, m_12, m_13, m_14, m_15, m_16, m_17, m_18, m_19, m_20, m_21, m_22, m_23, m_24, m_25, m_26, m_27, m_28, m_29, m_30, m_31, m_32, m_33, m_34, m_35, m_36, m_37, m_38, m_39, m_40, m_41, m_42, m_43, m_44, m_45, m_46, .ref mo, .ref pl, m_49, m_50, m_51, m_52, m_53, m_54, m_55, m_56, m_57, m_58, m_59]), (cc_l w0 (K 0) 5500 fw), (cc_l pl (K 0) 8 f_4609), (cc_l mo (K 0) 1152 f_4661)]) (hS : va_S A s.heap H locs) (ls : Array Slot) (hl : lv_has ls 8 [(3, .int v_4660), (2, .int v_4608), (0, .ref m0)]), W p l e ({ frames := 3, cells := 0, slots := 0, locals := 66 }) s m (([.ref m0, .int x] : List Value).toArray) below meth c H locs 0 0 Q (F0 m 45 ls []) := by
          clear hE hP hD hS hl
          intro nn_
          induction nn_ with
          | zero =>
            intro v_4660 f_4661 hv_4660 hf_4661_0 hr0_lp_4674 hn hE H locs hP hD hS ls hl
            exact absurd hn (Nat.not_lt_zero _)
          | succ nn_ ih_4675 =>
            intro v_4660 f_4661 hv_4660 hf_4661_0 hr0_lp_4674 hn hE H locs hP hD hS ls hl
            replace hE : E_v_layTunes x fw fp fm = E_v_layTunes_l45 fw v_4608 f_4609 (Lp (α := Int32 → (Nat → Int32) → (Int32 × (Nat → Int32) × (Nat → Int32))) (E_v_layTunes_l45 fw v_4608 f_4609) (fun _ _ => ((0, fun _ => 0, fun _ => 0) : Int32 × (Nat → Int32) × (Nat → Int32))) nn_) v_4660 f_4661 := hE
            obtain ⟨rec_4674, hrec_4674⟩ : ∃ z9, z9 = Lp (α := Int32 → (Nat → Int32) → (Int32 × (Nat → Int32) × (Nat → Int32))) (E_v_layTunes_l45 fw v_4608 f_4609) (fun _ _ => ((0, fun _ => 0, fun _ => 0) : Int32 × (Nat → Int32) × (Nat → Int32))) nn_ := ⟨_, rfl⟩
            rw [← hrec_4674] at hE
            replace hE := hE.trans (E_v_layTunes_l45.eq_def _ _ _ _ _ _)
            refine lv_iload_n hx hb dX12_layTunes_45 rfl (lv_at hl 0 rfl) (lv_sipush (v := 128) hx hb dX12_layTunes_46 (by decide +kernel) (lv_icmp_ge (tgt := 71) hx hb dX12_layTunes_49 (by decide +kernel) (fun c_4676 => ?_) (fun c_4676 => ?_)))
            · have c_4676i := i_le (x := 128) (y := v_4660.toInt) rfl rfl c_4676
              replace hE := hE.trans (if_pos c_4676)
              have hz128 : Zr f_4661 v_4608.toInt 128 := by have q := hr0_lp_4674; rwa [show v_4660.toInt = 128 by omega] at q
              refine lv_iload_n hx hb dX12_layTunes_71 rfl (lv_at hl 1 rfl) (lv_iconst (v := 1) hx hb dX12_layTunes_72 (by decide +kernel) (lv_isub hx hb dX12_layTunes_73 (lv_topi (fun x_4677 ex_4677 => ?_))))
              replace hE := hE.trans (Lt_in ex_4677)
              have hx_4677 : x_4677.toInt = (v_4608.toInt - 1) := by rw [ex_4677]; exact i_sub rfl (show (1 : Int32).toInt = 1 from rfl) (by omega)
              refine lv_istore_n (lv' := [(3, .int x_4677), (2, .int v_4608), (0, .ref m0)]) hx hb dX12_layTunes_74 rfl hl (by decide +kernel) rfl (fun ls hl => ?_)
              have lp_6392 : ∀ (nn_ : Nat) (v_5534 : Int32) (f_5535 : Nat → Int32) (hv_5534 : (-1) ≤ v_5534.toInt ∧ v_5534.toInt ≤ 7) (hf_5535_0 : Rg 1152 0 100000000 f_5535) (hr0_lp_6392 : TOK fw f_4609 f_5535 v_5534.toInt 0 v_4608.toInt) (hr1_lp_6392 : v_5534.toInt < v_4608.toInt) (hn : (v_5534.toInt - (-2) : Int).toNat < nn_) (hE : E_v_layTunes x fw fp fm = Lp (α := Int32 → (Nat → Int32) → (Int32 × (Nat → Int32) × (Nat → Int32))) (E_v_layTunes_l75 fw v_4608 f_4609) (fun _ _ => ((0, fun _ => 0, fun _ => 0) : Int32 × (Nat → Int32) × (Nat → Int32))) nn_ v_5534 f_5535) (H : Heap) (locs : List Loc) (hP : va_P D vwCl [(cc_O m0 12 [m_0, m_1, m_2, .ref w0, m_4, m_5, m_6, m_7, m_8, m_9, m_10, m_11, m_12, m_13, m_14, m_15, m_16, m_17, m_18, m_19, m_20, m_21, m_22, m_23, m_24, m_25, m_26, m_27, m_28, m_29, m_30, m_31, m_32, m_33, m_34, m_35, m_36, m_37, m_38, m_39, m_40, m_41, m_42, m_43, m_44, m_45, m_46, .ref mo, .ref pl, m_49, m_50, m_51, m_52, m_53, m_54, m_55, m_56, m_57, m_58, m_59]), (cc_l w0 (K 0) 5500 fw), (cc_l pl (K 0) 8 f_4609), (cc_l mo (K 0) 1152 f_5535)] H) (hD : va_D A [(cc_O m0 12 [m_0, m_1, m_2, .ref w0, m_4, m_5, m_6, m_7, m_8, m_9, m_10, m_11, m_12, m_13, m_14, m_15, m_16, m_17, m_18, m_19, m_20, m_21, m_22, m_23, m_24, m_25, m_26, m_27, m_28, m_29, m_30, m_31, m_32, m_33, m_34, m_35, m_36, m_37, m_38, m_39, m_40, m_41, m_42, m_43, m_44, m_45, m_46, .ref mo, .ref pl, m_49, m_50, m_51, m_52, m_53, m_54, m_55, m_56, m_57, m_58, m_59]), (cc_l w0 (K 0) 5500 fw), (cc_l pl (K 0) 8 f_4609), (cc_l mo (K 0) 1152 f_5535)]) (hS : va_S A s.heap H locs) (ls : Array Slot) (hl : lv_has ls 8 [(3, .int v_5534), (2, .int v_4608), (0, .ref m0)]), W p l e ({ frames := 3, cells := 0, slots := 0, locals := 66 }) s m (([.ref m0, .int x] : List Value).toArray) below meth c H locs 0 0 Q (F0 m 75 ls []) := by
                clear hE hP hD hS hl
                intro nn_
                induction nn_ with
                | zero =>
                  intro v_5534 f_5535 hv_5534 hf_5535_0 hr0_lp_6392 hr1_lp_6392 hn hE H locs hP hD hS ls hl
                  exact absurd hn (Nat.not_lt_zero _)
                | succ nn_ ih_6393 =>
                  intro v_5534 f_5535 hv_5534 hf_5535_0 hr0_lp_6392 hr1_lp_6392 hn hE H locs hP hD hS ls hl
                  replace hE : E_v_layTunes x fw fp fm = E_v_layTunes_l75 fw v_4608 f_4609 (Lp (α := Int32 → (Nat → Int32) → (Int32 × (Nat → Int32) × (Nat → Int32))) (E_v_layTunes_l75 fw v_4608 f_4609) (fun _ _ => ((0, fun _ => 0, fun _ => 0) : Int32 × (Nat → Int32) × (Nat → Int32))) nn_) v_5534 f_5535 := hE
                  obtain ⟨rec_6392, hrec_6392⟩ : ∃ z9, z9 = Lp (α := Int32 → (Nat → Int32) → (Int32 × (Nat → Int32) × (Nat → Int32))) (E_v_layTunes_l75 fw v_4608 f_4609) (fun _ _ => ((0, fun _ => 0, fun _ => 0) : Int32 × (Nat → Int32) × (Nat → Int32))) nn_ := ⟨_, rfl⟩
                  rw [← hrec_6392] at hE
                  replace hE := hE.trans (E_v_layTunes_l75.eq_def _ _ _ _ _ _)
                  refine lv_iload_n hx hb dX12_layTunes_75 rfl (lv_at hl 0 rfl) (lv_if_lt (tgt := 165) hx hb dX12_layTunes_76 (by decide +kernel) (fun c_6394 => ?_) (fun c_6394 => ?_))
                  · have c_6394i := i_lt (x := v_5534.toInt) (y := 0) rfl rfl c_6394
                    replace hE := hE.trans (if_pos c_6394)
                    refine lv_iload_n hx hb dX12_layTunes_165 rfl (lv_at hl 1 rfl) ?_
                    rw [← hQ]
                    have hP9 := hP.sub (ws' := [(cc_O m0 12 [m_0, m_1, m_2, .ref w0, m_4, m_5, m_6, m_7, m_8, m_9, m_10, m_11, m_12, m_13, m_14, m_15, m_16, m_17, m_18, m_19, m_20, m_21, m_22, m_23, m_24, m_25, m_26, m_27, m_28, m_29, m_30, m_31, m_32, m_33, m_34, m_35, m_36, m_37, m_38, m_39, m_40, m_41, m_42, m_43, m_44, m_45, m_46, .ref mo, .ref pl, m_49, m_50, m_51, m_52, m_53, m_54, m_55, m_56, m_57, m_58, m_59]), (cc_l w0 (K 0) 5500 fw), (cc_l pl (K 0) 8 f_4609), (cc_l mo (K 0) 1152 f_5535)]) [0, 1, 2, 3] rfl
                    have hD9 := sub_D hP9 hD [0, 1, 2, 3] (by decide +kernel) rfl
                    exact W.iret (v := v_4608) hx hb hr (fun t ht hW => ⟨⟨v_4608, ((fun _ => 0, fun i => match i with | 0 => f_4609 | _ => f_5535, fun _ => fun _ => 0, fun _ => 0, fun _ => 0, fun _ => fun _ => none) : Su), rfl, ⟨(show 0 ≤ v_4608.toInt ∧ v_4608.toInt ≤ 8 by omega), hf_4609_0, hf_5535_0, (show TOK fw f_4609 f_5535 (-1) 0 (v_4608 : Int32).toInt from by have q := hr0_lp_6392; rwa [show v_5534.toInt = -1 by omega] at q), hE.symm, trivial⟩, (⟨by rw [ht]; exact hP9, hD9⟩ : Wd D A _ t)⟩, hS.F ht⟩) hS.2.2 dX12_layTunes_166
                  · have c_6394i := i_nlt (x := v_5534.toInt) (y := 0) rfl rfl c_6394
                    replace hE := hE.trans (if_neg c_6394)
                    refine lv_iconst (v := 0) hx hb dX12_layTunes_79 (by decide +kernel) (lv_istore (lv' := [(4, .int 0), (3, .int v_5534), (2, .int v_4608), (0, .ref m0)]) hx hb dX12_layTunes_80 hl (by decide +kernel) rfl (fun ls hl => ?_))
                    have lp_6758 : ∀ (nn_ : Nat) (v_6636 : Int32) (f_6637 : Nat → Int32) (hv_6636 : 0 ≤ v_6636.toInt ∧ v_6636.toInt ≤ 128) (hf_6637_0 : Rg 1152 0 100000000 f_6637) (hr0_lp_6758 : TOK fw f_4609 f_6637 v_5534.toInt v_6636.toInt v_4608.toInt) (hn : (129 - v_6636.toInt : Int).toNat < nn_) (hE : E_v_layTunes x fw fp fm = Lp (α := Int32 → (Nat → Int32) → (Int32 × (Nat → Int32) × (Nat → Int32))) (E_v_layTunes_l82 fw f_4609 v_5534 rec_6392) (fun _ _ => ((0, fun _ => 0, fun _ => 0) : Int32 × (Nat → Int32) × (Nat → Int32))) nn_ v_6636 f_6637) (H : Heap) (locs : List Loc) (hP : va_P D vwCl [(cc_O m0 12 [m_0, m_1, m_2, .ref w0, m_4, m_5, m_6, m_7, m_8, m_9, m_10, m_11, m_12, m_13, m_14, m_15, m_16, m_17, m_18, m_19, m_20, m_21, m_22, m_23, m_24, m_25, m_26, m_27, m_28, m_29, m_30, m_31, m_32, m_33, m_34, m_35, m_36, m_37, m_38, m_39, m_40, m_41, m_42, m_43, m_44, m_45, m_46, .ref mo, .ref pl, m_49, m_50, m_51, m_52, m_53, m_54, m_55, m_56, m_57, m_58, m_59]), (cc_l w0 (K 0) 5500 fw), (cc_l pl (K 0) 8 f_4609), (cc_l mo (K 0) 1152 f_6637)] H) (hD : va_D A [(cc_O m0 12 [m_0, m_1, m_2, .ref w0, m_4, m_5, m_6, m_7, m_8, m_9, m_10, m_11, m_12, m_13, m_14, m_15, m_16, m_17, m_18, m_19, m_20, m_21, m_22, m_23, m_24, m_25, m_26, m_27, m_28, m_29, m_30, m_31, m_32, m_33, m_34, m_35, m_36, m_37, m_38, m_39, m_40, m_41, m_42, m_43, m_44, m_45, m_46, .ref mo, .ref pl, m_49, m_50, m_51, m_52, m_53, m_54, m_55, m_56, m_57, m_58, m_59]), (cc_l w0 (K 0) 5500 fw), (cc_l pl (K 0) 8 f_4609), (cc_l mo (K 0) 1152 f_6637)]) (hS : va_S A s.heap H locs) (ls : Array Slot) (hl : lv_has ls 8 [(4, .int v_6636), (3, .int v_5534), (2, .int v_4608), (0, .ref m0)]), W p l e ({ frames := 3, cells := 0, slots := 0, locals := 66 }) s m (([.ref m0, .int x] : List Value).toArray) below meth c H locs 0 0 Q (F0 m 82 ls []) := by
                      clear hE hP hD hS hl
                      intro nn_
                      induction nn_ with
                      | zero =>
                        intro v_6636 f_6637 hv_6636 hf_6637_0 hr0_lp_6758 hn hE H locs hP hD hS ls hl
                        exact absurd hn (Nat.not_lt_zero _)
                      | succ nn_ ih_6759 =>
                        intro v_6636 f_6637 hv_6636 hf_6637_0 hr0_lp_6758 hn hE H locs hP hD hS ls hl
                        replace hE : E_v_layTunes x fw fp fm = E_v_layTunes_l82 fw f_4609 v_5534 rec_6392 (Lp (α := Int32 → (Nat → Int32) → (Int32 × (Nat → Int32) × (Nat → Int32))) (E_v_layTunes_l82 fw f_4609 v_5534 rec_6392) (fun _ _ => ((0, fun _ => 0, fun _ => 0) : Int32 × (Nat → Int32) × (Nat → Int32))) nn_) v_6636 f_6637 := hE
                        obtain ⟨rec_6758, hrec_6758⟩ : ∃ z9, z9 = Lp (α := Int32 → (Nat → Int32) → (Int32 × (Nat → Int32) × (Nat → Int32))) (E_v_layTunes_l82 fw f_4609 v_5534 rec_6392) (fun _ _ => ((0, fun _ => 0, fun _ => 0) : Int32 × (Nat → Int32) × (Nat → Int32))) nn_ := ⟨_, rfl⟩
                        rw [← hrec_6758] at hE
                        replace hE := hE.trans (E_v_layTunes_l82.eq_def _ _ _ _ _ _ _)
                        refine lv_iload hx hb dX12_layTunes_82 (lv_at hl 0 rfl) (lv_sipush (v := 128) hx hb dX12_layTunes_84 (by decide +kernel) (lv_icmp_ge (tgt := 159) hx hb dX12_layTunes_87 (by decide +kernel) (fun c_6760 => ?_) (fun c_6760 => ?_)))
                        · have c_6760i := i_le (x := 128) (y := v_6636.toInt) rfl rfl c_6760
                          replace hE := hE.trans (if_pos c_6760)
                          obtain ⟨x_6761, ex_6761⟩ : ∃ y : Int32, y = v_5534 + Int32.ofInt (-1) := ⟨_, rfl⟩
                          replace hE := hE.trans (Lt_in ex_6761)
                          have hx_6761 : x_6761.toInt = (v_5534.toInt + (-1)) := by rw [ex_6761]; exact i_add rfl (show (Int32.ofInt (-1)).toInt = (-1) from rfl) (by omega)
                          refine lv_iinc (v := x_6761) (lv' := [(3, .int x_6761), (4, .int v_6636), (2, .int v_4608), (0, .ref m0)]) hx hb dX12_layTunes_159 hl (k := 1) rfl (by rw [ex_6761]) (by decide +kernel) rfl (fun ls hl => ?_)
                          refine lv_goto (tgt := 75) hx hb dX12_layTunes_162 (by decide +kernel) ?_
                          exact ih_6393 x_6761 f_6637 (by rw [hx_6761]; omega) hf_6637_0 (show TOK fw f_4609 f_6637 (x_6761 : Int32).toInt 0 v_4608.toInt by rw [hx_6761]; exact TOK.down hr0_lp_6758 (by omega)) (show (x_6761 : Int32).toInt < v_4608.toInt by omega) (by omega) (hE.trans (by rw [hrec_6392])) _ _ hP hD hS ls (lv_sub hl [0, 2, 3] rfl)
                        · have c_6760i := i_nle (x := 128) (y := v_6636.toInt) rfl rfl c_6760
                          replace hE := hE.trans (if_neg c_6760)
                          refine lv_ldcw (v := 100000000) hx hb hown (hts _ mm_X12_layTunes_1262) dX12_layTunes_90 (lv_istore (lv' := [(5, .int 100000000), (4, .int v_6636), (3, .int v_5534), (2, .int v_4608), (0, .ref m0)]) hx hb dX12_layTunes_93 hl (by decide +kernel) rfl (fun ls hl => ?_))
                          refine lv_iconst (v := 0) hx hb dX12_layTunes_95 (by decide +kernel) (lv_istore (lv' := [(6, .int 0), (5, .int 100000000), (4, .int v_6636), (3, .int v_5534), (2, .int v_4608), (0, .ref m0)]) hx hb dX12_layTunes_96 hl (by decide +kernel) rfl (fun ls hl => ?_))
                          have lp_6806 : ∀ (nn_ : Nat) (v_6790 : Int32) (v_6791 : Int32) (hv_6790 : 0 ≤ v_6790.toInt ∧ v_6790.toInt ≤ 7) (hv_6791 : 0 ≤ v_6791.toInt ∧ v_6791.toInt ≤ 100000000) (hr0_lp_6806 : MnT fw f_4609 f_6637 v_5534.toInt v_6636.toInt v_6790.toInt v_6791.toInt) (hn : (8 - v_6790.toInt : Int).toNat < nn_) (hE : E_v_layTunes x fw fp fm = Lp (α := Int32 → Int32 → (Int32 × (Nat → Int32) × (Nat → Int32))) (E_v_layTunes_l98 fw f_4609 v_5534 v_6636 f_6637 rec_6758) (fun _ _ => ((0, fun _ => 0, fun _ => 0) : Int32 × (Nat → Int32) × (Nat → Int32))) nn_ v_6790 v_6791) (H : Heap) (locs : List Loc) (hP : va_P D vwCl [(cc_O m0 12 [m_0, m_1, m_2, .ref w0, m_4, m_5, m_6, m_7, m_8, m_9, m_10, m_11, m_12, m_13, m_14, m_15, m_16, m_17, m_18, m_19, m_20, m_21, m_22, m_23, m_24, m_25, m_26, m_27, m_28, m_29, m_30, m_31, m_32, m_33, m_34, m_35, m_36, m_37, m_38, m_39, m_40, m_41, m_42, m_43, m_44, m_45, m_46, .ref mo, .ref pl, m_49, m_50, m_51, m_52, m_53, m_54, m_55, m_56, m_57, m_58, m_59]), (cc_l w0 (K 0) 5500 fw), (cc_l pl (K 0) 8 f_4609), (cc_l mo (K 0) 1152 f_6637)] H) (hD : va_D A [(cc_O m0 12 [m_0, m_1, m_2, .ref w0, m_4, m_5, m_6, m_7, m_8, m_9, m_10, m_11, m_12, m_13, m_14, m_15, m_16, m_17, m_18, m_19, m_20, m_21, m_22, m_23, m_24, m_25, m_26, m_27, m_28, m_29, m_30, m_31, m_32, m_33, m_34, m_35, m_36, m_37, m_38, m_39, m_40, m_41, m_42, m_43, m_44, m_45, m_46, .ref mo, .ref pl, m_49, m_50, m_51, m_52, m_53, m_54, m_55, m_56, m_57, m_58, m_59]), (cc_l w0 (K 0) 5500 fw), (cc_l pl (K 0) 8 f_4609), (cc_l mo (K 0) 1152 f_6637)]) (hS : va_S A s.heap H locs) (ls : Array Slot) (hl : lv_has ls 8 [(6, .int v_6790), (5, .int v_6791), (4, .int v_6636), (3, .int v_5534), (2, .int v_4608), (0, .ref m0)]), W p l e ({ frames := 3, cells := 0, slots := 0, locals := 66 }) s m (([.ref m0, .int x] : List Value).toArray) below meth c H locs 0 0 Q (F0 m 98 ls []) := by
                            clear hE hP hD hS hl
                            intro nn_
                            induction nn_ with
                            | zero =>
                              intro v_6790 v_6791 hv_6790 hv_6791 hr0_lp_6806 hn hE H locs hP hD hS ls hl
                              exact absurd hn (Nat.not_lt_zero _)
                            | succ nn_ ih_6807 =>
                              intro v_6790 v_6791 hv_6790 hv_6791 hr0_lp_6806 hn hE H locs hP hD hS ls hl
                              replace hE : E_v_layTunes x fw fp fm = E_v_layTunes_l98 fw f_4609 v_5534 v_6636 f_6637 rec_6758 (Lp (α := Int32 → Int32 → (Int32 × (Nat → Int32) × (Nat → Int32))) (E_v_layTunes_l98 fw f_4609 v_5534 v_6636 f_6637 rec_6758) (fun _ _ => ((0, fun _ => 0, fun _ => 0) : Int32 × (Nat → Int32) × (Nat → Int32))) nn_) v_6790 v_6791 := hE
                              obtain ⟨rec_6806, hrec_6806⟩ : ∃ z9, z9 = Lp (α := Int32 → Int32 → (Int32 × (Nat → Int32) × (Nat → Int32))) (E_v_layTunes_l98 fw f_4609 v_5534 v_6636 f_6637 rec_6758) (fun _ _ => ((0, fun _ => 0, fun _ => 0) : Int32 × (Nat → Int32) × (Nat → Int32))) nn_ := ⟨_, rfl⟩
                              rw [← hrec_6806] at hE
                              replace hE := hE.trans (E_v_layTunes_l98.eq_def _ _ _ _ _ _ _ _ _)
                              refine lv_iload hx hb dX12_layTunes_98 (lv_at hl 0 rfl) (lv_bipush (v := 7) hx hb dX12_layTunes_100 (by decide +kernel) (lv_icmp_ge (tgt := 138) hx hb dX12_layTunes_102 (by decide +kernel) (fun c_6808 => ?_) (fun c_6808 => ?_)))
                              · have c_6808i := i_le (x := 7) (y := v_6790.toInt) rfl rfl c_6808
                                replace hE := hE.trans (if_pos c_6808)
                                have hmf := hr0_lp_6806
                                rw [show v_6790.toInt = 7 by omega] at hmf
                                refine lv_aload_n hx hb dX12_layTunes_138 rfl (lv_at hl 5 rfl) (va_get (ci := 12) (v := .ref mo) (C := RX12) (T := TX12) (N := 60) hx hb hts hw12 hown hK hP 0 rfl rfl 47 (by decide +kernel) (hts _ mm_X12_layTunes_877) (fun _ h9 => h9) rfl dX12_layTunes_139 (lv_sipush (v := 128) hx hb dX12_layTunes_142 (by decide +kernel) (lv_iload_n hx hb dX12_layTunes_145 rfl (lv_at hl 3 rfl) (lv_imul hx hb dX12_layTunes_146 (lv_topi (fun x_6809 ex_6809 => ?_))))))
                                replace hE := hE.trans (Lt_in ex_6809)
                                have hx_6809 : x_6809.toInt = (128 * v_5534.toInt) := by rw [ex_6809]; exact i_mul (show (128 : Int32).toInt = 128 from rfl) rfl (by omega)
                                refine lv_iload hx hb dX12_layTunes_147 (lv_at hl 2 rfl) (lv_iadd hx hb dX12_layTunes_149 (lv_topi (fun x_6810 ex_6810 => ?_)))
                                replace hE := hE.trans (Lt_in ex_6810)
                                have hx_6810 : x_6810.toInt = ((128 * v_5534.toInt) + v_6636.toInt) := by rw [ex_6810]; exact i_add hx_6809 rfl (by omega)
                                refine lv_iload hx hb dX12_layTunes_150 (lv_at hl 1 rfl) (va_iast hx hb hK hP hD hS 3 0 rfl rfl (i_in hx_6810 (by omega)) dX12_layTunes_152 (fun H locs hP0 hD0 hS0 => ?_))
                                replace hP := hP0
                                replace hD := hD0
                                replace hS := hS0
                                clear hP0 hD0 hS0
                                generalize hf_6811 : (upd f_6637 (x_6810 : Int32).toNatClampNeg v_6791) = f_6811 at hP hD
                                replace hE := hE.trans (Lt_in hf_6811.symm)
                                have hf_6811_0 : Rg 1152 0 100000000 f_6811 := by rw [← hf_6811]; exact Rg.upd hf_6637_0 rfl (by omega)
                                replace hP : va_P D vwCl [(cc_O m0 12 [m_0, m_1, m_2, .ref w0, m_4, m_5, m_6, m_7, m_8, m_9, m_10, m_11, m_12, m_13, m_14, m_15, m_16, m_17, m_18, m_19, m_20, m_21, m_22, m_23, m_24, m_25, m_26, m_27, m_28, m_29, m_30, m_31, m_32, m_33, m_34, m_35, m_36, m_37, m_38, m_39, m_40, m_41, m_42, m_43, m_44, m_45, m_46, .ref mo, .ref pl, m_49, m_50, m_51, m_52, m_53, m_54, m_55, m_56, m_57, m_58, m_59]), (cc_l w0 (K 0) 5500 fw), (cc_l pl (K 0) 8 f_4609), (cc_l mo (K 0) 1152 f_6811)] H := hP
                                replace hD := as_D hP hD rfl
                                obtain ⟨x_6812, ex_6812⟩ : ∃ y : Int32, y = v_6636 + Int32.ofInt 1 := ⟨_, rfl⟩
                                replace hE := hE.trans (Lt_in ex_6812)
                                have hx_6812 : x_6812.toInt = (v_6636.toInt + 1) := by rw [ex_6812]; exact i_add rfl (show (Int32.ofInt 1).toInt = 1 from rfl) (by omega)
                                refine lv_iinc (v := x_6812) (lv' := [(4, .int x_6812), (6, .int v_6790), (5, .int v_6791), (3, .int v_5534), (2, .int v_4608), (0, .ref m0)]) hx hb dX12_layTunes_153 hl (k := 2) rfl (by rw [ex_6812]) (by decide +kernel) rfl (fun ls hl => ?_)
                                refine lv_goto (tgt := 82) hx hb dX12_layTunes_156 (by decide +kernel) ?_
                                exact ih_6759 x_6812 f_6811 (by rw [hx_6812]; omega) hf_6811_0 (show TOK fw f_4609 f_6811 v_5534.toInt (x_6812 : Int32).toInt v_4608.toInt by rw [← hf_6811, i_clamp (x := x_6810) (z := ((128 * v_5534.toInt) + v_6636.toInt)) hx_6810, hx_6812]; exact TOK.put hr0_lp_6758 (by omega) (by omega) zfw hf_4609_0 hmf) (by omega) (hE.trans (by rw [hrec_6758])) _ _ hP hD hS ls (lv_sub hl [0, 3, 4, 5] rfl)
                              · have c_6808i := i_nle (x := 7) (y := v_6790.toInt) rfl rfl c_6808
                                replace hE := hE.trans (if_neg c_6808)
                                refine lv_aload_n hx hb dX12_layTunes_105 rfl (lv_at hl 5 rfl) (lv_iload_n hx hb dX12_layTunes_106 rfl (lv_at hl 3 rfl) (lv_iload hx hb dX12_layTunes_107 (lv_at hl 2 rfl) (lv_iload hx hb dX12_layTunes_109 (lv_at hl 0 rfl) (pci (va_runV (As := [.int v_5534, .int v_6636, .int v_6790]) (rest := []) ⟨hx, hb, hml, hown, hts⟩ (v_movedBy l D K m0 v_5534 v_6636 v_6790 m_0 m_1 m_2 w0 m_4 m_5 m_6 m_7 m_8 m_9 m_10 m_11 m_12 m_13 m_14 m_15 m_16 m_17 m_18 m_19 m_20 m_21 m_22 m_23 m_24 m_25 m_26 m_27 m_28 m_29 m_30 m_31 m_32 m_33 m_34 m_35 m_36 m_37 m_38 m_39 m_40 m_41 m_42 m_43 m_44 m_45 m_46 mo pl m_49 m_50 m_51 m_52 m_53 m_54 m_55 m_56 m_57 m_58 m_59 fw f_4609 f_6637 H.size (by first | omega | decide) (by first | omega | decide) (by first | omega | decide) zfw hf_4609_0 hf_6637_0) (cwV 3 hts gX12_layTunes_X12_movedBy rfl rfl rfl (by decide +kernel) ⟨Nat.le_of_ble_eq_true rfl, Nat.le_of_ble_eq_true rfl⟩) (mkV hK hN (hP.sub [0, 1, 2, 3] rfl) (hD.sub [0, 1, 2, 3] (by decide +kernel) rfl) (ci := 12) (q0 := 0) rfl rfl) rfl rfl hl.1 rfl (lv_room (Nat.le_of_ble_eq_true rfl)) dX12_layTunes_111 ⟨Nat.le_of_ble_eq_true rfl, Nat.le_of_ble_eq_true rfl⟩) (fun r_6813 hw => ?_)))))
                                obtain ⟨hw, k_6814⟩ := hw
                                replace hE := hE.trans (Lt_in k_6814)
                                obtain ⟨⟨hmb_r_6813, hmr_r_6813⟩, -⟩ := hw
                                refine lv_istore (lv' := [(7, .int r_6813), (6, .int v_6790), (5, .int v_6791), (4, .int v_6636), (3, .int v_5534), (2, .int v_4608), (0, .ref m0)]) hx hb dX12_layTunes_114 hl (by decide +kernel) rfl (fun ls hl => ?_)
                                refine lv_iload hx hb dX12_layTunes_116 (lv_at hl 0 rfl) (lv_iload hx hb dX12_layTunes_118 (lv_at hl 2 rfl) (lv_icmp_ge (tgt := 128) hx hb dX12_layTunes_120 (by decide +kernel) (fun c_6815 => ?_) (fun c_6815 => ?_)))
                                · have c_6815i := i_le (x := v_6791.toInt) (y := r_6813.toInt) rfl rfl c_6815
                                  replace hE := hE.trans (if_pos c_6815)
                                  refine lv_iload hx hb dX12_layTunes_128 (lv_at hl 2 rfl) (lv_istore (lv' := [(5, .int v_6791), (7, .int r_6813), (6, .int v_6790), (4, .int v_6636), (3, .int v_5534), (2, .int v_4608), (0, .ref m0)]) hx hb dX12_layTunes_130 hl (by decide +kernel) rfl (fun ls hl => ?_))
                                  obtain ⟨x_6816, ex_6816⟩ : ∃ y : Int32, y = v_6790 + Int32.ofInt 1 := ⟨_, rfl⟩
                                  replace hE := hE.trans (Lt_in ex_6816)
                                  have hx_6816 : x_6816.toInt = (v_6790.toInt + 1) := by rw [ex_6816]; exact i_add rfl (show (Int32.ofInt 1).toInt = 1 from rfl) (by omega)
                                  refine lv_iinc (v := x_6816) (lv' := [(6, .int x_6816), (5, .int v_6791), (7, .int r_6813), (4, .int v_6636), (3, .int v_5534), (2, .int v_4608), (0, .ref m0)]) hx hb dX12_layTunes_132 hl (k := 2) rfl (by rw [ex_6816]) (by decide +kernel) rfl (fun ls hl => ?_)
                                  refine lv_goto (tgt := 98) hx hb dX12_layTunes_135 (by decide +kernel) ?_
                                  exact ih_6807 x_6816 v_6791 (by rw [hx_6816]; omega) (by omega) (show MnT fw f_4609 f_6637 v_5534.toInt v_6636.toInt (x_6816 : Int32).toInt (v_6791 : Int32).toInt by rw [hx_6816]; exact MnT.ge hr0_lp_6806 hmb_r_6813 (by omega)) (by omega) (hE.trans (by rw [hrec_6806])) _ _ hP hD hS ls (lv_sub hl [0, 1, 3, 4, 5, 6] rfl)
                                · have c_6815i := i_nle (x := v_6791.toInt) (y := r_6813.toInt) rfl rfl c_6815
                                  replace hE := hE.trans (if_neg c_6815)
                                  refine lv_iload hx hb dX12_layTunes_123 (lv_at hl 0 rfl) (lv_goto (tgt := 130) hx hb dX12_layTunes_125 (by decide +kernel) (lv_istore (lv' := [(5, .int r_6813), (7, .int r_6813), (6, .int v_6790), (4, .int v_6636), (3, .int v_5534), (2, .int v_4608), (0, .ref m0)]) hx hb dX12_layTunes_130 hl (by decide +kernel) rfl (fun ls hl => ?_)))
                                  obtain ⟨x_6817, ex_6817⟩ : ∃ y : Int32, y = v_6790 + Int32.ofInt 1 := ⟨_, rfl⟩
                                  replace hE := hE.trans (Lt_in ex_6817)
                                  have hx_6817 : x_6817.toInt = (v_6790.toInt + 1) := by rw [ex_6817]; exact i_add rfl (show (Int32.ofInt 1).toInt = 1 from rfl) (by omega)
                                  refine lv_iinc (v := x_6817) (lv' := [(6, .int x_6817), (5, .int r_6813), (7, .int r_6813), (4, .int v_6636), (3, .int v_5534), (2, .int v_4608), (0, .ref m0)]) hx hb dX12_layTunes_132 hl (k := 2) rfl (by rw [ex_6817]) (by decide +kernel) rfl (fun ls hl => ?_)
                                  refine lv_goto (tgt := 98) hx hb dX12_layTunes_135 (by decide +kernel) ?_
                                  exact ih_6807 x_6817 r_6813 (by rw [hx_6817]; omega) (by omega) (show MnT fw f_4609 f_6637 v_5534.toInt v_6636.toInt (x_6817 : Int32).toInt (r_6813 : Int32).toInt by rw [hx_6817]; exact MnT.lt hr0_lp_6806 (by omega) hmb_r_6813 (by omega)) (by omega) (hE.trans (by rw [hrec_6806])) _ _ hP hD hS ls (lv_sub hl [0, 1, 3, 4, 5, 6] rfl)
                          have hz_6818 : (0 : Int32).toInt = 0 := rfl
                          have hz_6819 : (100000000 : Int32).toInt = 100000000 := rfl
                          exact lp_6806 ((8 - (0 : Int32).toInt : Int).toNat + 1) 0 100000000 (by decide +kernel) (by decide +kernel) (show MnT fw f_4609 f_6637 v_5534.toInt v_6636.toInt (0 : Int32).toInt (100000000 : Int32).toInt by exact MnT.base) (Nat.lt_succ_self _) hE _ _ hP hD hS ls (lv_sub hl [0, 1, 2, 3, 4, 5] rfl)
                    have hz_6820 : (0 : Int32).toInt = 0 := rfl
                    exact lp_6758 ((129 - (0 : Int32).toInt : Int).toNat + 1) 0 f_5535 (by decide +kernel) hf_5535_0 (show TOK fw f_4609 f_5535 v_5534.toInt (0 : Int32).toInt v_4608.toInt by exact hr0_lp_6392) (Nat.lt_succ_self _) hE _ _ hP hD hS ls (lv_sub hl [0, 1, 2, 3] rfl)
              exact lp_6392 (((x_4677 : Int32).toInt - (-2) : Int).toNat + 1) x_4677 f_4661 (by rw [hx_4677]; omega) hf_4661_0 (show TOK fw f_4609 f_4661 (x_4677 : Int32).toInt 0 v_4608.toInt by rw [hx_4677]; exact TOK.base hz128 (by omega)) (show (x_4677 : Int32).toInt < v_4608.toInt by omega) (Nat.lt_succ_self _) hE _ _ hP hD hS ls (lv_sub hl [0, 1, 2] rfl)
            · have c_4676i := i_nle (x := 128) (y := v_4660.toInt) rfl rfl c_4676
              replace hE := hE.trans (if_neg c_4676)
              refine lv_aload_n hx hb dX12_layTunes_52 rfl (lv_at hl 2 rfl) (va_get (ci := 12) (v := .ref mo) (C := RX12) (T := TX12) (N := 60) hx hb hts hw12 hown hK hP 0 rfl rfl 47 (by decide +kernel) (hts _ mm_X12_layTunes_877) (fun _ h9 => h9) rfl dX12_layTunes_53 (lv_sipush (v := 128) hx hb dX12_layTunes_56 (by decide +kernel) (lv_iload_n hx hb dX12_layTunes_59 rfl (lv_at hl 1 rfl) (lv_imul hx hb dX12_layTunes_60 (lv_topi (fun x_6821 ex_6821 => ?_))))))
              replace hE := hE.trans (Lt_in ex_6821)
              have hx_6821 : x_6821.toInt = (128 * v_4608.toInt) := by rw [ex_6821]; exact i_mul (show (128 : Int32).toInt = 128 from rfl) rfl (by omega)
              refine lv_iload_n hx hb dX12_layTunes_61 rfl (lv_at hl 0 rfl) (lv_iadd hx hb dX12_layTunes_62 (lv_topi (fun x_6822 ex_6822 => ?_)))
              replace hE := hE.trans (Lt_in ex_6822)
              have hx_6822 : x_6822.toInt = ((128 * v_4608.toInt) + v_4660.toInt) := by rw [ex_6822]; exact i_add hx_6821 rfl (by omega)
              refine lv_iconst (v := 0) hx hb dX12_layTunes_63 (by decide +kernel) (va_iast hx hb hK hP hD hS 3 0 rfl rfl (i_in hx_6822 (by omega)) dX12_layTunes_64 (fun H locs hP0 hD0 hS0 => ?_))
              replace hP := hP0
              replace hD := hD0
              replace hS := hS0
              clear hP0 hD0 hS0
              generalize hf_6823 : (upd f_4661 (x_6822 : Int32).toNatClampNeg 0) = f_6823 at hP hD
              replace hE := hE.trans (Lt_in hf_6823.symm)
              have hf_6823_0 : Rg 1152 0 100000000 f_6823 := by rw [← hf_6823]; exact Rg.upd hf_4661_0 (show (0 : Int32).toInt = 0 from rfl) (by omega)
              replace hP : va_P D vwCl [(cc_O m0 12 [m_0, m_1, m_2, .ref w0, m_4, m_5, m_6, m_7, m_8, m_9, m_10, m_11, m_12, m_13, m_14, m_15, m_16, m_17, m_18, m_19, m_20, m_21, m_22, m_23, m_24, m_25, m_26, m_27, m_28, m_29, m_30, m_31, m_32, m_33, m_34, m_35, m_36, m_37, m_38, m_39, m_40, m_41, m_42, m_43, m_44, m_45, m_46, .ref mo, .ref pl, m_49, m_50, m_51, m_52, m_53, m_54, m_55, m_56, m_57, m_58, m_59]), (cc_l w0 (K 0) 5500 fw), (cc_l pl (K 0) 8 f_4609), (cc_l mo (K 0) 1152 f_6823)] H := hP
              replace hD := as_D hP hD rfl
              obtain ⟨x_6824, ex_6824⟩ : ∃ y : Int32, y = v_4660 + Int32.ofInt 1 := ⟨_, rfl⟩
              replace hE := hE.trans (Lt_in ex_6824)
              have hx_6824 : x_6824.toInt = (v_4660.toInt + 1) := by rw [ex_6824]; exact i_add rfl (show (Int32.ofInt 1).toInt = 1 from rfl) (by omega)
              refine lv_iinc (v := x_6824) (lv' := [(3, .int x_6824), (2, .int v_4608), (0, .ref m0)]) hx hb dX12_layTunes_65 hl (k := 0) rfl (by rw [ex_6824]) (by decide +kernel) rfl (fun ls hl => ?_)
              refine lv_goto (tgt := 45) hx hb dX12_layTunes_68 (by decide +kernel) ?_
              exact ih_4675 x_6824 f_6823 (by rw [hx_6824]; omega) hf_6823_0 (show Zr f_6823 v_4608.toInt (x_6824 : Int32).toInt by rw [← hf_6823, i_clamp (x := x_6822) (z := ((128 * v_4608.toInt) + v_4660.toInt)) hx_6822, hx_6824]; exact Zr.put hr0_lp_4674 (by omega)) (by omega) (hE.trans (by rw [hrec_4674])) _ _ hP hD hS ls (lv_sub hl [0, 1, 2] rfl)
        have hz_6825 : (0 : Int32).toInt = 0 := rfl
        exact lp_4674 ((129 - (0 : Int32).toInt : Int).toNat + 1) 0 fm (by decide +kernel) zfm (show Zr fm v_4608.toInt (0 : Int32).toInt by exact Zr.base) (Nat.lt_succ_self _) hE _ _ hP hD hS ls (lv_sub hl [0, 1, 2] rfl)
      · have c_4634i := i_nle (x := x_4633.toInt) (y := v_4607.toInt) rfl rfl c_4634
        replace hE := hE.trans (if_neg c_4634)
        refine lv_aload_n hx hb dX12_layTunes_14 rfl (lv_at hl 2 rfl) (va_get (ci := 12) (v := .ref w0) (C := RX12) (T := TX12) (N := 60) hx hb hts hw12 hown hK hP 0 rfl rfl 3 (by decide +kernel) (hts _ mm_X12_layTunes_833) (fun _ h9 => h9) rfl dX12_layTunes_15 (lv_bipush (v := 43) hx hb dX12_layTunes_18 (by decide +kernel) (lv_iload_n hx hb dX12_layTunes_20 rfl (lv_at hl 0 rfl) (lv_iadd hx hb dX12_layTunes_21 (lv_topi (fun x_6826 ex_6826 => ?_))))))
        replace hE := hE.trans (Lt_in ex_6826)
        have hx_6826 : x_6826.toInt = (43 + v_4607.toInt) := by rw [ex_6826]; exact i_add (show (43 : Int32).toInt = 43 from rfl) rfl (by omega)
        refine va_iald hx hb hK hP 1 0 rfl rfl (i_in hx_6826 (by omega)) dX12_layTunes_22 (lv_topi (fun x_6827 ex_6827 => ?_))
        replace hE := hE.trans (Lt_in ex_6827)
        have px_6827 := RwOK.at zfw hx_6826 (show 0 ≤ (43 + v_4607.toInt) ∧ (43 + v_4607.toInt) < 100 by omega)
        rw [← ex_6827] at px_6827
        refine lv_iload_n hx hb dX12_layTunes_23 rfl (lv_at hl 3 rfl) (lv_icmp_ne (tgt := 37) hx hb dX12_layTunes_24 (by decide +kernel) (fun c_6828 => ?_) (fun c_6828 => ?_))
        · have c_6828i := i_ne (x := x_6827.toInt) (y := x.toInt) rfl rfl c_6828
          replace hE := hE.trans (if_neg c_6828)
          obtain ⟨x_6829, ex_6829⟩ : ∃ y : Int32, y = v_4607 + Int32.ofInt 1 := ⟨_, rfl⟩
          replace hE := hE.trans (Lt_in ex_6829)
          have hx_6829 : x_6829.toInt = (v_4607.toInt + 1) := by rw [ex_6829]; exact i_add rfl (show (Int32.ofInt 1).toInt = 1 from rfl) (by omega)
          refine lv_iinc (v := x_6829) (lv' := [(3, .int x_6829), (2, .int v_4608), (0, .ref m0), (1, .int x)]) hx hb dX12_layTunes_37 hl (k := 0) rfl (by rw [ex_6829]) (by decide +kernel) rfl (fun ls hl => ?_)
          refine lv_goto (tgt := 4) hx hb dX12_layTunes_40 (by decide +kernel) ?_
          exact ih_4632 x_6829 v_4608 f_4609 (by rw [hx_6829]; omega) (by omega) hf_4609_0 (show 0 ≤ (v_4608 : Int32).toInt ∧ (v_4608 : Int32).toInt ≤ (x_6829 : Int32).toInt by omega) (by omega) (hE.trans (by rw [hrec_4631])) _ _ hP hD hS ls (lv_sub hl [0, 1, 2, 3] rfl)
        · have c_6828i := i_eq (x := x_6827.toInt) (y := x.toInt) rfl rfl c_6828
          replace hE := hE.trans (if_pos c_6828)
          refine lv_aload_n hx hb dX12_layTunes_27 rfl (lv_at hl 2 rfl) (va_get (ci := 12) (v := .ref pl) (C := RX12) (T := TX12) (N := 60) hx hb hts hw12 hown hK hP 0 rfl rfl 48 (by decide +kernel) (hts _ mm_X12_layTunes_878) (fun _ h9 => h9) rfl dX12_layTunes_28 (lv_iload_n hx hb dX12_layTunes_31 rfl (lv_at hl 1 rfl) (lv_iload_n hx hb dX12_layTunes_32 rfl (lv_at hl 0 rfl) (va_iast hx hb hK hP hD hS 2 0 rfl rfl (i_in rfl (by omega)) dX12_layTunes_33 (fun H locs hP0 hD0 hS0 => ?_)))))
          replace hP := hP0
          replace hD := hD0
          replace hS := hS0
          clear hP0 hD0 hS0
          generalize hf_6830 : (upd f_4609 (v_4608 : Int32).toNatClampNeg v_4607) = f_6830 at hP hD
          replace hE := hE.trans (Lt_in hf_6830.symm)
          have hf_6830_0 : Rg 8 0 7 f_6830 := by rw [← hf_6830]; exact Rg.upd hf_4609_0 rfl (by omega)
          replace hP : va_P D vwCl [(cc_O m0 12 [m_0, m_1, m_2, .ref w0, m_4, m_5, m_6, m_7, m_8, m_9, m_10, m_11, m_12, m_13, m_14, m_15, m_16, m_17, m_18, m_19, m_20, m_21, m_22, m_23, m_24, m_25, m_26, m_27, m_28, m_29, m_30, m_31, m_32, m_33, m_34, m_35, m_36, m_37, m_38, m_39, m_40, m_41, m_42, m_43, m_44, m_45, m_46, .ref mo, .ref pl, m_49, m_50, m_51, m_52, m_53, m_54, m_55, m_56, m_57, m_58, m_59]), (cc_l w0 (K 0) 5500 fw), (cc_l pl (K 0) 8 f_6830), (cc_l mo (K 0) 1152 fm)] H := hP
          replace hD := as_D hP hD rfl
          obtain ⟨x_6831, ex_6831⟩ : ∃ y : Int32, y = v_4608 + Int32.ofInt 1 := ⟨_, rfl⟩
          replace hE := hE.trans (Lt_in ex_6831)
          have hx_6831 : x_6831.toInt = (v_4608.toInt + 1) := by rw [ex_6831]; exact i_add rfl (show (Int32.ofInt 1).toInt = 1 from rfl) (by omega)
          refine lv_iinc (v := x_6831) (lv' := [(2, .int x_6831), (3, .int v_4607), (0, .ref m0), (1, .int x)]) hx hb dX12_layTunes_34 hl (k := 1) rfl (by rw [ex_6831]) (by decide +kernel) rfl (fun ls hl => ?_)
          obtain ⟨x_6832, ex_6832⟩ : ∃ y : Int32, y = v_4607 + Int32.ofInt 1 := ⟨_, rfl⟩
          replace hE := hE.trans (Lt_in ex_6832)
          have hx_6832 : x_6832.toInt = (v_4607.toInt + 1) := by rw [ex_6832]; exact i_add rfl (show (Int32.ofInt 1).toInt = 1 from rfl) (by omega)
          refine lv_iinc (v := x_6832) (lv' := [(3, .int x_6832), (2, .int x_6831), (0, .ref m0), (1, .int x)]) hx hb dX12_layTunes_37 hl (k := 1) rfl (by rw [ex_6832]) (by decide +kernel) rfl (fun ls hl => ?_)
          refine lv_goto (tgt := 4) hx hb dX12_layTunes_40 (by decide +kernel) ?_
          exact ih_4632 x_6832 x_6831 f_6830 (by rw [hx_6832]; omega) (by rw [hx_6831]; omega) hf_6830_0 (show 0 ≤ (x_6831 : Int32).toInt ∧ (x_6831 : Int32).toInt ≤ (x_6832 : Int32).toInt by omega) (by omega) (hE.trans (by rw [hrec_4631])) _ _ hP hD hS ls (lv_sub hl [0, 1, 2, 3] rfl)
  have hz_6833 : (0 : Int32).toInt = 0 := rfl
  have hz_6834 : (0 : Int32).toInt = 0 := rfl
  exact lp_4631 ((9 - (0 : Int32).toInt : Int).toNat + 1) 0 0 fp (by decide +kernel) (by decide +kernel) zfp (show 0 ≤ (0 : Int32).toInt ∧ (0 : Int32).toInt ≤ (0 : Int32).toInt by omega) (Nat.lt_succ_self _) hE _ _ hP hD hS ls (lv_sub hl [0, 1, 2, 3] rfl)
set_option maxRecDepth 100000 in
noncomputable def E_v_tune_j50 (fp : Nat → Int32) (fm : Nat → Int32) : Int32 × (Nat → Int32) × (Nat → Int32) :=
  (((-1), fp, fm) : Int32 × (Nat → Int32) × (Nat → Int32))
set_option maxRecDepth 100000 in
noncomputable def E_v_tune_l84 (y : Int32) (fw : Nat → Int32) (u_4081_2_1_0 : Nat → Int32) (u_4081_2_1_1 : Nat → Int32) (v_4256 : Int32) (v_4257 : Int32) (rec_4370 : Int32 → Int32 → (Int32 × (Nat → Int32) × (Nat → Int32))) (rec_4411 : Int32 → (Int32 × (Nat → Int32) × (Nat → Int32))) (v_4395 : Int32) : Int32 × (Nat → Int32) × (Nat → Int32) :=
  Lt (E_v_movedBy v_4256 v_4257 v_4395 fw u_4081_2_1_0 u_4081_2_1_1) (fun r_4413 => Lt (128 * v_4256 : Int32) (fun x_4415 => Lt (x_4415 + v_4257 : Int32) (fun x_4416 => Lt (u_4081_2_1_1 (x_4416 : Int32).toNatClampNeg : Int32) (fun x_4417 => if r_4413 = x_4417 then (Lt (u_4081_2_1_0 (v_4256 : Int32).toNatClampNeg : Int32) (fun x_4419 => Lt (y - 1 : Int32) (fun x_4420 => if x_4419 = x_4420 then (((v_4395, u_4081_2_1_0, u_4081_2_1_1) : Int32 × (Nat → Int32) × (Nat → Int32))) else (Lt (1 <<< (v_4395 &&& 31) : Int32) (fun x_4422 => Lt (v_4257 ||| x_4422 : Int32) (fun x_4423 => Lt (v_4256 + Int32.ofInt 1 : Int32) (fun x_4424 => rec_4370 x_4424 x_4423))))))) else (Lt (v_4395 + Int32.ofInt 1 : Int32) (fun x_4425 => rec_4411 x_4425))))))
set_option maxRecDepth 100000 in
noncomputable def E_v_tune_l75 (y : Int32) (fw : Nat → Int32) (r_4080 : Int32) (u_4081_2_1_0 : Nat → Int32) (u_4081_2_1_1 : Nat → Int32) (rec_4370 : Int32 → Int32 → (Int32 × (Nat → Int32) × (Nat → Int32))) (v_4256 : Int32) (v_4257 : Int32) : Int32 × (Nat → Int32) × (Nat → Int32) :=
  if r_4080 ≤ v_4256 then ((((-1), u_4081_2_1_0, u_4081_2_1_1) : Int32 × (Nat → Int32) × (Nat → Int32))) else (Lp (α := Int32 → (Int32 × (Nat → Int32) × (Nat → Int32))) (E_v_tune_l84 y fw u_4081_2_1_0 u_4081_2_1_1 v_4256 v_4257 rec_4370) (fun _ => ((0, fun _ => 0, fun _ => 0) : Int32 × (Nat → Int32) × (Nat → Int32))) ((7 - (0 : Int32).toInt : Int).toNat + 1) 0)
set_option maxRecDepth 100000 in
noncomputable def E_v_tune_j52 (x : Int32) (y : Int32) (fw : Nat → Int32) (fp : Nat → Int32) (fm : Nat → Int32) : Int32 × (Nat → Int32) × (Nat → Int32) :=
  Lt2 (E_v_layTunes x fw fp fm) (fun r_4080 q0_r_4080 => Lt2 q0_r_4080 (fun u_4081_2_1_0 u_4081_2_1_1 => if y = 0 then (Lt (u_4081_2_1_1 (0 : Int32).toNatClampNeg : Int32) (fun x_4427 => ((x_4427, u_4081_2_1_0, u_4081_2_1_1) : Int32 × (Nat → Int32) × (Nat → Int32)))) else (Lp (α := Int32 → Int32 → (Int32 × (Nat → Int32) × (Nat → Int32))) (E_v_tune_l75 y fw r_4080 u_4081_2_1_0 u_4081_2_1_1) (fun _ _ => ((0, fun _ => 0, fun _ => 0) : Int32 × (Nat → Int32) × (Nat → Int32))) ((9 - (0 : Int32).toInt : Int).toNat + 1) 0 0)))
set_option maxRecDepth 100000 in
noncomputable def E_v_tune (x : Int32) (y : Int32) (thr : Int32) (fw : Nat → Int32) (fp : Nat → Int32) (fm : Nat → Int32) : Int32 × (Nat → Int32) × (Nat → Int32) :=
  Lt ((x : Int32).toInt64 : Int64) (fun x_2981 => Lt (E_v_in x_2981 0 3) (fun r_3712 => if r_3712 = 1 then (if y < 0 then (E_v_tune_j50 fp fm) else (if y ≤ 0 then (E_v_tune_j52 x y fw fp fm) else (Lt (y - 1 : Int32) (fun x_4429 => Lt (E_v_isHouse x_4429 fw) (fun r_4430 => if r_4430 = 1 then (Lt (43 + y : Int32) (fun x_4435 => Lt (x_4435 - 1 : Int32) (fun x_4436 => Lt (fw (x_4436 : Int32).toNatClampNeg : Int32) (fun x_4437 => if x_4437 = x then (E_v_tune_j52 x y fw fp fm) else (E_v_tune_j50 fp fm))))) else (E_v_tune_j50 fp fm)))))) else (E_v_tune_j50 fp fm)))
set_option maxHeartbeats 4000000 in
set_option maxRecDepth 100000 in
theorem v_tune (l : Launch) (D : va_G) (K : Nat → ClassId) (m0 : Nat) (x : Int32) (y : Int32) (thr : Int32) (m_1 : Value) (m_2 : Value) (w0 : Nat) (m_4 : Value) (m_5 : Value) (m_6 : Value) (m_7 : Value) (m_8 : Value) (m_9 : Value) (m_10 : Value) (m_11 : Value) (m_12 : Value) (m_13 : Value) (m_14 : Value) (m_15 : Value) (m_16 : Value) (m_17 : Value) (m_18 : Value) (m_19 : Value) (m_20 : Value) (m_21 : Value) (m_22 : Value) (m_23 : Value) (m_24 : Value) (m_25 : Value) (m_26 : Value) (m_27 : Value) (m_28 : Value) (m_29 : Value) (m_30 : Value) (m_31 : Value) (m_32 : Value) (m_33 : Value) (m_34 : Value) (m_35 : Value) (m_36 : Value) (m_37 : Value) (m_38 : Value) (m_39 : Value) (m_40 : Value) (m_41 : Value) (m_42 : Value) (m_43 : Value) (m_44 : Value) (m_45 : Value) (m_46 : Value) (mo : Nat) (pl : Nat) (m_49 : Value) (m_50 : Value) (m_51 : Value) (m_52 : Value) (m_53 : Value) (m_54 : Value) (m_55 : Value) (m_56 : Value) (m_57 : Value) (m_58 : Value) (m_59 : Value) (fw : Nat → Int32) (gr : Nat → Int32) (fp : Nat → Int32) (fm : Nat → Int32) (sz : Nat) (zfw : RwOK fw) (zgr : FzM gr fw) (zfp : Rg 8 0 7 fp) (zfm : Rg 1152 0 100000000 fm) : Met l yX12_tune wsX12_tune ({ frames := 4, cells := 0, slots := 0, locals := 93 }) (va_Pc [.ref m0, .int x, .int y] (Pre D K [(cc_O m0 12 [.int thr, m_1, m_2, .ref w0, m_4, m_5, m_6, m_7, m_8, m_9, m_10, m_11, m_12, m_13, m_14, m_15, m_16, m_17, m_18, m_19, m_20, m_21, m_22, m_23, m_24, m_25, m_26, m_27, m_28, m_29, m_30, m_31, m_32, m_33, m_34, m_35, m_36, m_37, m_38, m_39, m_40, m_41, m_42, m_43, m_44, m_45, m_46, .ref mo, .ref pl, m_49, m_50, m_51, m_52, m_53, m_54, m_55, m_56, m_57, m_58, m_59]), (cc_l w0 (K 0) 5500 fw), (cc_l pl (K 0) 8 fp), (cc_l mo (K 0) 1152 fm)] sz)) (va_Qi (S := Su) (fun (r : Int32) (u : Su) => ((-1) ≤ r.toInt ∧ r.toInt ≤ 100000000) ∧ (Rg 8 0 7 (u.2.1 0)) ∧ (Rg 1152 0 100000000 (u.2.1 1)) ∧ ((r, (u.2.1 0), (u.2.1 1)) = E_v_tune x y thr fw fp fm) ∧ True) (fun u t => Wd D (va_A [(cc_O m0 12 [.int thr, m_1, m_2, .ref w0, m_4, m_5, m_6, m_7, m_8, m_9, m_10, m_11, m_12, m_13, m_14, m_15, m_16, m_17, m_18, m_19, m_20, m_21, m_22, m_23, m_24, m_25, m_26, m_27, m_28, m_29, m_30, m_31, m_32, m_33, m_34, m_35, m_36, m_37, m_38, m_39, m_40, m_41, m_42, m_43, m_44, m_45, m_46, .ref mo, .ref pl, m_49, m_50, m_51, m_52, m_53, m_54, m_55, m_56, m_57, m_58, m_59]), (cc_l w0 (K 0) 5500 fw), (cc_l pl (K 0) 8 fp), (cc_l mo (K 0) 1152 fm)] sz) ((fun u => [(cc_O m0 12 [.int 0, m_1, m_2, .ref w0, m_4, m_5, m_6, m_7, m_8, m_9, m_10, m_11, m_12, m_13, m_14, m_15, m_16, m_17, m_18, m_19, m_20, m_21, m_22, m_23, m_24, m_25, m_26, m_27, m_28, m_29, m_30, m_31, m_32, m_33, m_34, m_35, m_36, m_37, m_38, m_39, m_40, m_41, m_42, m_43, m_44, m_45, m_46, .ref mo, .ref pl, m_49, m_50, m_51, m_52, m_53, m_54, m_55, m_56, m_57, m_58, m_59]), (cc_l w0 (K 0) 5500 fw), (cc_l pl (K 0) 8 (u.2.1 0)), (cc_l mo (K 0) 1152 (u.2.1 1))]) u) t) (va_A [(cc_O m0 12 [.int thr, m_1, m_2, .ref w0, m_4, m_5, m_6, m_7, m_8, m_9, m_10, m_11, m_12, m_13, m_14, m_15, m_16, m_17, m_18, m_19, m_20, m_21, m_22, m_23, m_24, m_25, m_26, m_27, m_28, m_29, m_30, m_31, m_32, m_33, m_34, m_35, m_36, m_37, m_38, m_39, m_40, m_41, m_42, m_43, m_44, m_45, m_46, .ref mo, .ref pl, m_49, m_50, m_51, m_52, m_53, m_54, m_55, m_56, m_57, m_58, m_59]), (cc_l w0 (K 0) 5500 fw), (cc_l pl (K 0) 8 fp), (cc_l mo (K 0) 1152 fm)] sz)) 0 0 (va_A [(cc_O m0 12 [.int thr, m_1, m_2, .ref w0, m_4, m_5, m_6, m_7, m_8, m_9, m_10, m_11, m_12, m_13, m_14, m_15, m_16, m_17, m_18, m_19, m_20, m_21, m_22, m_23, m_24, m_25, m_26, m_27, m_28, m_29, m_30, m_31, m_32, m_33, m_34, m_35, m_36, m_37, m_38, m_39, m_40, m_41, m_42, m_43, m_44, m_45, m_46, .ref mo, .ref pl, m_49, m_50, m_51, m_52, m_53, m_54, m_55, m_56, m_57, m_58, m_59]), (cc_l w0 (K 0) 5500 fw), (cc_l pl (K 0) 8 fp), (cc_l mo (K 0) 1152 fm)] sz) := by
  refine Met.ofW (cc := cX12_tune) (maxL := 7) (ret := (some .int)) (by decide +kernel) rfl ?_
  intro p e s m args below meth c s₁ B hml hv
  obtain ⟨rfl, hsz, hP, hK, hD0, hN⟩ := hv
  have hx := B.exec
  have hb := B.bytes
  have hr := B.returns
  have hts := atoms_spec (ws := wsX12_tune) B.pre
  have hown : s.vm.findClass RX12 = some m.cls := findClass_of_methodNamed B.named
  have hlocks := B.notSynchronized
  subst hsz
  have hD := hD0.self (sz := s.heap.size)
  generalize hAe : va_A [(cc_O m0 12 [.int thr, m_1, m_2, .ref w0, m_4, m_5, m_6, m_7, m_8, m_9, m_10, m_11, m_12, m_13, m_14, m_15, m_16, m_17, m_18, m_19, m_20, m_21, m_22, m_23, m_24, m_25, m_26, m_27, m_28, m_29, m_30, m_31, m_32, m_33, m_34, m_35, m_36, m_37, m_38, m_39, m_40, m_41, m_42, m_43, m_44, m_45, m_46, .ref mo, .ref pl, m_49, m_50, m_51, m_52, m_53, m_54, m_55, m_56, m_57, m_58, m_59]), (cc_l w0 (K 0) 5500 fw), (cc_l pl (K 0) 8 fp), (cc_l mo (K 0) 1152 fm)] s.heap.size = A at hD ⊢
  have hA : ∀ q : Nat, s.heap.size ≤ q → A q := fun q h => by rw [← hAe]; exact Or.inr h
  clear hAe
  have hS : va_S A s.heap s.heap [] := va_S.rf
  replace hP : va_P D vwCl [(cc_O m0 12 [.int thr, m_1, m_2, .ref w0, m_4, m_5, m_6, m_7, m_8, m_9, m_10, m_11, m_12, m_13, m_14, m_15, m_16, m_17, m_18, m_19, m_20, m_21, m_22, m_23, m_24, m_25, m_26, m_27, m_28, m_29, m_30, m_31, m_32, m_33, m_34, m_35, m_36, m_37, m_38, m_39, m_40, m_41, m_42, m_43, m_44, m_45, m_46, .ref mo, .ref pl, m_49, m_50, m_51, m_52, m_53, m_54, m_55, m_56, m_57, m_58, m_59]), (cc_l w0 (K 0) 5500 fw), (cc_l pl (K 0) 8 fp), (cc_l mo (K 0) 1152 fm)] s.heap := hP
  have hl := lv_entry [.ref m0, .int x, .int y] (n := 7) (Nat.le_of_ble_eq_true rfl)
  rw [lg_entry_eq]
  generalize (lg_sl [.ref m0, .int x, .int y] ++ List.replicate (7 - (lg_sl [.ref m0, .int x, .int y]).length) Slot.unset).toArray = ls at hl ⊢
  have hl : lv_has ls 7 [(0, .ref m0), (1, .int x), (2, .int y)] := hl
  have hw12 : ∀ w ∈ wsX120, w ∈ wsX12_tune := fun w h => (List.mem_cons_of_mem _ (List.mem_append_right _ h))
  generalize hQ : MQ below _ _ s _ _ _ = Q
  have hE := E_v_tune.eq_def x y thr fw fp fm
  refine lv_aload_n hx hb dX12_tune_0 rfl (lv_at hl 0 rfl) (lv_iconst (v := 0) hx hb dX12_tune_1 (by decide +kernel) (va_put (ci := 12) (v := .int 0) (ty := .int) (C := RX12) (T := TX12) (N := 60) hx hb hts hw12 tyX12 tyX12_ok nmX12 hown hK hP hD hS 0 rfl rfl 0 (by decide +kernel) (hts _ mm_X12_tune_830) (fun _ h9 => h9) rfl (by decide +kernel) (by first | rfl | decide) (by first | rfl | decide) (Nat.le_of_ble_eq_true rfl) dX12_tune_2 (fun H locs hP0 hD0 hS0 => ?_)))
  replace hP : va_P D vwCl [(cc_O m0 12 [.int 0, m_1, m_2, .ref w0, m_4, m_5, m_6, m_7, m_8, m_9, m_10, m_11, m_12, m_13, m_14, m_15, m_16, m_17, m_18, m_19, m_20, m_21, m_22, m_23, m_24, m_25, m_26, m_27, m_28, m_29, m_30, m_31, m_32, m_33, m_34, m_35, m_36, m_37, m_38, m_39, m_40, m_41, m_42, m_43, m_44, m_45, m_46, .ref mo, .ref pl, m_49, m_50, m_51, m_52, m_53, m_54, m_55, m_56, m_57, m_58, m_59]), (cc_l w0 (K 0) 5500 fw), (cc_l pl (K 0) 8 fp), (cc_l mo (K 0) 1152 fm)] H := hP0
  replace hD := as_D hP hD0 rfl
  replace hS := hS0
  clear hP0 hD0 hS0
  refine lv_iload_n hx hb dX12_tune_5 rfl (lv_at hl 1 rfl) (lv_i2l hx hb dX12_tune_6 rfl (lv_topl (fun x_2981 ex_2981 => ?_)))
  replace hE := hE.trans (Lt_in ex_2981)
  have hx_2981 : x_2981.toInt = x.toInt := by rw [ex_2981]; exact i_wide rfl
  have hbx_2981 := i_rng (a := x) rfl
  refine lv_lconst (v := 0) hx hb dX12_tune_7 (by decide +kernel) (lv_ldc2 (v := 3) hx hb hown (hts _ mm_X12_tune_977) dX12_tune_8 ?_)
  have j_3711 : ∀ (hE : E_v_tune x y thr fw fp fm = E_v_tune_j50 fp fm) (H : Heap) (locs : List Loc) (hP : va_P D vwCl [(cc_O m0 12 [.int 0, m_1, m_2, .ref w0, m_4, m_5, m_6, m_7, m_8, m_9, m_10, m_11, m_12, m_13, m_14, m_15, m_16, m_17, m_18, m_19, m_20, m_21, m_22, m_23, m_24, m_25, m_26, m_27, m_28, m_29, m_30, m_31, m_32, m_33, m_34, m_35, m_36, m_37, m_38, m_39, m_40, m_41, m_42, m_43, m_44, m_45, m_46, .ref mo, .ref pl, m_49, m_50, m_51, m_52, m_53, m_54, m_55, m_56, m_57, m_58, m_59]), (cc_l w0 (K 0) 5500 fw), (cc_l pl (K 0) 8 fp), (cc_l mo (K 0) 1152 fm)] H) (hD : va_D A [(cc_O m0 12 [.int 0, m_1, m_2, .ref w0, m_4, m_5, m_6, m_7, m_8, m_9, m_10, m_11, m_12, m_13, m_14, m_15, m_16, m_17, m_18, m_19, m_20, m_21, m_22, m_23, m_24, m_25, m_26, m_27, m_28, m_29, m_30, m_31, m_32, m_33, m_34, m_35, m_36, m_37, m_38, m_39, m_40, m_41, m_42, m_43, m_44, m_45, m_46, .ref mo, .ref pl, m_49, m_50, m_51, m_52, m_53, m_54, m_55, m_56, m_57, m_58, m_59]), (cc_l w0 (K 0) 5500 fw), (cc_l pl (K 0) 8 fp), (cc_l mo (K 0) 1152 fm)]) (hS : va_S A s.heap H locs) (ls : Array Slot) (hl : lv_has ls 7 []), W p l e ({ frames := 4, cells := 0, slots := 0, locals := 93 }) s m (([.ref m0, .int x, .int y] : List Value).toArray) below meth c H locs 0 0 Q (F0 m 50 ls []) := by
    clear hE hP hD hS hl
    intro hE H locs hP hD hS ls hl
    replace hE := hE.trans (E_v_tune_j50.eq_def _ _)
    refine lv_iconst (v := (-1)) hx hb dX12_tune_50 (by decide +kernel) ?_
    rw [← hQ]
    have hP9 := hP.sub (ws' := [(cc_O m0 12 [.int 0, m_1, m_2, .ref w0, m_4, m_5, m_6, m_7, m_8, m_9, m_10, m_11, m_12, m_13, m_14, m_15, m_16, m_17, m_18, m_19, m_20, m_21, m_22, m_23, m_24, m_25, m_26, m_27, m_28, m_29, m_30, m_31, m_32, m_33, m_34, m_35, m_36, m_37, m_38, m_39, m_40, m_41, m_42, m_43, m_44, m_45, m_46, .ref mo, .ref pl, m_49, m_50, m_51, m_52, m_53, m_54, m_55, m_56, m_57, m_58, m_59]), (cc_l w0 (K 0) 5500 fw), (cc_l pl (K 0) 8 fp), (cc_l mo (K 0) 1152 fm)]) [0, 1, 2, 3] rfl
    have hD9 := sub_D hP9 hD [0, 1, 2, 3] (by decide +kernel) rfl
    exact W.iret (v := (-1)) hx hb hr (fun t ht hW => ⟨⟨(-1), ((fun _ => 0, fun i => match i with | 0 => fp | _ => fm, fun _ => fun _ => 0, fun _ => 0, fun _ => 0, fun _ => fun _ => none) : Su), rfl, ⟨(show (-1) ≤ ((-1) : Int32).toInt ∧ ((-1) : Int32).toInt ≤ 100000000 by decide), zfp, zfm, hE.symm, trivial⟩, (⟨by rw [ht]; exact hP9, hD9⟩ : Wd D A _ t)⟩, hS.F ht⟩) hS.2.2 dX12_tune_51
  refine pci (va_runS (As := [.long x_2981, .long 0, .long 3]) (rest := []) ⟨hx, hb, hml, hown, hts⟩ (v_in l D K x.toInt 0 3 x_2981 0 3 H.size hx_2981 (show (0 : Int64).toInt = 0 from rfl) (show (3 : Int64).toInt = 3 from rfl)) (va_cwS 3 hts gX12_tune_X12_in rfl rfl rfl (by decide +kernel) ⟨Nat.le_of_ble_eq_true rfl, Nat.le_of_ble_eq_true rfl⟩) (mkS hK hN (va_P.nil) (va_D.nil (A := fun _ => True))) rfl rfl hl.1 rfl (lv_room (Nat.le_of_ble_eq_true rfl)) dX12_tune_11 ⟨Nat.le_of_ble_eq_true rfl, Nat.le_of_ble_eq_true rfl⟩) (fun r_3712 hw => ?_)
  obtain ⟨hw, k_3713, -⟩ := hw
  replace hE := hE.trans (Lt_in k_3713)
  rcases hw with ⟨rfl, h_3714, h_3715⟩ | ⟨rfl, h_3716⟩
  · replace hE := (hE).trans (if_pos rfl)
    refine lv_if_eq (tgt := 50) hx hb dX12_tune_14 (by decide +kernel) (fun c_3717 => absurd c_3717 (by decide +kernel)) (fun c_3717 => ?_)
    refine lv_iload_n hx hb dX12_tune_17 rfl (lv_at hl 2 rfl) (lv_if_lt (tgt := 50) hx hb dX12_tune_18 (by decide +kernel) (fun c_3718 => ?_) (fun c_3718 => ?_))
    · have c_3718i := i_lt (x := y.toInt) (y := 0) rfl rfl c_3718
      replace hE := hE.trans (if_pos c_3718)
      exact j_3711   hE _ _ hP hD hS ls (lv_sub hl [] rfl)
    · have c_3718i := i_nlt (x := y.toInt) (y := 0) rfl rfl c_3718
      replace hE := hE.trans (if_neg c_3718)
      refine lv_iload_n hx hb dX12_tune_21 rfl (lv_at hl 2 rfl) ?_
      have j_4079 : ∀ (hk0_j_4079 : y.toInt ≤ 8) (hE : E_v_tune x y thr fw fp fm = E_v_tune_j52 x y fw fp fm) (H : Heap) (locs : List Loc) (hP : va_P D vwCl [(cc_O m0 12 [.int 0, m_1, m_2, .ref w0, m_4, m_5, m_6, m_7, m_8, m_9, m_10, m_11, m_12, m_13, m_14, m_15, m_16, m_17, m_18, m_19, m_20, m_21, m_22, m_23, m_24, m_25, m_26, m_27, m_28, m_29, m_30, m_31, m_32, m_33, m_34, m_35, m_36, m_37, m_38, m_39, m_40, m_41, m_42, m_43, m_44, m_45, m_46, .ref mo, .ref pl, m_49, m_50, m_51, m_52, m_53, m_54, m_55, m_56, m_57, m_58, m_59]), (cc_l w0 (K 0) 5500 fw), (cc_l pl (K 0) 8 fp), (cc_l mo (K 0) 1152 fm)] H) (hD : va_D A [(cc_O m0 12 [.int 0, m_1, m_2, .ref w0, m_4, m_5, m_6, m_7, m_8, m_9, m_10, m_11, m_12, m_13, m_14, m_15, m_16, m_17, m_18, m_19, m_20, m_21, m_22, m_23, m_24, m_25, m_26, m_27, m_28, m_29, m_30, m_31, m_32, m_33, m_34, m_35, m_36, m_37, m_38, m_39, m_40, m_41, m_42, m_43, m_44, m_45, m_46, .ref mo, .ref pl, m_49, m_50, m_51, m_52, m_53, m_54, m_55, m_56, m_57, m_58, m_59]), (cc_l w0 (K 0) 5500 fw), (cc_l pl (K 0) 8 fp), (cc_l mo (K 0) 1152 fm)]) (hS : va_S A s.heap H locs) (ls : Array Slot) (hl : lv_has ls 7 [(0, .ref m0), (1, .int x), (2, .int y)]), W p l e ({ frames := 4, cells := 0, slots := 0, locals := 93 }) s m (([.ref m0, .int x, .int y] : List Value).toArray) below meth c H locs 0 0 Q (F0 m 52 ls []) := by
        clear hE hP hD hS hl
        intro hk0_j_4079 hE H locs hP hD hS ls hl
        replace hE := hE.trans (E_v_tune_j52.eq_def _ _ _ _ _)
        refine lv_aload_n hx hb dX12_tune_52 rfl (lv_at hl 0 rfl) (lv_iload_n hx hb dX12_tune_53 rfl (lv_at hl 1 rfl) (kci (S := Su) (wr := []) (va_runV (As := [.int x]) (rest := []) ⟨hx, hb, hml, hown, hts⟩ (v_layTunes l D K m0 x (.int 0) m_1 m_2 w0 m_4 m_5 m_6 m_7 m_8 m_9 m_10 m_11 m_12 m_13 m_14 m_15 m_16 m_17 m_18 m_19 m_20 m_21 m_22 m_23 m_24 m_25 m_26 m_27 m_28 m_29 m_30 m_31 m_32 m_33 m_34 m_35 m_36 m_37 m_38 m_39 m_40 m_41 m_42 m_43 m_44 m_45 m_46 mo pl m_49 m_50 m_51 m_52 m_53 m_54 m_55 m_56 m_57 m_58 m_59 fw gr fp fm H.size zfw zgr zfp zfm) (cwV 1 hts gX12_tune_X12_layTunes rfl rfl rfl (by decide +kernel) ⟨Nat.le_of_ble_eq_true rfl, Nat.le_of_ble_eq_true rfl⟩) (mkV hK hN (hP.sub [0, 1, 2, 3] rfl) (hD.sub [0, 1, 2, 3] (by decide +kernel) rfl) (ci := 12) (q0 := 0) rfl rfl) rfl rfl hl.1 rfl (lv_room (Nat.le_of_ble_eq_true rfl)) dX12_tune_54 ⟨Nat.le_of_ble_eq_true rfl, Nat.le_of_ble_eq_true rfl⟩) hP hD hS hA [0, 1, 2, 3] [] rfl rfl (by decide +kernel) (by decide +kernel) (fun r_4080 u_4081 H locs hw hP0 hD0 hS0 => ?_)))
        replace hP : va_P D vwCl [(cc_O m0 12 [.int 0, m_1, m_2, .ref w0, m_4, m_5, m_6, m_7, m_8, m_9, m_10, m_11, m_12, m_13, m_14, m_15, m_16, m_17, m_18, m_19, m_20, m_21, m_22, m_23, m_24, m_25, m_26, m_27, m_28, m_29, m_30, m_31, m_32, m_33, m_34, m_35, m_36, m_37, m_38, m_39, m_40, m_41, m_42, m_43, m_44, m_45, m_46, .ref mo, .ref pl, m_49, m_50, m_51, m_52, m_53, m_54, m_55, m_56, m_57, m_58, m_59]), (cc_l w0 (K 0) 5500 fw), (cc_l pl (K 0) 8 (u_4081.2.1 0)), (cc_l mo (K 0) 1152 (u_4081.2.1 1))] H := hP0
        replace hD := as_D hP hD0 rfl
        replace hS := hS0
        clear hP0 hD0 hS0
        obtain ⟨h_4086, k_4082, k_4083, k_4084, k_4085, -⟩ := hw
        replace hE := (hE.trans (Lt2_in k_4085)).trans (Lt2_in rfl)
        refine lv_istore_n (lv' := [(3, .int r_4080), (0, .ref m0), (1, .int x), (2, .int y)]) hx hb dX12_tune_57 rfl hl (by decide +kernel) rfl (fun ls hl => ?_)
        refine lv_iload_n hx hb dX12_tune_58 rfl (lv_at hl 3 rfl) (lv_if_ne (tgt := 69) hx hb dX12_tune_59 (by decide +kernel) (fun c_4087 => ?_) (fun c_4087 => ?_))
        · have c_4087i := i_ne (x := y.toInt) (y := 0) rfl rfl c_4087
          replace hE := hE.trans (if_neg c_4087)
          refine lv_iconst (v := 0) hx hb dX12_tune_69 (by decide +kernel) (lv_istore (lv' := [(4, .int 0), (3, .int r_4080), (0, .ref m0), (1, .int x), (2, .int y)]) hx hb dX12_tune_70 hl (by decide +kernel) rfl (fun ls hl => ?_))
          refine lv_iconst (v := 0) hx hb dX12_tune_72 (by decide +kernel) (lv_istore (lv' := [(5, .int 0), (4, .int 0), (3, .int r_4080), (0, .ref m0), (1, .int x), (2, .int y)]) hx hb dX12_tune_73 hl (by decide +kernel) rfl (fun ls hl => ?_))
          have lp_4370 : ∀ (nn_ : Nat) (v_4256 : Int32) (v_4257 : Int32) (hv_4256 : 0 ≤ v_4256.toInt ∧ v_4256.toInt ≤ 8) (hv_4257 : 0 ≤ v_4257.toInt ∧ v_4257.toInt ≤ 127) (hn : (9 - v_4256.toInt : Int).toNat < nn_) (hE : E_v_tune x y thr fw fp fm = Lp (α := Int32 → Int32 → (Int32 × (Nat → Int32) × (Nat → Int32))) (E_v_tune_l75 y fw r_4080 (u_4081.2.1 0) (u_4081.2.1 1)) (fun _ _ => ((0, fun _ => 0, fun _ => 0) : Int32 × (Nat → Int32) × (Nat → Int32))) nn_ v_4256 v_4257) (H : Heap) (locs : List Loc) (hP : va_P D vwCl [(cc_O m0 12 [.int 0, m_1, m_2, .ref w0, m_4, m_5, m_6, m_7, m_8, m_9, m_10, m_11, m_12, m_13, m_14, m_15, m_16, m_17, m_18, m_19, m_20, m_21, m_22, m_23, m_24, m_25, m_26, m_27, m_28, m_29, m_30, m_31, m_32, m_33, m_34, m_35, m_36, m_37, m_38, m_39, m_40, m_41, m_42, m_43, m_44, m_45, m_46, .ref mo, .ref pl, m_49, m_50, m_51, m_52, m_53, m_54, m_55, m_56, m_57, m_58, m_59]), (cc_l w0 (K 0) 5500 fw), (cc_l pl (K 0) 8 (u_4081.2.1 0)), (cc_l mo (K 0) 1152 (u_4081.2.1 1))] H) (hD : va_D A [(cc_O m0 12 [.int 0, m_1, m_2, .ref w0, m_4, m_5, m_6, m_7, m_8, m_9, m_10, m_11, m_12, m_13, m_14, m_15, m_16, m_17, m_18, m_19, m_20, m_21, m_22, m_23, m_24, m_25, m_26, m_27, m_28, m_29, m_30, m_31, m_32, m_33, m_34, m_35, m_36, m_37, m_38, m_39, m_40, m_41, m_42, m_43, m_44, m_45, m_46, .ref mo, .ref pl, m_49, m_50, m_51, m_52, m_53, m_54, m_55, m_56, m_57, m_58, m_59]), (cc_l w0 (K 0) 5500 fw), (cc_l pl (K 0) 8 (u_4081.2.1 0)), (cc_l mo (K 0) 1152 (u_4081.2.1 1))]) (hS : va_S A s.heap H locs) (ls : Array Slot) (hl : lv_has ls 7 [(5, .int v_4256), (4, .int v_4257), (3, .int r_4080), (0, .ref m0), (2, .int y)]), W p l e ({ frames := 4, cells := 0, slots := 0, locals := 93 }) s m (([.ref m0, .int x, .int y] : List Value).toArray) below meth c H locs 0 0 Q (F0 m 75 ls []) := by
            clear hE hP hD hS hl
            intro nn_
            induction nn_ with
            | zero =>
              intro v_4256 v_4257 hv_4256 hv_4257 hn hE H locs hP hD hS ls hl
              exact absurd hn (Nat.not_lt_zero _)
            | succ nn_ ih_4371 =>
              intro v_4256 v_4257 hv_4256 hv_4257 hn hE H locs hP hD hS ls hl
              replace hE : E_v_tune x y thr fw fp fm = E_v_tune_l75 y fw r_4080 (u_4081.2.1 0) (u_4081.2.1 1) (Lp (α := Int32 → Int32 → (Int32 × (Nat → Int32) × (Nat → Int32))) (E_v_tune_l75 y fw r_4080 (u_4081.2.1 0) (u_4081.2.1 1)) (fun _ _ => ((0, fun _ => 0, fun _ => 0) : Int32 × (Nat → Int32) × (Nat → Int32))) nn_) v_4256 v_4257 := hE
              obtain ⟨rec_4370, hrec_4370⟩ : ∃ z9, z9 = Lp (α := Int32 → Int32 → (Int32 × (Nat → Int32) × (Nat → Int32))) (E_v_tune_l75 y fw r_4080 (u_4081.2.1 0) (u_4081.2.1 1)) (fun _ _ => ((0, fun _ => 0, fun _ => 0) : Int32 × (Nat → Int32) × (Nat → Int32))) nn_ := ⟨_, rfl⟩
              rw [← hrec_4370] at hE
              replace hE := hE.trans (E_v_tune_l75.eq_def _ _ _ _ _ _ _ _)
              refine lv_iload hx hb dX12_tune_75 (lv_at hl 0 rfl) (lv_iload_n hx hb dX12_tune_77 rfl (lv_at hl 2 rfl) (lv_icmp_ge (tgt := 148) hx hb dX12_tune_78 (by decide +kernel) (fun c_4372 => ?_) (fun c_4372 => ?_)))
              · have c_4372i := i_le (x := r_4080.toInt) (y := v_4256.toInt) rfl rfl c_4372
                replace hE := hE.trans (if_pos c_4372)
                refine lv_iconst (v := (-1)) hx hb dX12_tune_148 (by decide +kernel) ?_
                rw [← hQ]
                have hP9 := hP.sub (ws' := [(cc_O m0 12 [.int 0, m_1, m_2, .ref w0, m_4, m_5, m_6, m_7, m_8, m_9, m_10, m_11, m_12, m_13, m_14, m_15, m_16, m_17, m_18, m_19, m_20, m_21, m_22, m_23, m_24, m_25, m_26, m_27, m_28, m_29, m_30, m_31, m_32, m_33, m_34, m_35, m_36, m_37, m_38, m_39, m_40, m_41, m_42, m_43, m_44, m_45, m_46, .ref mo, .ref pl, m_49, m_50, m_51, m_52, m_53, m_54, m_55, m_56, m_57, m_58, m_59]), (cc_l w0 (K 0) 5500 fw), (cc_l pl (K 0) 8 (u_4081.2.1 0)), (cc_l mo (K 0) 1152 (u_4081.2.1 1))]) [0, 1, 2, 3] rfl
                have hD9 := sub_D hP9 hD [0, 1, 2, 3] (by decide +kernel) rfl
                exact W.iret (v := (-1)) hx hb hr (fun t ht hW => ⟨⟨(-1), ((fun _ => 0, fun i => match i with | 0 => (u_4081.2.1 0) | _ => (u_4081.2.1 1), fun _ => fun _ => 0, fun _ => 0, fun _ => 0, fun _ => fun _ => none) : Su), rfl, ⟨(show (-1) ≤ ((-1) : Int32).toInt ∧ ((-1) : Int32).toInt ≤ 100000000 by decide), k_4082, k_4083, hE.symm, trivial⟩, (⟨by rw [ht]; exact hP9, hD9⟩ : Wd D A _ t)⟩, hS.F ht⟩) hS.2.2 dX12_tune_149
              · have c_4372i := i_nle (x := r_4080.toInt) (y := v_4256.toInt) rfl rfl c_4372
                replace hE := hE.trans (if_neg c_4372)
                refine lv_iconst (v := 0) hx hb dX12_tune_81 (by decide +kernel) (lv_istore (lv' := [(6, .int 0), (5, .int v_4256), (4, .int v_4257), (3, .int r_4080), (0, .ref m0), (2, .int y)]) hx hb dX12_tune_82 hl (by decide +kernel) rfl (fun ls hl => ?_))
                have lp_4411 : ∀ (nn_ : Nat) (v_4395 : Int32) (hv_4395 : 0 ≤ v_4395.toInt ∧ v_4395.toInt ≤ 6) (hr0_lp_4411 : WTu fw (u_4081.2.1 0) (u_4081.2.1 1) v_4256.toInt v_4257.toInt v_4395.toInt) (hn : (7 - v_4395.toInt : Int).toNat < nn_) (hE : E_v_tune x y thr fw fp fm = Lp (α := Int32 → (Int32 × (Nat → Int32) × (Nat → Int32))) (E_v_tune_l84 y fw (u_4081.2.1 0) (u_4081.2.1 1) v_4256 v_4257 rec_4370) (fun _ => ((0, fun _ => 0, fun _ => 0) : Int32 × (Nat → Int32) × (Nat → Int32))) nn_ v_4395) (H : Heap) (locs : List Loc) (hP : va_P D vwCl [(cc_O m0 12 [.int 0, m_1, m_2, .ref w0, m_4, m_5, m_6, m_7, m_8, m_9, m_10, m_11, m_12, m_13, m_14, m_15, m_16, m_17, m_18, m_19, m_20, m_21, m_22, m_23, m_24, m_25, m_26, m_27, m_28, m_29, m_30, m_31, m_32, m_33, m_34, m_35, m_36, m_37, m_38, m_39, m_40, m_41, m_42, m_43, m_44, m_45, m_46, .ref mo, .ref pl, m_49, m_50, m_51, m_52, m_53, m_54, m_55, m_56, m_57, m_58, m_59]), (cc_l w0 (K 0) 5500 fw), (cc_l pl (K 0) 8 (u_4081.2.1 0)), (cc_l mo (K 0) 1152 (u_4081.2.1 1))] H) (hD : va_D A [(cc_O m0 12 [.int 0, m_1, m_2, .ref w0, m_4, m_5, m_6, m_7, m_8, m_9, m_10, m_11, m_12, m_13, m_14, m_15, m_16, m_17, m_18, m_19, m_20, m_21, m_22, m_23, m_24, m_25, m_26, m_27, m_28, m_29, m_30, m_31, m_32, m_33, m_34, m_35, m_36, m_37, m_38, m_39, m_40, m_41, m_42, m_43, m_44, m_45, m_46, .ref mo, .ref pl, m_49, m_50, m_51, m_52, m_53, m_54, m_55, m_56, m_57, m_58, m_59]), (cc_l w0 (K 0) 5500 fw), (cc_l pl (K 0) 8 (u_4081.2.1 0)), (cc_l mo (K 0) 1152 (u_4081.2.1 1))]) (hS : va_S A s.heap H locs) (ls : Array Slot) (hl : lv_has ls 7 [(6, .int v_4395), (5, .int v_4256), (4, .int v_4257), (3, .int r_4080), (0, .ref m0), (2, .int y)]), W p l e ({ frames := 4, cells := 0, slots := 0, locals := 93 }) s m (([.ref m0, .int x, .int y] : List Value).toArray) below meth c H locs 0 0 Q (F0 m 84 ls []) := by
                  clear hE hP hD hS hl
                  intro nn_
                  induction nn_ with
                  | zero =>
                    intro v_4395 hv_4395 hr0_lp_4411 hn hE H locs hP hD hS ls hl
                    exact absurd hn (Nat.not_lt_zero _)
                  | succ nn_ ih_4412 =>
                    intro v_4395 hv_4395 hr0_lp_4411 hn hE H locs hP hD hS ls hl
                    replace hE : E_v_tune x y thr fw fp fm = E_v_tune_l84 y fw (u_4081.2.1 0) (u_4081.2.1 1) v_4256 v_4257 rec_4370 (Lp (α := Int32 → (Int32 × (Nat → Int32) × (Nat → Int32))) (E_v_tune_l84 y fw (u_4081.2.1 0) (u_4081.2.1 1) v_4256 v_4257 rec_4370) (fun _ => ((0, fun _ => 0, fun _ => 0) : Int32 × (Nat → Int32) × (Nat → Int32))) nn_) v_4395 := hE
                    obtain ⟨rec_4411, hrec_4411⟩ : ∃ z9, z9 = Lp (α := Int32 → (Int32 × (Nat → Int32) × (Nat → Int32))) (E_v_tune_l84 y fw (u_4081.2.1 0) (u_4081.2.1 1) v_4256 v_4257 rec_4370) (fun _ => ((0, fun _ => 0, fun _ => 0) : Int32 × (Nat → Int32) × (Nat → Int32))) nn_ := ⟨_, rfl⟩
                    rw [← hrec_4411] at hE
                    replace hE := hE.trans (E_v_tune_l84.eq_def _ _ _ _ _ _ _ _ _)
                    refine lv_aload_n hx hb dX12_tune_84 rfl (lv_at hl 4 rfl) (lv_iload hx hb dX12_tune_85 (lv_at hl 1 rfl) (lv_iload hx hb dX12_tune_87 (lv_at hl 2 rfl) (lv_iload hx hb dX12_tune_89 (lv_at hl 0 rfl) (pci (va_runV (As := [.int v_4256, .int v_4257, .int v_4395]) (rest := []) ⟨hx, hb, hml, hown, hts⟩ (v_movedBy l D K m0 v_4256 v_4257 v_4395 (.int 0) m_1 m_2 w0 m_4 m_5 m_6 m_7 m_8 m_9 m_10 m_11 m_12 m_13 m_14 m_15 m_16 m_17 m_18 m_19 m_20 m_21 m_22 m_23 m_24 m_25 m_26 m_27 m_28 m_29 m_30 m_31 m_32 m_33 m_34 m_35 m_36 m_37 m_38 m_39 m_40 m_41 m_42 m_43 m_44 m_45 m_46 mo pl m_49 m_50 m_51 m_52 m_53 m_54 m_55 m_56 m_57 m_58 m_59 fw (u_4081.2.1 0) (u_4081.2.1 1) H.size (by first | omega | decide) (by first | omega | decide) (by first | omega | decide) zfw k_4082 k_4083) (cwV 3 hts gX12_tune_X12_movedBy rfl rfl rfl (by decide +kernel) ⟨Nat.le_of_ble_eq_true rfl, Nat.le_of_ble_eq_true rfl⟩) (mkV hK hN (hP.sub [0, 1, 2, 3] rfl) (hD.sub [0, 1, 2, 3] (by decide +kernel) rfl) (ci := 12) (q0 := 0) rfl rfl) rfl rfl hl.1 rfl (lv_room (Nat.le_of_ble_eq_true rfl)) dX12_tune_91 ⟨Nat.le_of_ble_eq_true rfl, Nat.le_of_ble_eq_true rfl⟩) (fun r_4413 hw => ?_)))))
                    obtain ⟨hw, k_4414⟩ := hw
                    replace hE := hE.trans (Lt_in k_4414)
                    obtain ⟨⟨hmb_r_4413, hmr_r_4413⟩, -⟩ := hw
                    refine lv_aload_n hx hb dX12_tune_94 rfl (lv_at hl 4 rfl) (va_get (ci := 12) (v := .ref mo) (C := RX12) (T := TX12) (N := 60) hx hb hts hw12 hown hK hP 0 rfl rfl 47 (by decide +kernel) (hts _ mm_X12_tune_877) (fun _ h9 => h9) rfl dX12_tune_95 (lv_sipush (v := 128) hx hb dX12_tune_98 (by decide +kernel) (lv_iload hx hb dX12_tune_101 (lv_at hl 1 rfl) (lv_imul hx hb dX12_tune_103 (lv_topi (fun x_4415 ex_4415 => ?_))))))
                    replace hE := hE.trans (Lt_in ex_4415)
                    have hx_4415 : x_4415.toInt = (128 * v_4256.toInt) := by rw [ex_4415]; exact i_mul (show (128 : Int32).toInt = 128 from rfl) rfl (by omega)
                    refine lv_iload hx hb dX12_tune_104 (lv_at hl 2 rfl) (lv_iadd hx hb dX12_tune_106 (lv_topi (fun x_4416 ex_4416 => ?_)))
                    replace hE := hE.trans (Lt_in ex_4416)
                    have hx_4416 : x_4416.toInt = ((128 * v_4256.toInt) + v_4257.toInt) := by rw [ex_4416]; exact i_add hx_4415 rfl (by omega)
                    refine va_iald hx hb hK hP 3 0 rfl rfl (i_in hx_4416 (by omega)) dX12_tune_107 (lv_topi (fun x_4417 ex_4417 => ?_))
                    replace hE := hE.trans (Lt_in ex_4417)
                    have hx_4417 := Rg.at k_4083 hx_4416 (show 0 ≤ ((128 * v_4256.toInt) + v_4257.toInt) ∧ ((128 * v_4256.toInt) + v_4257.toInt) < _ by omega)
                    rw [← ex_4417] at hx_4417
                    have owx_4417 : x_4417.toInt = ((u_4081.2.1 1) (128 * v_4256.toInt + v_4257.toInt).toNat).toInt := by rw [ex_4417, i_clamp hx_4416]
                    refine lv_icmp_eq (tgt := 117) hx hb dX12_tune_108 (by decide +kernel) (fun c_4418 => ?_) (fun c_4418 => ?_)
                    · have c_4418i := i_eq (x := r_4413.toInt) (y := x_4417.toInt) rfl rfl c_4418
                      replace hE := hE.trans (if_pos c_4418)
                      refine lv_aload_n hx hb dX12_tune_117 rfl (lv_at hl 4 rfl) (va_get (ci := 12) (v := .ref pl) (C := RX12) (T := TX12) (N := 60) hx hb hts hw12 hown hK hP 0 rfl rfl 48 (by decide +kernel) (hts _ mm_X12_tune_878) (fun _ h9 => h9) rfl dX12_tune_118 (lv_iload hx hb dX12_tune_121 (lv_at hl 1 rfl) (va_iald hx hb hK hP 2 0 rfl rfl (i_in rfl (by omega)) dX12_tune_123 (lv_topi (fun x_4419 ex_4419 => ?_)))))
                      replace hE := hE.trans (Lt_in ex_4419)
                      have hx_4419 := Rg.at k_4082 rfl (show 0 ≤ v_4256.toInt ∧ v_4256.toInt < _ by omega)
                      rw [← ex_4419] at hx_4419
                      refine lv_iload_n hx hb dX12_tune_124 rfl (lv_at hl 5 rfl) (lv_iconst (v := 1) hx hb dX12_tune_125 (by decide +kernel) (lv_isub hx hb dX12_tune_126 (lv_topi (fun x_4420 ex_4420 => ?_))))
                      replace hE := hE.trans (Lt_in ex_4420)
                      have hx_4420 : x_4420.toInt = (y.toInt - 1) := by rw [ex_4420]; exact i_sub rfl (show (1 : Int32).toInt = 1 from rfl) (by omega)
                      refine lv_icmp_ne (tgt := 133) hx hb dX12_tune_127 (by decide +kernel) (fun c_4421 => ?_) (fun c_4421 => ?_)
                      · have c_4421i := i_ne (x := x_4419.toInt) (y := (y.toInt - 1)) rfl hx_4420 c_4421
                        replace hE := hE.trans (if_neg c_4421)
                        refine lv_iload hx hb dX12_tune_133 (lv_at hl 2 rfl) (lv_iconst (v := 1) hx hb dX12_tune_135 (by decide +kernel) (lv_iload hx hb dX12_tune_136 (lv_at hl 0 rfl) (lv_ishl hx hb dX12_tune_138 (lv_topi (fun x_4422 ex_4422 => ?_)))))
                        replace hE := hE.trans (Lt_in ex_4422)
                        have hx_4422 : 1 ≤ x_4422.toInt ∧ x_4422.toInt ≤ 64 := by rw [ex_4422]; exact i_shl1 rfl (n := 6) (by decide +kernel) (by omega)
                        refine lv_ior hx hb dX12_tune_139 (lv_topi (fun x_4423 ex_4423 => ?_))
                        replace hE := hE.trans (Lt_in ex_4423)
                        have hx_4423 : 0 ≤ x_4423.toInt ∧ x_4423.toInt < 128 := by rw [ex_4423]; exact i_or (k := 7) rfl rfl (by decide +kernel) (by omega) (by omega)
                        refine lv_istore (lv' := [(4, .int x_4423), (6, .int v_4395), (5, .int v_4256), (3, .int r_4080), (0, .ref m0), (2, .int y)]) hx hb dX12_tune_140 hl (by decide +kernel) rfl (fun ls hl => ?_)
                        obtain ⟨x_4424, ex_4424⟩ : ∃ y : Int32, y = v_4256 + Int32.ofInt 1 := ⟨_, rfl⟩
                        replace hE := hE.trans (Lt_in ex_4424)
                        have hx_4424 : x_4424.toInt = (v_4256.toInt + 1) := by rw [ex_4424]; exact i_add rfl (show (Int32.ofInt 1).toInt = 1 from rfl) (by omega)
                        refine lv_iinc (v := x_4424) (lv' := [(5, .int x_4424), (4, .int x_4423), (6, .int v_4395), (3, .int r_4080), (0, .ref m0), (2, .int y)]) hx hb dX12_tune_142 hl (k := 2) rfl (by rw [ex_4424]) (by decide +kernel) rfl (fun ls hl => ?_)
                        refine lv_goto (tgt := 75) hx hb dX12_tune_145 (by decide +kernel) ?_
                        exact ih_4371 x_4424 x_4423 (by rw [hx_4424]; omega) (by omega) (by omega) (hE.trans (by rw [hrec_4370])) _ _ hP hD hS ls (lv_sub hl [0, 1, 3, 4, 5] rfl)
                      · have c_4421i := i_eq (x := x_4419.toInt) (y := (y.toInt - 1)) rfl hx_4420 c_4421
                        replace hE := hE.trans (if_pos c_4421)
                        refine lv_iload hx hb dX12_tune_130 (lv_at hl 0 rfl) ?_
                        rw [← hQ]
                        have hP9 := hP.sub (ws' := [(cc_O m0 12 [.int 0, m_1, m_2, .ref w0, m_4, m_5, m_6, m_7, m_8, m_9, m_10, m_11, m_12, m_13, m_14, m_15, m_16, m_17, m_18, m_19, m_20, m_21, m_22, m_23, m_24, m_25, m_26, m_27, m_28, m_29, m_30, m_31, m_32, m_33, m_34, m_35, m_36, m_37, m_38, m_39, m_40, m_41, m_42, m_43, m_44, m_45, m_46, .ref mo, .ref pl, m_49, m_50, m_51, m_52, m_53, m_54, m_55, m_56, m_57, m_58, m_59]), (cc_l w0 (K 0) 5500 fw), (cc_l pl (K 0) 8 (u_4081.2.1 0)), (cc_l mo (K 0) 1152 (u_4081.2.1 1))]) [0, 1, 2, 3] rfl
                        have hD9 := sub_D hP9 hD [0, 1, 2, 3] (by decide +kernel) rfl
                        exact W.iret (v := v_4395) hx hb hr (fun t ht hW => ⟨⟨v_4395, ((fun _ => 0, fun i => match i with | 0 => (u_4081.2.1 0) | _ => (u_4081.2.1 1), fun _ => fun _ => 0, fun _ => 0, fun _ => 0, fun _ => fun _ => none) : Su), rfl, ⟨(show (-1) ≤ v_4395.toInt ∧ v_4395.toInt ≤ 100000000 by omega), k_4082, k_4083, hE.symm, trivial⟩, (⟨by rw [ht]; exact hP9, hD9⟩ : Wd D A _ t)⟩, hS.F ht⟩) hS.2.2 dX12_tune_132
                    · have c_4418i := i_ne (x := r_4413.toInt) (y := x_4417.toInt) rfl rfl c_4418
                      replace hE := hE.trans (if_neg c_4418)
                      obtain ⟨hwn1, hwn2⟩ := WTu.next hr0_lp_4411 hmb_r_4413 owx_4417 (by omega)
                      obtain ⟨x_4425, ex_4425⟩ : ∃ y : Int32, y = v_4395 + Int32.ofInt 1 := ⟨_, rfl⟩
                      replace hE := hE.trans (Lt_in ex_4425)
                      have hx_4425 : x_4425.toInt = (v_4395.toInt + 1) := by rw [ex_4425]; exact i_add rfl (show (Int32.ofInt 1).toInt = 1 from rfl) (by omega)
                      refine lv_iinc (v := x_4425) (lv' := [(6, .int x_4425), (5, .int v_4256), (4, .int v_4257), (3, .int r_4080), (0, .ref m0), (2, .int y)]) hx hb dX12_tune_111 hl (k := 0) rfl (by rw [ex_4425]) (by decide +kernel) rfl (fun ls hl => ?_)
                      refine lv_goto (tgt := 84) hx hb dX12_tune_114 (by decide +kernel) ?_
                      exact ih_4412 x_4425 (by rw [hx_4425]; omega) (show WTu fw (u_4081.2.1 0) (u_4081.2.1 1) v_4256.toInt v_4257.toInt (x_4425 : Int32).toInt by rw [hx_4425]; exact hwn2) (by omega) (hE.trans (by rw [hrec_4411])) _ _ hP hD hS ls (lv_sub hl [0, 1, 2, 3, 4, 5] rfl)
                have hz_4426 : (0 : Int32).toInt = 0 := rfl
                exact lp_4411 ((7 - (0 : Int32).toInt : Int).toNat + 1) 0 (by decide +kernel) (show WTu fw (u_4081.2.1 0) (u_4081.2.1 1) v_4256.toInt v_4257.toInt (0 : Int32).toInt by exact WTu.base k_4084 (by omega) (by omega)) (Nat.lt_succ_self _) hE _ _ hP hD hS ls (lv_sub hl [0, 1, 2, 3, 4, 5] rfl)
          exact lp_4370 ((9 - (0 : Int32).toInt : Int).toNat + 1) 0 0 (by decide +kernel) (by decide +kernel) (Nat.lt_succ_self _) hE _ _ hP hD hS ls (lv_sub hl [0, 1, 2, 3, 5] rfl)
        · have c_4087i := i_eq (x := y.toInt) (y := 0) rfl rfl c_4087
          replace hE := hE.trans (if_pos c_4087)
          refine lv_aload_n hx hb dX12_tune_62 rfl (lv_at hl 1 rfl) (va_get (ci := 12) (v := .ref mo) (C := RX12) (T := TX12) (N := 60) hx hb hts hw12 hown hK hP 0 rfl rfl 47 (by decide +kernel) (hts _ mm_X12_tune_877) (fun _ h9 => h9) rfl dX12_tune_63 (lv_iconst (v := 0) hx hb dX12_tune_66 (by decide +kernel) (va_iald hx hb hK hP 3 0 rfl rfl (i_in (x := 0) rfl (by omega)) dX12_tune_67 (lv_topi (fun x_4427 ex_4427 => ?_)))))
          replace hE := hE.trans (Lt_in ex_4427)
          have hx_4427 := Rg.at k_4083 (show (0 : Int32).toInt = 0 from rfl) (show 0 ≤ 0 ∧ 0 < _ by omega)
          rw [← ex_4427] at hx_4427
          rw [← hQ]
          have hP9 := hP.sub (ws' := [(cc_O m0 12 [.int 0, m_1, m_2, .ref w0, m_4, m_5, m_6, m_7, m_8, m_9, m_10, m_11, m_12, m_13, m_14, m_15, m_16, m_17, m_18, m_19, m_20, m_21, m_22, m_23, m_24, m_25, m_26, m_27, m_28, m_29, m_30, m_31, m_32, m_33, m_34, m_35, m_36, m_37, m_38, m_39, m_40, m_41, m_42, m_43, m_44, m_45, m_46, .ref mo, .ref pl, m_49, m_50, m_51, m_52, m_53, m_54, m_55, m_56, m_57, m_58, m_59]), (cc_l w0 (K 0) 5500 fw), (cc_l pl (K 0) 8 (u_4081.2.1 0)), (cc_l mo (K 0) 1152 (u_4081.2.1 1))]) [0, 1, 2, 3] rfl
          have hD9 := sub_D hP9 hD [0, 1, 2, 3] (by decide +kernel) rfl
          exact W.iret (v := x_4427) hx hb hr (fun t ht hW => ⟨⟨x_4427, ((fun _ => 0, fun i => match i with | 0 => (u_4081.2.1 0) | _ => (u_4081.2.1 1), fun _ => fun _ => 0, fun _ => 0, fun _ => 0, fun _ => fun _ => none) : Su), rfl, ⟨(show (-1) ≤ x_4427.toInt ∧ x_4427.toInt ≤ 100000000 by omega), k_4082, k_4083, hE.symm, trivial⟩, (⟨by rw [ht]; exact hP9, hD9⟩ : Wd D A _ t)⟩, hS.F ht⟩) hS.2.2 dX12_tune_68
      refine lv_if_le (tgt := 52) hx hb dX12_tune_22 (by decide +kernel) (fun c_4428 => ?_) (fun c_4428 => ?_)
      · have c_4428i := i_le (x := y.toInt) (y := 0) rfl rfl c_4428
        replace hE := hE.trans (if_pos c_4428)
        exact j_4079  (by omega) hE _ _ hP hD hS ls (lv_sub hl [0, 1, 2] rfl)
      · have c_4428i := i_nle (x := y.toInt) (y := 0) rfl rfl c_4428
        replace hE := hE.trans (if_neg c_4428)
        refine lv_aload_n hx hb dX12_tune_25 rfl (lv_at hl 0 rfl) (lv_iload_n hx hb dX12_tune_26 rfl (lv_at hl 2 rfl) (lv_iconst (v := 1) hx hb dX12_tune_27 (by decide +kernel) (lv_isub hx hb dX12_tune_28 (lv_topi (fun x_4429 ex_4429 => ?_)))))
        replace hE := hE.trans (Lt_in ex_4429)
        have hx_4429 : x_4429.toInt = (y.toInt - 1) := by rw [ex_4429]; exact i_sub rfl (show (1 : Int32).toInt = 1 from rfl) (by have q1 := i_rng (a := y) rfl; omega)
        refine pci (va_runV (As := [.int x_4429]) (rest := []) ⟨hx, hb, hml, hown, hts⟩ (v_isHouse l D K (y.toInt - 1) m0 x_4429 (.int 0) m_1 m_2 w0 m_4 m_5 m_6 m_7 m_8 m_9 m_10 m_11 m_12 m_13 m_14 m_15 m_16 m_17 m_18 m_19 m_20 m_21 m_22 m_23 m_24 m_25 m_26 m_27 m_28 m_29 m_30 m_31 m_32 m_33 m_34 m_35 m_36 m_37 m_38 m_39 m_40 m_41 m_42 m_43 m_44 m_45 m_46 (.ref mo) (.ref pl) m_49 m_50 m_51 m_52 m_53 m_54 m_55 m_56 m_57 m_58 m_59 fw H.size hx_4429 zfw) (cwV 1 hts gX12_tune_X12_isHouse rfl rfl rfl (by decide +kernel) ⟨Nat.le_of_ble_eq_true rfl, Nat.le_of_ble_eq_true rfl⟩) (mkV hK hN (hP.sub [0, 1] rfl) (hD.sub [0, 1] (by decide +kernel) rfl) (ci := 12) (q0 := 0) rfl rfl) rfl rfl hl.1 rfl (lv_room (Nat.le_of_ble_eq_true rfl)) dX12_tune_29 ⟨Nat.le_of_ble_eq_true rfl, Nat.le_of_ble_eq_true rfl⟩) (fun r_4430 hw => ?_)
        obtain ⟨hw, k_4431, -⟩ := hw
        replace hE := hE.trans (Lt_in k_4431)
        rcases hw with ⟨rfl, h_4432, h_4433⟩ | rfl
        · replace hE := (hE).trans (if_pos rfl)
          refine lv_if_eq (tgt := 50) hx hb dX12_tune_32 (by decide +kernel) (fun c_4434 => absurd c_4434 (by decide +kernel)) (fun c_4434 => ?_)
          refine lv_aload_n hx hb dX12_tune_35 rfl (lv_at hl 0 rfl) (va_get (ci := 12) (v := .ref w0) (C := RX12) (T := TX12) (N := 60) hx hb hts hw12 hown hK hP 0 rfl rfl 3 (by decide +kernel) (hts _ mm_X12_tune_833) (fun _ h9 => h9) rfl dX12_tune_36 (lv_bipush (v := 43) hx hb dX12_tune_39 (by decide +kernel) (lv_iload_n hx hb dX12_tune_41 rfl (lv_at hl 2 rfl) (lv_iadd hx hb dX12_tune_42 (lv_topi (fun x_4435 ex_4435 => ?_))))))
          replace hE := hE.trans (Lt_in ex_4435)
          have hx_4435 : x_4435.toInt = (43 + y.toInt) := by rw [ex_4435]; exact i_add (show (43 : Int32).toInt = 43 from rfl) rfl (by omega)
          refine lv_iconst (v := 1) hx hb dX12_tune_43 (by decide +kernel) (lv_isub hx hb dX12_tune_44 (lv_topi (fun x_4436 ex_4436 => ?_)))
          replace hE := hE.trans (Lt_in ex_4436)
          have hx_4436 : x_4436.toInt = ((43 + y.toInt) - 1) := by rw [ex_4436]; exact i_sub hx_4435 (show (1 : Int32).toInt = 1 from rfl) (by omega)
          refine va_iald hx hb hK hP 1 0 rfl rfl (i_in hx_4436 (by omega)) dX12_tune_45 (lv_topi (fun x_4437 ex_4437 => ?_))
          replace hE := hE.trans (Lt_in ex_4437)
          have px_4437 := RwOK.at zfw hx_4436 (show 0 ≤ ((43 + y.toInt) - 1) ∧ ((43 + y.toInt) - 1) < 100 by omega)
          rw [← ex_4437] at px_4437
          refine lv_iload_n hx hb dX12_tune_46 rfl (lv_at hl 1 rfl) (lv_icmp_eq (tgt := 52) hx hb dX12_tune_47 (by decide +kernel) (fun c_4438 => ?_) (fun c_4438 => ?_))
          · have c_4438i := i_eq (x := x_4437.toInt) (y := x.toInt) rfl rfl c_4438
            replace hE := hE.trans (if_pos c_4438)
            exact j_4079  (by omega) hE _ _ hP hD hS ls (lv_sub hl [0, 1, 2] rfl)
          · have c_4438i := i_ne (x := x_4437.toInt) (y := x.toInt) rfl rfl c_4438
            replace hE := hE.trans (if_neg c_4438)
            exact j_3711   hE _ _ hP hD hS ls (lv_sub hl [] rfl)
        · replace hE := (hE).trans (if_neg (by first | decide | (intro h9; have h8 := congrArg Int32.toInt h9; omega)))
          refine lv_if_eq (tgt := 50) hx hb dX12_tune_32 (by decide +kernel) (fun c_4439 => ?_) (fun c_4439 => absurd (by decide +kernel) c_4439)
          exact j_3711   hE _ _ hP hD hS ls (lv_sub hl [] rfl)
  · replace hE := (hE).trans (if_neg (by first | decide | (intro h9; have h8 := congrArg Int32.toInt h9; omega)))
    refine lv_if_eq (tgt := 50) hx hb dX12_tune_14 (by decide +kernel) (fun c_4440 => ?_) (fun c_4440 => absurd (by decide +kernel) c_4440)
    exact j_3711   hE _ _ hP hD hS ls (lv_sub hl [] rfl)
