theorem dX12_of_16 : decode cX12_of 16 = .ok (.tableswitch 182 0 10 #[60, 70, 80, 90, 100, 110, 120, 130, 144, 156, 168], 60) := by decide +kernel
theorem BX12_burnsOf_0 : bsegs (ByteArray.data cX12_burnsOf |>.toList.drop 0) 0 [(0, [42]), (1, [27]), (2, [3]), (3, [28]), (4, [2]), (5, [10]), (6, [182, 1, 159]), (9, [3]), (10, [16, 20]), (12, [184, 1, 163]), (15, [172])] = true := by decide +kernel
theorem dX12_burnsOf_0 : decode cX12_burnsOf 0 = .ok (.aload_n 0, 1) := dk_42 (bs_at BX12_burnsOf_0 0 rfl)
theorem dX12_burnsOf_1 : decode cX12_burnsOf 1 = .ok (.iload_n 1, 1) := dk_27 (bs_at BX12_burnsOf_0 1 rfl)
theorem dX12_burnsOf_2 : decode cX12_burnsOf 2 = .ok (.iconst 0, 1) := dk_3 (bs_at BX12_burnsOf_0 2 rfl)
theorem dX12_burnsOf_3 : decode cX12_burnsOf 3 = .ok (.iload_n 2, 1) := dk_28 (bs_at BX12_burnsOf_0 3 rfl)
theorem dX12_burnsOf_4 : decode cX12_burnsOf 4 = .ok (.iconst (-1), 1) := dk_2 (bs_at BX12_burnsOf_0 4 rfl)
theorem dX12_burnsOf_5 : decode cX12_burnsOf 5 = .ok (.lconst 1, 1) := dk_10 (bs_at BX12_burnsOf_0 5 rfl)
theorem dX12_burnsOf_6 : decode cX12_burnsOf 6 = .ok (.invokevirtual 415, 3) := dk_182 1 159 (bs_at BX12_burnsOf_0 6 rfl) rfl
theorem dX12_burnsOf_9 : decode cX12_burnsOf 9 = .ok (.iconst 0, 1) := dk_3 (bs_at BX12_burnsOf_0 7 rfl)
theorem dX12_burnsOf_10 : decode cX12_burnsOf 10 = .ok (.bipush 20, 2) := dk_16 20 (bs_at BX12_burnsOf_0 8 rfl) rfl
theorem dX12_burnsOf_12 : decode cX12_burnsOf 12 = .ok (.invokestatic 419, 3) := dk_184 1 163 (bs_at BX12_burnsOf_0 9 rfl) rfl
theorem dX12_burnsOf_15 : decode cX12_burnsOf 15 = .ok (.ireturn, 1) := dk_172 (bs_at BX12_burnsOf_0 10 rfl)
theorem BX12_flaresOf_0 : bsegs (ByteArray.data cX12_flaresOf |>.toList.drop 0) 0 [(0, [42]), (1, [27]), (2, [4]), (3, [28]), (4, [2]), (5, [20, 1, 167]), (8, [182, 1, 159]), (11, [3]), (12, [16, 20]), (14, [184, 1, 163]), (17, [172])] = true := by decide +kernel
theorem dX12_flaresOf_0 : decode cX12_flaresOf 0 = .ok (.aload_n 0, 1) := dk_42 (bs_at BX12_flaresOf_0 0 rfl)
theorem dX12_flaresOf_1 : decode cX12_flaresOf 1 = .ok (.iload_n 1, 1) := dk_27 (bs_at BX12_flaresOf_0 1 rfl)
theorem dX12_flaresOf_2 : decode cX12_flaresOf 2 = .ok (.iconst 1, 1) := dk_4 (bs_at BX12_flaresOf_0 2 rfl)
theorem dX12_flaresOf_3 : decode cX12_flaresOf 3 = .ok (.iload_n 2, 1) := dk_28 (bs_at BX12_flaresOf_0 3 rfl)
theorem dX12_flaresOf_4 : decode cX12_flaresOf 4 = .ok (.iconst (-1), 1) := dk_2 (bs_at BX12_flaresOf_0 4 rfl)
theorem dX12_flaresOf_5 : decode cX12_flaresOf 5 = .ok (.ldc2_w 423, 3) := dk_20 1 167 (bs_at BX12_flaresOf_0 5 rfl) rfl
theorem dX12_flaresOf_8 : decode cX12_flaresOf 8 = .ok (.invokevirtual 415, 3) := dk_182 1 159 (bs_at BX12_flaresOf_0 6 rfl) rfl
theorem dX12_flaresOf_11 : decode cX12_flaresOf 11 = .ok (.iconst 0, 1) := dk_3 (bs_at BX12_flaresOf_0 7 rfl)
theorem dX12_flaresOf_12 : decode cX12_flaresOf 12 = .ok (.bipush 20, 2) := dk_16 20 (bs_at BX12_flaresOf_0 8 rfl) rfl
theorem dX12_flaresOf_14 : decode cX12_flaresOf 14 = .ok (.invokestatic 419, 3) := dk_184 1 163 (bs_at BX12_flaresOf_0 9 rfl) rfl
theorem dX12_flaresOf_17 : decode cX12_flaresOf 17 = .ok (.ireturn, 1) := dk_172 (bs_at BX12_flaresOf_0 10 rfl)
theorem BX12_isBarred_0 : bsegs (ByteArray.data cX12_isBarred |>.toList.drop 0) 0 [(0, [42]), (1, [42]), (2, [180, 0, 13]), (5, [6]), (6, [46]), (7, [6]), (8, [27]), (9, [2]), (10, [9]), (11, [182, 1, 159]), (14, [10]), (15, [148]), (16, [154, 0, 7]), (19, [4]), (20, [167, 0, 4]), (23, [3]), (24, [172])] = true := by decide +kernel
theorem dX12_isBarred_0 : decode cX12_isBarred 0 = .ok (.aload_n 0, 1) := dk_42 (bs_at BX12_isBarred_0 0 rfl)
theorem dX12_isBarred_1 : decode cX12_isBarred 1 = .ok (.aload_n 0, 1) := dk_42 (bs_at BX12_isBarred_0 1 rfl)
theorem dX12_isBarred_2 : decode cX12_isBarred 2 = .ok (.getfield 13, 3) := dk_180 0 13 (bs_at BX12_isBarred_0 2 rfl) rfl
theorem dX12_isBarred_5 : decode cX12_isBarred 5 = .ok (.iconst 3, 1) := dk_6 (bs_at BX12_isBarred_0 3 rfl)
theorem dX12_isBarred_6 : decode cX12_isBarred 6 = .ok (.iaload, 1) := dk_46 (bs_at BX12_isBarred_0 4 rfl)
theorem dX12_isBarred_7 : decode cX12_isBarred 7 = .ok (.iconst 3, 1) := dk_6 (bs_at BX12_isBarred_0 5 rfl)
theorem dX12_isBarred_8 : decode cX12_isBarred 8 = .ok (.iload_n 1, 1) := dk_27 (bs_at BX12_isBarred_0 6 rfl)
theorem dX12_isBarred_9 : decode cX12_isBarred 9 = .ok (.iconst (-1), 1) := dk_2 (bs_at BX12_isBarred_0 7 rfl)
theorem dX12_isBarred_10 : decode cX12_isBarred 10 = .ok (.lconst 0, 1) := dk_9 (bs_at BX12_isBarred_0 8 rfl)
theorem dX12_isBarred_11 : decode cX12_isBarred 11 = .ok (.invokevirtual 415, 3) := dk_182 1 159 (bs_at BX12_isBarred_0 9 rfl) rfl
theorem dX12_isBarred_14 : decode cX12_isBarred 14 = .ok (.lconst 1, 1) := dk_10 (bs_at BX12_isBarred_0 10 rfl)
theorem dX12_isBarred_15 : decode cX12_isBarred 15 = .ok (.lcmp, 1) := dk_148 (bs_at BX12_isBarred_0 11 rfl)
theorem dX12_isBarred_16 : decode cX12_isBarred 16 = .ok (.ifCond .ne 7, 3) := dk_154 0 7 (bs_at BX12_isBarred_0 12 rfl) rfl
theorem dX12_isBarred_19 : decode cX12_isBarred 19 = .ok (.iconst 1, 1) := dk_4 (bs_at BX12_isBarred_0 13 rfl)
theorem dX12_isBarred_20 : decode cX12_isBarred 20 = .ok (.goto 4, 3) := dk_167 0 4 (bs_at BX12_isBarred_0 14 rfl) rfl
theorem dX12_isBarred_23 : decode cX12_isBarred 23 = .ok (.iconst 0, 1) := dk_3 (bs_at BX12_isBarred_0 15 rfl)
theorem dX12_isBarred_24 : decode cX12_isBarred 24 = .ok (.ireturn, 1) := dk_172 (bs_at BX12_isBarred_0 16 rfl)
theorem BX12_of_0 : bsegs (ByteArray.data cX12_of |>.toList.drop 0) 0 [(0, [42]), (1, [3]), (2, [181, 0, 158]), (5, [42]), (6, [27]), (7, [182, 0, 197]), (10, [154, 0, 5]), (13, [2]), (14, [172]), (15, [28]), (76, [42]), (77, [180, 0, 13]), (80, [16, 35]), (82, [27]), (83, [96]), (84, [46]), (85, [172]), (86, [42]), (87, [180, 0, 13]), (90, [16, 43]), (92, [27]), (93, [96]), (94, [46]), (95, [172])] = true := by decide +kernel
theorem dX12_of_0 : decode cX12_of 0 = .ok (.aload_n 0, 1) := dk_42 (bs_at BX12_of_0 0 rfl)
theorem dX12_of_1 : decode cX12_of 1 = .ok (.iconst 0, 1) := dk_3 (bs_at BX12_of_0 1 rfl)
theorem dX12_of_2 : decode cX12_of 2 = .ok (.putfield 158, 3) := dk_181 0 158 (bs_at BX12_of_0 2 rfl) rfl
theorem dX12_of_5 : decode cX12_of 5 = .ok (.aload_n 0, 1) := dk_42 (bs_at BX12_of_0 3 rfl)
theorem dX12_of_6 : decode cX12_of 6 = .ok (.iload_n 1, 1) := dk_27 (bs_at BX12_of_0 4 rfl)
theorem dX12_of_7 : decode cX12_of 7 = .ok (.invokevirtual 197, 3) := dk_182 0 197 (bs_at BX12_of_0 5 rfl) rfl
theorem dX12_of_10 : decode cX12_of 10 = .ok (.ifCond .ne 5, 3) := dk_154 0 5 (bs_at BX12_of_0 6 rfl) rfl
theorem dX12_of_13 : decode cX12_of 13 = .ok (.iconst (-1), 1) := dk_2 (bs_at BX12_of_0 7 rfl)
theorem dX12_of_14 : decode cX12_of 14 = .ok (.ireturn, 1) := dk_172 (bs_at BX12_of_0 8 rfl)
theorem dX12_of_15 : decode cX12_of 15 = .ok (.iload_n 2, 1) := dk_28 (bs_at BX12_of_0 9 rfl)
theorem dX12_of_76 : decode cX12_of 76 = .ok (.aload_n 0, 1) := dk_42 (bs_at BX12_of_0 10 rfl)
theorem dX12_of_77 : decode cX12_of 77 = .ok (.getfield 13, 3) := dk_180 0 13 (bs_at BX12_of_0 11 rfl) rfl
theorem dX12_of_80 : decode cX12_of 80 = .ok (.bipush 35, 2) := dk_16 35 (bs_at BX12_of_0 12 rfl) rfl
theorem dX12_of_82 : decode cX12_of 82 = .ok (.iload_n 1, 1) := dk_27 (bs_at BX12_of_0 13 rfl)
theorem dX12_of_83 : decode cX12_of 83 = .ok (.iadd, 1) := dk_96 (bs_at BX12_of_0 14 rfl)
theorem dX12_of_84 : decode cX12_of 84 = .ok (.iaload, 1) := dk_46 (bs_at BX12_of_0 15 rfl)
theorem dX12_of_85 : decode cX12_of 85 = .ok (.ireturn, 1) := dk_172 (bs_at BX12_of_0 16 rfl)
theorem dX12_of_86 : decode cX12_of 86 = .ok (.aload_n 0, 1) := dk_42 (bs_at BX12_of_0 17 rfl)
theorem dX12_of_87 : decode cX12_of 87 = .ok (.getfield 13, 3) := dk_180 0 13 (bs_at BX12_of_0 18 rfl) rfl
theorem dX12_of_90 : decode cX12_of 90 = .ok (.bipush 43, 2) := dk_16 43 (bs_at BX12_of_0 19 rfl) rfl
theorem dX12_of_92 : decode cX12_of 92 = .ok (.iload_n 1, 1) := dk_27 (bs_at BX12_of_0 20 rfl)
theorem dX12_of_93 : decode cX12_of 93 = .ok (.iadd, 1) := dk_96 (bs_at BX12_of_0 21 rfl)
theorem dX12_of_94 : decode cX12_of 94 = .ok (.iaload, 1) := dk_46 (bs_at BX12_of_0 22 rfl)
theorem dX12_of_95 : decode cX12_of 95 = .ok (.ireturn, 1) := dk_172 (bs_at BX12_of_0 23 rfl)
theorem BX12_of_96 : bsegs (ByteArray.data cX12_of |>.toList.drop 96) 96 [(96, [42]), (97, [180, 0, 13]), (100, [16, 19]), (102, [27]), (103, [96]), (104, [46]), (105, [172]), (106, [42]), (107, [180, 0, 13]), (110, [16, 51]), (112, [27]), (113, [96]), (114, [46]), (115, [172]), (116, [42]), (117, [180, 0, 13]), (120, [16, 59]), (122, [27]), (123, [96]), (124, [46]), (125, [172]), (126, [42]), (127, [180, 0, 13]), (130, [16, 11])] = true := by decide +kernel
theorem dX12_of_96 : decode cX12_of 96 = .ok (.aload_n 0, 1) := dk_42 (bs_at BX12_of_96 0 rfl)
theorem dX12_of_97 : decode cX12_of 97 = .ok (.getfield 13, 3) := dk_180 0 13 (bs_at BX12_of_96 1 rfl) rfl
theorem dX12_of_100 : decode cX12_of 100 = .ok (.bipush 19, 2) := dk_16 19 (bs_at BX12_of_96 2 rfl) rfl
theorem dX12_of_102 : decode cX12_of 102 = .ok (.iload_n 1, 1) := dk_27 (bs_at BX12_of_96 3 rfl)
theorem dX12_of_103 : decode cX12_of 103 = .ok (.iadd, 1) := dk_96 (bs_at BX12_of_96 4 rfl)
theorem dX12_of_104 : decode cX12_of 104 = .ok (.iaload, 1) := dk_46 (bs_at BX12_of_96 5 rfl)
theorem dX12_of_105 : decode cX12_of 105 = .ok (.ireturn, 1) := dk_172 (bs_at BX12_of_96 6 rfl)
theorem dX12_of_106 : decode cX12_of 106 = .ok (.aload_n 0, 1) := dk_42 (bs_at BX12_of_96 7 rfl)
theorem dX12_of_107 : decode cX12_of 107 = .ok (.getfield 13, 3) := dk_180 0 13 (bs_at BX12_of_96 8 rfl) rfl
theorem dX12_of_110 : decode cX12_of 110 = .ok (.bipush 51, 2) := dk_16 51 (bs_at BX12_of_96 9 rfl) rfl
theorem dX12_of_112 : decode cX12_of 112 = .ok (.iload_n 1, 1) := dk_27 (bs_at BX12_of_96 10 rfl)
theorem dX12_of_113 : decode cX12_of 113 = .ok (.iadd, 1) := dk_96 (bs_at BX12_of_96 11 rfl)
theorem dX12_of_114 : decode cX12_of 114 = .ok (.iaload, 1) := dk_46 (bs_at BX12_of_96 12 rfl)
theorem dX12_of_115 : decode cX12_of 115 = .ok (.ireturn, 1) := dk_172 (bs_at BX12_of_96 13 rfl)
theorem dX12_of_116 : decode cX12_of 116 = .ok (.aload_n 0, 1) := dk_42 (bs_at BX12_of_96 14 rfl)
theorem dX12_of_117 : decode cX12_of 117 = .ok (.getfield 13, 3) := dk_180 0 13 (bs_at BX12_of_96 15 rfl) rfl
theorem dX12_of_120 : decode cX12_of 120 = .ok (.bipush 59, 2) := dk_16 59 (bs_at BX12_of_96 16 rfl) rfl
theorem dX12_of_122 : decode cX12_of 122 = .ok (.iload_n 1, 1) := dk_27 (bs_at BX12_of_96 17 rfl)
theorem dX12_of_123 : decode cX12_of 123 = .ok (.iadd, 1) := dk_96 (bs_at BX12_of_96 18 rfl)
theorem dX12_of_124 : decode cX12_of 124 = .ok (.iaload, 1) := dk_46 (bs_at BX12_of_96 19 rfl)
theorem dX12_of_125 : decode cX12_of 125 = .ok (.ireturn, 1) := dk_172 (bs_at BX12_of_96 20 rfl)
theorem dX12_of_126 : decode cX12_of 126 = .ok (.aload_n 0, 1) := dk_42 (bs_at BX12_of_96 21 rfl)
theorem dX12_of_127 : decode cX12_of 127 = .ok (.getfield 13, 3) := dk_180 0 13 (bs_at BX12_of_96 22 rfl) rfl
theorem dX12_of_130 : decode cX12_of 130 = .ok (.bipush 11, 2) := dk_16 11 (bs_at BX12_of_96 23 rfl) rfl
theorem BX12_of_132 : bsegs (ByteArray.data cX12_of |>.toList.drop 132) 132 [(132, [27]), (133, [96]), (134, [46]), (135, [172]), (136, [42]), (137, [180, 0, 13]), (140, [16, 27]), (142, [27]), (143, [96]), (144, [46]), (145, [172]), (146, [42]), (147, [27]), (148, [182, 0, 185]), (151, [153, 0, 7]), (154, [4]), (155, [167, 0, 4]), (158, [3]), (159, [172]), (160, [42]), (161, [42]), (162, [180, 0, 13]), (165, [6]), (166, [46])] = true := by decide +kernel
theorem dX12_of_132 : decode cX12_of 132 = .ok (.iload_n 1, 1) := dk_27 (bs_at BX12_of_132 0 rfl)
theorem dX12_of_133 : decode cX12_of 133 = .ok (.iadd, 1) := dk_96 (bs_at BX12_of_132 1 rfl)
theorem dX12_of_134 : decode cX12_of 134 = .ok (.iaload, 1) := dk_46 (bs_at BX12_of_132 2 rfl)
theorem dX12_of_135 : decode cX12_of 135 = .ok (.ireturn, 1) := dk_172 (bs_at BX12_of_132 3 rfl)
theorem dX12_of_136 : decode cX12_of 136 = .ok (.aload_n 0, 1) := dk_42 (bs_at BX12_of_132 4 rfl)
theorem dX12_of_137 : decode cX12_of 137 = .ok (.getfield 13, 3) := dk_180 0 13 (bs_at BX12_of_132 5 rfl) rfl
theorem dX12_of_140 : decode cX12_of 140 = .ok (.bipush 27, 2) := dk_16 27 (bs_at BX12_of_132 6 rfl) rfl
theorem dX12_of_142 : decode cX12_of 142 = .ok (.iload_n 1, 1) := dk_27 (bs_at BX12_of_132 7 rfl)
theorem dX12_of_143 : decode cX12_of 143 = .ok (.iadd, 1) := dk_96 (bs_at BX12_of_132 8 rfl)
theorem dX12_of_144 : decode cX12_of 144 = .ok (.iaload, 1) := dk_46 (bs_at BX12_of_132 9 rfl)
theorem dX12_of_145 : decode cX12_of 145 = .ok (.ireturn, 1) := dk_172 (bs_at BX12_of_132 10 rfl)
theorem dX12_of_146 : decode cX12_of 146 = .ok (.aload_n 0, 1) := dk_42 (bs_at BX12_of_132 11 rfl)
theorem dX12_of_147 : decode cX12_of 147 = .ok (.iload_n 1, 1) := dk_27 (bs_at BX12_of_132 12 rfl)
theorem dX12_of_148 : decode cX12_of 148 = .ok (.invokevirtual 185, 3) := dk_182 0 185 (bs_at BX12_of_132 13 rfl) rfl
theorem dX12_of_151 : decode cX12_of 151 = .ok (.ifCond .eq 7, 3) := dk_153 0 7 (bs_at BX12_of_132 14 rfl) rfl
theorem dX12_of_154 : decode cX12_of 154 = .ok (.iconst 1, 1) := dk_4 (bs_at BX12_of_132 15 rfl)
theorem dX12_of_155 : decode cX12_of 155 = .ok (.goto 4, 3) := dk_167 0 4 (bs_at BX12_of_132 16 rfl) rfl
theorem dX12_of_158 : decode cX12_of 158 = .ok (.iconst 0, 1) := dk_3 (bs_at BX12_of_132 17 rfl)
theorem dX12_of_159 : decode cX12_of 159 = .ok (.ireturn, 1) := dk_172 (bs_at BX12_of_132 18 rfl)
theorem dX12_of_160 : decode cX12_of 160 = .ok (.aload_n 0, 1) := dk_42 (bs_at BX12_of_132 19 rfl)
theorem dX12_of_161 : decode cX12_of 161 = .ok (.aload_n 0, 1) := dk_42 (bs_at BX12_of_132 20 rfl)
theorem dX12_of_162 : decode cX12_of 162 = .ok (.getfield 13, 3) := dk_180 0 13 (bs_at BX12_of_132 21 rfl) rfl
theorem dX12_of_165 : decode cX12_of 165 = .ok (.iconst 3, 1) := dk_6 (bs_at BX12_of_132 22 rfl)
theorem dX12_of_166 : decode cX12_of 166 = .ok (.iaload, 1) := dk_46 (bs_at BX12_of_132 23 rfl)
theorem BX12_of_167 : bsegs (ByteArray.data cX12_of |>.toList.drop 167) 167 [(167, [27]), (168, [182, 0, 200]), (171, [172]), (172, [42]), (173, [42]), (174, [180, 0, 13]), (177, [6]), (178, [46]), (179, [27]), (180, [182, 0, 204]), (183, [172]), (184, [42]), (185, [27]), (186, [182, 0, 207]), (189, [153, 0, 7]), (192, [4]), (193, [167, 0, 4]), (196, [3]), (197, [172]), (198, [2]), (199, [172])] = true := by decide +kernel
theorem dX12_of_167 : decode cX12_of 167 = .ok (.iload_n 1, 1) := dk_27 (bs_at BX12_of_167 0 rfl)
theorem dX12_of_168 : decode cX12_of 168 = .ok (.invokevirtual 200, 3) := dk_182 0 200 (bs_at BX12_of_167 1 rfl) rfl
theorem dX12_of_171 : decode cX12_of 171 = .ok (.ireturn, 1) := dk_172 (bs_at BX12_of_167 2 rfl)
theorem dX12_of_172 : decode cX12_of 172 = .ok (.aload_n 0, 1) := dk_42 (bs_at BX12_of_167 3 rfl)
theorem dX12_of_173 : decode cX12_of 173 = .ok (.aload_n 0, 1) := dk_42 (bs_at BX12_of_167 4 rfl)
theorem dX12_of_174 : decode cX12_of 174 = .ok (.getfield 13, 3) := dk_180 0 13 (bs_at BX12_of_167 5 rfl) rfl
theorem dX12_of_177 : decode cX12_of 177 = .ok (.iconst 3, 1) := dk_6 (bs_at BX12_of_167 6 rfl)
theorem dX12_of_178 : decode cX12_of 178 = .ok (.iaload, 1) := dk_46 (bs_at BX12_of_167 7 rfl)
theorem dX12_of_179 : decode cX12_of 179 = .ok (.iload_n 1, 1) := dk_27 (bs_at BX12_of_167 8 rfl)
theorem dX12_of_180 : decode cX12_of 180 = .ok (.invokevirtual 204, 3) := dk_182 0 204 (bs_at BX12_of_167 9 rfl) rfl
theorem dX12_of_183 : decode cX12_of 183 = .ok (.ireturn, 1) := dk_172 (bs_at BX12_of_167 10 rfl)
theorem dX12_of_184 : decode cX12_of 184 = .ok (.aload_n 0, 1) := dk_42 (bs_at BX12_of_167 11 rfl)
theorem dX12_of_185 : decode cX12_of 185 = .ok (.iload_n 1, 1) := dk_27 (bs_at BX12_of_167 12 rfl)
theorem dX12_of_186 : decode cX12_of 186 = .ok (.invokevirtual 207, 3) := dk_182 0 207 (bs_at BX12_of_167 13 rfl) rfl
theorem dX12_of_189 : decode cX12_of 189 = .ok (.ifCond .eq 7, 3) := dk_153 0 7 (bs_at BX12_of_167 14 rfl) rfl
theorem dX12_of_192 : decode cX12_of 192 = .ok (.iconst 1, 1) := dk_4 (bs_at BX12_of_167 15 rfl)
theorem dX12_of_193 : decode cX12_of 193 = .ok (.goto 4, 3) := dk_167 0 4 (bs_at BX12_of_167 16 rfl) rfl
theorem dX12_of_196 : decode cX12_of 196 = .ok (.iconst 0, 1) := dk_3 (bs_at BX12_of_167 17 rfl)
theorem dX12_of_197 : decode cX12_of 197 = .ok (.ireturn, 1) := dk_172 (bs_at BX12_of_167 18 rfl)
theorem dX12_of_198 : decode cX12_of 198 = .ok (.iconst (-1), 1) := dk_2 (bs_at BX12_of_167 19 rfl)
theorem dX12_of_199 : decode cX12_of 199 = .ok (.ireturn, 1) := dk_172 (bs_at BX12_of_167 20 rfl)
theorem BX12_discords_0 : bsegs (ByteArray.data cX12_discords |>.toList.drop 0) 0 [(0, [3]), (1, [60]), (2, [3]), (3, [61]), (4, [28]), (5, [42]), (6, [180, 0, 13]), (9, [3]), (10, [46]), (11, [162, 0, 122]), (14, [28]), (15, [4]), (16, [96]), (17, [62]), (18, [29]), (19, [42]), (20, [180, 0, 13]), (23, [3]), (24, [46]), (25, [162, 0, 102]), (28, [42]), (29, [28]), (30, [182, 0, 185]), (33, [153, 0, 88])] = true := by decide +kernel
theorem dX12_discords_0 : decode cX12_discords 0 = .ok (.iconst 0, 1) := dk_3 (bs_at BX12_discords_0 0 rfl)
theorem dX12_discords_1 : decode cX12_discords 1 = .ok (.istore_n 1, 1) := dk_60 (bs_at BX12_discords_0 1 rfl)
theorem dX12_discords_2 : decode cX12_discords 2 = .ok (.iconst 0, 1) := dk_3 (bs_at BX12_discords_0 2 rfl)
theorem dX12_discords_3 : decode cX12_discords 3 = .ok (.istore_n 2, 1) := dk_61 (bs_at BX12_discords_0 3 rfl)
theorem dX12_discords_4 : decode cX12_discords 4 = .ok (.iload_n 2, 1) := dk_28 (bs_at BX12_discords_0 4 rfl)
theorem dX12_discords_5 : decode cX12_discords 5 = .ok (.aload_n 0, 1) := dk_42 (bs_at BX12_discords_0 5 rfl)
theorem dX12_discords_6 : decode cX12_discords 6 = .ok (.getfield 13, 3) := dk_180 0 13 (bs_at BX12_discords_0 6 rfl) rfl
theorem dX12_discords_9 : decode cX12_discords 9 = .ok (.iconst 0, 1) := dk_3 (bs_at BX12_discords_0 7 rfl)
theorem dX12_discords_10 : decode cX12_discords 10 = .ok (.iaload, 1) := dk_46 (bs_at BX12_discords_0 8 rfl)
theorem dX12_discords_11 : decode cX12_discords 11 = .ok (.if_icmp .ge 122, 3) := dk_162 0 122 (bs_at BX12_discords_0 9 rfl) rfl
theorem dX12_discords_14 : decode cX12_discords 14 = .ok (.iload_n 2, 1) := dk_28 (bs_at BX12_discords_0 10 rfl)
theorem dX12_discords_15 : decode cX12_discords 15 = .ok (.iconst 1, 1) := dk_4 (bs_at BX12_discords_0 11 rfl)
theorem dX12_discords_16 : decode cX12_discords 16 = .ok (.iadd, 1) := dk_96 (bs_at BX12_discords_0 12 rfl)
theorem dX12_discords_17 : decode cX12_discords 17 = .ok (.istore_n 3, 1) := dk_62 (bs_at BX12_discords_0 13 rfl)
theorem dX12_discords_18 : decode cX12_discords 18 = .ok (.iload_n 3, 1) := dk_29 (bs_at BX12_discords_0 14 rfl)
theorem dX12_discords_19 : decode cX12_discords 19 = .ok (.aload_n 0, 1) := dk_42 (bs_at BX12_discords_0 15 rfl)
theorem dX12_discords_20 : decode cX12_discords 20 = .ok (.getfield 13, 3) := dk_180 0 13 (bs_at BX12_discords_0 16 rfl) rfl
theorem dX12_discords_23 : decode cX12_discords 23 = .ok (.iconst 0, 1) := dk_3 (bs_at BX12_discords_0 17 rfl)
theorem dX12_discords_24 : decode cX12_discords 24 = .ok (.iaload, 1) := dk_46 (bs_at BX12_discords_0 18 rfl)
theorem dX12_discords_25 : decode cX12_discords 25 = .ok (.if_icmp .ge 102, 3) := dk_162 0 102 (bs_at BX12_discords_0 19 rfl) rfl
theorem dX12_discords_28 : decode cX12_discords 28 = .ok (.aload_n 0, 1) := dk_42 (bs_at BX12_discords_0 20 rfl)
theorem dX12_discords_29 : decode cX12_discords 29 = .ok (.iload_n 2, 1) := dk_28 (bs_at BX12_discords_0 21 rfl)
theorem dX12_discords_30 : decode cX12_discords 30 = .ok (.invokevirtual 185, 3) := dk_182 0 185 (bs_at BX12_discords_0 22 rfl) rfl
theorem dX12_discords_33 : decode cX12_discords 33 = .ok (.ifCond .eq 88, 3) := dk_153 0 88 (bs_at BX12_discords_0 23 rfl) rfl
theorem BX12_discords_36 : bsegs (ByteArray.data cX12_discords |>.toList.drop 36) 36 [(36, [42]), (37, [29]), (38, [182, 0, 185]), (41, [153, 0, 80]), (44, [42]), (45, [180, 0, 13]), (48, [16, 43]), (50, [28]), (51, [96]), (52, [46]), (53, [42]), (54, [180, 0, 13]), (57, [16, 43]), (59, [29]), (60, [96]), (61, [46]), (62, [160, 0, 59]), (65, [42]), (66, [180, 0, 13]), (69, [16, 35]), (71, [28]), (72, [96]), (73, [46]), (74, [42])] = true := by decide +kernel
theorem dX12_discords_36 : decode cX12_discords 36 = .ok (.aload_n 0, 1) := dk_42 (bs_at BX12_discords_36 0 rfl)
theorem dX12_discords_37 : decode cX12_discords 37 = .ok (.iload_n 3, 1) := dk_29 (bs_at BX12_discords_36 1 rfl)
theorem dX12_discords_38 : decode cX12_discords 38 = .ok (.invokevirtual 185, 3) := dk_182 0 185 (bs_at BX12_discords_36 2 rfl) rfl
theorem dX12_discords_41 : decode cX12_discords 41 = .ok (.ifCond .eq 80, 3) := dk_153 0 80 (bs_at BX12_discords_36 3 rfl) rfl
theorem dX12_discords_44 : decode cX12_discords 44 = .ok (.aload_n 0, 1) := dk_42 (bs_at BX12_discords_36 4 rfl)
theorem dX12_discords_45 : decode cX12_discords 45 = .ok (.getfield 13, 3) := dk_180 0 13 (bs_at BX12_discords_36 5 rfl) rfl
theorem dX12_discords_48 : decode cX12_discords 48 = .ok (.bipush 43, 2) := dk_16 43 (bs_at BX12_discords_36 6 rfl) rfl
theorem dX12_discords_50 : decode cX12_discords 50 = .ok (.iload_n 2, 1) := dk_28 (bs_at BX12_discords_36 7 rfl)
theorem dX12_discords_51 : decode cX12_discords 51 = .ok (.iadd, 1) := dk_96 (bs_at BX12_discords_36 8 rfl)
theorem dX12_discords_52 : decode cX12_discords 52 = .ok (.iaload, 1) := dk_46 (bs_at BX12_discords_36 9 rfl)
theorem dX12_discords_53 : decode cX12_discords 53 = .ok (.aload_n 0, 1) := dk_42 (bs_at BX12_discords_36 10 rfl)
theorem dX12_discords_54 : decode cX12_discords 54 = .ok (.getfield 13, 3) := dk_180 0 13 (bs_at BX12_discords_36 11 rfl) rfl
theorem dX12_discords_57 : decode cX12_discords 57 = .ok (.bipush 43, 2) := dk_16 43 (bs_at BX12_discords_36 12 rfl) rfl
theorem dX12_discords_59 : decode cX12_discords 59 = .ok (.iload_n 3, 1) := dk_29 (bs_at BX12_discords_36 13 rfl)
theorem dX12_discords_60 : decode cX12_discords 60 = .ok (.iadd, 1) := dk_96 (bs_at BX12_discords_36 14 rfl)
theorem dX12_discords_61 : decode cX12_discords 61 = .ok (.iaload, 1) := dk_46 (bs_at BX12_discords_36 15 rfl)
theorem dX12_discords_62 : decode cX12_discords 62 = .ok (.if_icmp .ne 59, 3) := dk_160 0 59 (bs_at BX12_discords_36 16 rfl) rfl
theorem dX12_discords_65 : decode cX12_discords 65 = .ok (.aload_n 0, 1) := dk_42 (bs_at BX12_discords_36 17 rfl)
theorem dX12_discords_66 : decode cX12_discords 66 = .ok (.getfield 13, 3) := dk_180 0 13 (bs_at BX12_discords_36 18 rfl) rfl
theorem dX12_discords_69 : decode cX12_discords 69 = .ok (.bipush 35, 2) := dk_16 35 (bs_at BX12_discords_36 19 rfl) rfl
theorem dX12_discords_71 : decode cX12_discords 71 = .ok (.iload_n 2, 1) := dk_28 (bs_at BX12_discords_36 20 rfl)
theorem dX12_discords_72 : decode cX12_discords 72 = .ok (.iadd, 1) := dk_96 (bs_at BX12_discords_36 21 rfl)
theorem dX12_discords_73 : decode cX12_discords 73 = .ok (.iaload, 1) := dk_46 (bs_at BX12_discords_36 22 rfl)
theorem dX12_discords_74 : decode cX12_discords 74 = .ok (.aload_n 0, 1) := dk_42 (bs_at BX12_discords_36 23 rfl)
theorem BX12_discords_75 : bsegs (ByteArray.data cX12_discords |>.toList.drop 75) 75 [(75, [180, 0, 13]), (78, [16, 35]), (80, [29]), (81, [96]), (82, [46]), (83, [184, 1, 169]), (86, [153, 0, 35]), (89, [27]), (90, [42]), (91, [42]), (92, [180, 0, 13]), (95, [6]), (96, [46]), (97, [5]), (98, [28]), (99, [42]), (100, [180, 0, 13]), (103, [16, 35]), (105, [29]), (106, [96]), (107, [46]), (108, [10]), (109, [182, 1, 159]), (112, [3])] = true := by decide +kernel
theorem dX12_discords_75 : decode cX12_discords 75 = .ok (.getfield 13, 3) := dk_180 0 13 (bs_at BX12_discords_75 0 rfl) rfl
theorem dX12_discords_78 : decode cX12_discords 78 = .ok (.bipush 35, 2) := dk_16 35 (bs_at BX12_discords_75 1 rfl) rfl
theorem dX12_discords_80 : decode cX12_discords 80 = .ok (.iload_n 3, 1) := dk_29 (bs_at BX12_discords_75 2 rfl)
theorem dX12_discords_81 : decode cX12_discords 81 = .ok (.iadd, 1) := dk_96 (bs_at BX12_discords_75 3 rfl)
theorem dX12_discords_82 : decode cX12_discords 82 = .ok (.iaload, 1) := dk_46 (bs_at BX12_discords_75 4 rfl)
theorem dX12_discords_83 : decode cX12_discords 83 = .ok (.invokestatic 425, 3) := dk_184 1 169 (bs_at BX12_discords_75 5 rfl) rfl
theorem dX12_discords_86 : decode cX12_discords 86 = .ok (.ifCond .eq 35, 3) := dk_153 0 35 (bs_at BX12_discords_75 6 rfl) rfl
theorem dX12_discords_89 : decode cX12_discords 89 = .ok (.iload_n 1, 1) := dk_27 (bs_at BX12_discords_75 7 rfl)
theorem dX12_discords_90 : decode cX12_discords 90 = .ok (.aload_n 0, 1) := dk_42 (bs_at BX12_discords_75 8 rfl)
theorem dX12_discords_91 : decode cX12_discords 91 = .ok (.aload_n 0, 1) := dk_42 (bs_at BX12_discords_75 9 rfl)
theorem dX12_discords_92 : decode cX12_discords 92 = .ok (.getfield 13, 3) := dk_180 0 13 (bs_at BX12_discords_75 10 rfl) rfl
theorem dX12_discords_95 : decode cX12_discords 95 = .ok (.iconst 3, 1) := dk_6 (bs_at BX12_discords_75 11 rfl)
theorem dX12_discords_96 : decode cX12_discords 96 = .ok (.iaload, 1) := dk_46 (bs_at BX12_discords_75 12 rfl)
theorem dX12_discords_97 : decode cX12_discords 97 = .ok (.iconst 2, 1) := dk_5 (bs_at BX12_discords_75 13 rfl)
theorem dX12_discords_98 : decode cX12_discords 98 = .ok (.iload_n 2, 1) := dk_28 (bs_at BX12_discords_75 14 rfl)
theorem dX12_discords_99 : decode cX12_discords 99 = .ok (.aload_n 0, 1) := dk_42 (bs_at BX12_discords_75 15 rfl)
theorem dX12_discords_100 : decode cX12_discords 100 = .ok (.getfield 13, 3) := dk_180 0 13 (bs_at BX12_discords_75 16 rfl) rfl
theorem dX12_discords_103 : decode cX12_discords 103 = .ok (.bipush 35, 2) := dk_16 35 (bs_at BX12_discords_75 17 rfl) rfl
theorem dX12_discords_105 : decode cX12_discords 105 = .ok (.iload_n 3, 1) := dk_29 (bs_at BX12_discords_75 18 rfl)
theorem dX12_discords_106 : decode cX12_discords 106 = .ok (.iadd, 1) := dk_96 (bs_at BX12_discords_75 19 rfl)
theorem dX12_discords_107 : decode cX12_discords 107 = .ok (.iaload, 1) := dk_46 (bs_at BX12_discords_75 20 rfl)
theorem dX12_discords_108 : decode cX12_discords 108 = .ok (.lconst 1, 1) := dk_10 (bs_at BX12_discords_75 21 rfl)
theorem dX12_discords_109 : decode cX12_discords 109 = .ok (.invokevirtual 415, 3) := dk_182 1 159 (bs_at BX12_discords_75 22 rfl) rfl
theorem dX12_discords_112 : decode cX12_discords 112 = .ok (.iconst 0, 1) := dk_3 (bs_at BX12_discords_75 23 rfl)
theorem BX12_discords_113 : bsegs (ByteArray.data cX12_discords |>.toList.drop 113) 113 [(113, [17, 3, 231]), (116, [184, 1, 163]), (119, [96]), (120, [60]), (121, [132, 3, 1]), (124, [167, 255, 150]), (127, [132, 2, 1]), (130, [167, 255, 130]), (133, [27]), (134, [172])] = true := by decide +kernel
theorem dX12_discords_113 : decode cX12_discords 113 = .ok (.sipush 999, 3) := dk_17 3 231 (bs_at BX12_discords_113 0 rfl) rfl
theorem dX12_discords_116 : decode cX12_discords 116 = .ok (.invokestatic 419, 3) := dk_184 1 163 (bs_at BX12_discords_113 1 rfl) rfl
theorem dX12_discords_119 : decode cX12_discords 119 = .ok (.iadd, 1) := dk_96 (bs_at BX12_discords_113 2 rfl)
theorem dX12_discords_120 : decode cX12_discords 120 = .ok (.istore_n 1, 1) := dk_60 (bs_at BX12_discords_113 3 rfl)
theorem dX12_discords_121 : decode cX12_discords 121 = .ok (.iinc 3 1, 3) := dk_132 3 1 (bs_at BX12_discords_113 4 rfl) rfl
theorem dX12_discords_124 : decode cX12_discords 124 = .ok (.goto (-106), 3) := dk_167 255 150 (bs_at BX12_discords_113 5 rfl) rfl
theorem dX12_discords_127 : decode cX12_discords 127 = .ok (.iinc 2 1, 3) := dk_132 2 1 (bs_at BX12_discords_113 6 rfl) rfl
theorem dX12_discords_130 : decode cX12_discords 130 = .ok (.goto (-126), 3) := dk_167 255 130 (bs_at BX12_discords_113 7 rfl) rfl
theorem dX12_discords_133 : decode cX12_discords 133 = .ok (.iload_n 1, 1) := dk_27 (bs_at BX12_discords_113 8 rfl)
theorem dX12_discords_134 : decode cX12_discords 134 = .ok (.ireturn, 1) := dk_172 (bs_at BX12_discords_113 9 rfl)
theorem BX12_discord_0 : bsegs (ByteArray.data cX12_discord |>.toList.drop 0) 0 [(0, [42]), (1, [3]), (2, [181, 0, 158]), (5, [42]), (6, [182, 1, 172]), (9, [172])] = true := by decide +kernel
theorem dX12_discord_0 : decode cX12_discord 0 = .ok (.aload_n 0, 1) := dk_42 (bs_at BX12_discord_0 0 rfl)
theorem dX12_discord_1 : decode cX12_discord 1 = .ok (.iconst 0, 1) := dk_3 (bs_at BX12_discord_0 1 rfl)
theorem dX12_discord_2 : decode cX12_discord 2 = .ok (.putfield 158, 3) := dk_181 0 158 (bs_at BX12_discord_0 2 rfl) rfl
theorem dX12_discord_5 : decode cX12_discord 5 = .ok (.aload_n 0, 1) := dk_42 (bs_at BX12_discord_0 3 rfl)
theorem dX12_discord_6 : decode cX12_discord 6 = .ok (.invokevirtual 428, 3) := dk_182 1 172 (bs_at BX12_discord_0 4 rfl) rfl
theorem dX12_discord_9 : decode cX12_discord 9 = .ok (.ireturn, 1) := dk_172 (bs_at BX12_discord_0 5 rfl)
theorem BX12_isMet_0 : bsegs (ByteArray.data cX12_isMet |>.toList.drop 0) 0 [(0, [42]), (1, [180, 0, 13]), (4, [16, 67]), (6, [42]), (7, [3]), (8, [182, 0, 182]), (11, [96]), (12, [46]), (13, [42]), (14, [182, 1, 175]), (17, [2]), (18, [130]), (19, [126]), (20, [154, 0, 7]), (23, [4]), (24, [167, 0, 4]), (27, [3]), (28, [172])] = true := by decide +kernel
theorem dX12_isMet_0 : decode cX12_isMet 0 = .ok (.aload_n 0, 1) := dk_42 (bs_at BX12_isMet_0 0 rfl)
theorem dX12_isMet_1 : decode cX12_isMet 1 = .ok (.getfield 13, 3) := dk_180 0 13 (bs_at BX12_isMet_0 1 rfl) rfl
theorem dX12_isMet_4 : decode cX12_isMet 4 = .ok (.bipush 67, 2) := dk_16 67 (bs_at BX12_isMet_0 2 rfl) rfl
theorem dX12_isMet_6 : decode cX12_isMet 6 = .ok (.aload_n 0, 1) := dk_42 (bs_at BX12_isMet_0 3 rfl)
theorem dX12_isMet_7 : decode cX12_isMet 7 = .ok (.iconst 0, 1) := dk_3 (bs_at BX12_isMet_0 4 rfl)
theorem dX12_isMet_8 : decode cX12_isMet 8 = .ok (.invokevirtual 182, 3) := dk_182 0 182 (bs_at BX12_isMet_0 5 rfl) rfl
theorem dX12_isMet_11 : decode cX12_isMet 11 = .ok (.iadd, 1) := dk_96 (bs_at BX12_isMet_0 6 rfl)
theorem dX12_isMet_12 : decode cX12_isMet 12 = .ok (.iaload, 1) := dk_46 (bs_at BX12_isMet_0 7 rfl)
theorem dX12_isMet_13 : decode cX12_isMet 13 = .ok (.aload_n 0, 1) := dk_42 (bs_at BX12_isMet_0 8 rfl)
theorem dX12_isMet_14 : decode cX12_isMet 14 = .ok (.invokevirtual 431, 3) := dk_182 1 175 (bs_at BX12_isMet_0 9 rfl) rfl
theorem dX12_isMet_17 : decode cX12_isMet 17 = .ok (.iconst (-1), 1) := dk_2 (bs_at BX12_isMet_0 10 rfl)
theorem dX12_isMet_18 : decode cX12_isMet 18 = .ok (.ixor, 1) := dk_130 (bs_at BX12_isMet_0 11 rfl)
theorem dX12_isMet_19 : decode cX12_isMet 19 = .ok (.iand, 1) := dk_126 (bs_at BX12_isMet_0 12 rfl)
theorem dX12_isMet_20 : decode cX12_isMet 20 = .ok (.ifCond .ne 7, 3) := dk_154 0 7 (bs_at BX12_isMet_0 13 rfl) rfl
theorem dX12_isMet_23 : decode cX12_isMet 23 = .ok (.iconst 1, 1) := dk_4 (bs_at BX12_isMet_0 14 rfl)
theorem dX12_isMet_24 : decode cX12_isMet 24 = .ok (.goto 4, 3) := dk_167 0 4 (bs_at BX12_isMet_0 15 rfl) rfl
theorem dX12_isMet_27 : decode cX12_isMet 27 = .ok (.iconst 0, 1) := dk_3 (bs_at BX12_isMet_0 16 rfl)
theorem dX12_isMet_28 : decode cX12_isMet 28 = .ok (.ireturn, 1) := dk_172 (bs_at BX12_isMet_0 17 rfl)
theorem BX12_sounds_0 : bsegs (ByteArray.data cX12_sounds |>.toList.drop 0) 0 [(0, [42]), (1, [3]), (2, [181, 0, 158]), (5, [27]), (6, [133]), (7, [9]), (8, [20, 1, 178]), (11, [184, 0, 178]), (14, [154, 0, 5]), (17, [2]), (18, [172]), (19, [42]), (20, [182, 1, 175]), (23, [61]), (24, [3]), (25, [62]), (26, [3]), (27, [54, 4]), (29, [21, 4]), (31, [16, 7]), (33, [162, 0, 54]), (36, [29]), (37, [28]), (38, [21, 4])] = true := by decide +kernel
theorem dX12_sounds_0 : decode cX12_sounds 0 = .ok (.aload_n 0, 1) := dk_42 (bs_at BX12_sounds_0 0 rfl)
theorem dX12_sounds_1 : decode cX12_sounds 1 = .ok (.iconst 0, 1) := dk_3 (bs_at BX12_sounds_0 1 rfl)
theorem dX12_sounds_2 : decode cX12_sounds 2 = .ok (.putfield 158, 3) := dk_181 0 158 (bs_at BX12_sounds_0 2 rfl) rfl
theorem dX12_sounds_5 : decode cX12_sounds 5 = .ok (.iload_n 1, 1) := dk_27 (bs_at BX12_sounds_0 3 rfl)
theorem dX12_sounds_6 : decode cX12_sounds 6 = .ok (.i2l, 1) := dk_133 (bs_at BX12_sounds_0 4 rfl)
theorem dX12_sounds_7 : decode cX12_sounds 7 = .ok (.lconst 0, 1) := dk_9 (bs_at BX12_sounds_0 5 rfl)
theorem dX12_sounds_8 : decode cX12_sounds 8 = .ok (.ldc2_w 434, 3) := dk_20 1 178 (bs_at BX12_sounds_0 6 rfl) rfl
theorem dX12_sounds_11 : decode cX12_sounds 11 = .ok (.invokestatic 178, 3) := dk_184 0 178 (bs_at BX12_sounds_0 7 rfl) rfl
theorem dX12_sounds_14 : decode cX12_sounds 14 = .ok (.ifCond .ne 5, 3) := dk_154 0 5 (bs_at BX12_sounds_0 8 rfl) rfl
theorem dX12_sounds_17 : decode cX12_sounds 17 = .ok (.iconst (-1), 1) := dk_2 (bs_at BX12_sounds_0 9 rfl)
theorem dX12_sounds_18 : decode cX12_sounds 18 = .ok (.ireturn, 1) := dk_172 (bs_at BX12_sounds_0 10 rfl)
theorem dX12_sounds_19 : decode cX12_sounds 19 = .ok (.aload_n 0, 1) := dk_42 (bs_at BX12_sounds_0 11 rfl)
theorem dX12_sounds_20 : decode cX12_sounds 20 = .ok (.invokevirtual 431, 3) := dk_182 1 175 (bs_at BX12_sounds_0 12 rfl) rfl
theorem dX12_sounds_23 : decode cX12_sounds 23 = .ok (.istore_n 2, 1) := dk_61 (bs_at BX12_sounds_0 13 rfl)
theorem dX12_sounds_24 : decode cX12_sounds 24 = .ok (.iconst 0, 1) := dk_3 (bs_at BX12_sounds_0 14 rfl)
theorem dX12_sounds_25 : decode cX12_sounds 25 = .ok (.istore_n 3, 1) := dk_62 (bs_at BX12_sounds_0 15 rfl)
theorem dX12_sounds_26 : decode cX12_sounds 26 = .ok (.iconst 0, 1) := dk_3 (bs_at BX12_sounds_0 16 rfl)
theorem dX12_sounds_27 : decode cX12_sounds 27 = .ok (.istore 4, 2) := dk_54 4 (bs_at BX12_sounds_0 17 rfl)
theorem dX12_sounds_29 : decode cX12_sounds 29 = .ok (.iload 4, 2) := dk_21 4 (bs_at BX12_sounds_0 18 rfl)
theorem dX12_sounds_31 : decode cX12_sounds 31 = .ok (.bipush 7, 2) := dk_16 7 (bs_at BX12_sounds_0 19 rfl) rfl
theorem dX12_sounds_33 : decode cX12_sounds 33 = .ok (.if_icmp .ge 54, 3) := dk_162 0 54 (bs_at BX12_sounds_0 20 rfl) rfl
theorem dX12_sounds_36 : decode cX12_sounds 36 = .ok (.iload_n 3, 1) := dk_29 (bs_at BX12_sounds_0 21 rfl)
theorem dX12_sounds_37 : decode cX12_sounds 37 = .ok (.iload_n 2, 1) := dk_28 (bs_at BX12_sounds_0 22 rfl)
theorem dX12_sounds_38 : decode cX12_sounds 38 = .ok (.iload 4, 2) := dk_21 4 (bs_at BX12_sounds_0 23 rfl)
theorem BX12_sounds_40 : bsegs (ByteArray.data cX12_sounds |>.toList.drop 40) 40 [(40, [184, 1, 180]), (43, [153, 0, 35]), (46, [28]), (47, [21, 4]), (49, [5]), (50, [96]), (51, [16, 7]), (53, [112]), (54, [184, 1, 180]), (57, [153, 0, 21]), (60, [28]), (61, [21, 4]), (63, [7]), (64, [96]), (65, [16, 7]), (67, [112]), (68, [184, 1, 180]), (71, [153, 0, 7]), (74, [4]), (75, [167, 0, 4]), (78, [3]), (79, [96]), (80, [62]), (81, [132, 4, 1])] = true := by decide +kernel
theorem dX12_sounds_40 : decode cX12_sounds 40 = .ok (.invokestatic 436, 3) := dk_184 1 180 (bs_at BX12_sounds_40 0 rfl) rfl
theorem dX12_sounds_43 : decode cX12_sounds 43 = .ok (.ifCond .eq 35, 3) := dk_153 0 35 (bs_at BX12_sounds_40 1 rfl) rfl
theorem dX12_sounds_46 : decode cX12_sounds 46 = .ok (.iload_n 2, 1) := dk_28 (bs_at BX12_sounds_40 2 rfl)
theorem dX12_sounds_47 : decode cX12_sounds 47 = .ok (.iload 4, 2) := dk_21 4 (bs_at BX12_sounds_40 3 rfl)
theorem dX12_sounds_49 : decode cX12_sounds 49 = .ok (.iconst 2, 1) := dk_5 (bs_at BX12_sounds_40 4 rfl)
theorem dX12_sounds_50 : decode cX12_sounds 50 = .ok (.iadd, 1) := dk_96 (bs_at BX12_sounds_40 5 rfl)
theorem dX12_sounds_51 : decode cX12_sounds 51 = .ok (.bipush 7, 2) := dk_16 7 (bs_at BX12_sounds_40 6 rfl) rfl
theorem dX12_sounds_53 : decode cX12_sounds 53 = .ok (.irem, 1) := dk_112 (bs_at BX12_sounds_40 7 rfl)
theorem dX12_sounds_54 : decode cX12_sounds 54 = .ok (.invokestatic 436, 3) := dk_184 1 180 (bs_at BX12_sounds_40 8 rfl) rfl
theorem dX12_sounds_57 : decode cX12_sounds 57 = .ok (.ifCond .eq 21, 3) := dk_153 0 21 (bs_at BX12_sounds_40 9 rfl) rfl
theorem dX12_sounds_60 : decode cX12_sounds 60 = .ok (.iload_n 2, 1) := dk_28 (bs_at BX12_sounds_40 10 rfl)
theorem dX12_sounds_61 : decode cX12_sounds 61 = .ok (.iload 4, 2) := dk_21 4 (bs_at BX12_sounds_40 11 rfl)
theorem dX12_sounds_63 : decode cX12_sounds 63 = .ok (.iconst 4, 1) := dk_7 (bs_at BX12_sounds_40 12 rfl)
theorem dX12_sounds_64 : decode cX12_sounds 64 = .ok (.iadd, 1) := dk_96 (bs_at BX12_sounds_40 13 rfl)
theorem dX12_sounds_65 : decode cX12_sounds 65 = .ok (.bipush 7, 2) := dk_16 7 (bs_at BX12_sounds_40 14 rfl) rfl
theorem dX12_sounds_67 : decode cX12_sounds 67 = .ok (.irem, 1) := dk_112 (bs_at BX12_sounds_40 15 rfl)
theorem dX12_sounds_68 : decode cX12_sounds 68 = .ok (.invokestatic 436, 3) := dk_184 1 180 (bs_at BX12_sounds_40 16 rfl) rfl
theorem dX12_sounds_71 : decode cX12_sounds 71 = .ok (.ifCond .eq 7, 3) := dk_153 0 7 (bs_at BX12_sounds_40 17 rfl) rfl
theorem dX12_sounds_74 : decode cX12_sounds 74 = .ok (.iconst 1, 1) := dk_4 (bs_at BX12_sounds_40 18 rfl)
theorem dX12_sounds_75 : decode cX12_sounds 75 = .ok (.goto 4, 3) := dk_167 0 4 (bs_at BX12_sounds_40 19 rfl) rfl
theorem dX12_sounds_78 : decode cX12_sounds 78 = .ok (.iconst 0, 1) := dk_3 (bs_at BX12_sounds_40 20 rfl)
theorem dX12_sounds_79 : decode cX12_sounds 79 = .ok (.iadd, 1) := dk_96 (bs_at BX12_sounds_40 21 rfl)
theorem dX12_sounds_80 : decode cX12_sounds 80 = .ok (.istore_n 3, 1) := dk_62 (bs_at BX12_sounds_40 22 rfl)
theorem dX12_sounds_81 : decode cX12_sounds 81 = .ok (.iinc 4 1, 3) := dk_132 4 1 (bs_at BX12_sounds_40 23 rfl) rfl
theorem BX12_sounds_84 : bsegs (ByteArray.data cX12_sounds |>.toList.drop 84) 84 [(84, [167, 255, 201]), (87, [27]), (88, [154, 0, 7]), (91, [28]), (92, [167, 0, 24]), (95, [27]), (96, [4]), (97, [160, 0, 7]), (100, [29]), (101, [167, 0, 15]), (104, [42]), (105, [182, 1, 183]), (108, [153, 0, 7]), (111, [4]), (112, [167, 0, 4]), (115, [3]), (116, [172])] = true := by decide +kernel
theorem dX12_sounds_84 : decode cX12_sounds 84 = .ok (.goto (-55), 3) := dk_167 255 201 (bs_at BX12_sounds_84 0 rfl) rfl
theorem dX12_sounds_87 : decode cX12_sounds 87 = .ok (.iload_n 1, 1) := dk_27 (bs_at BX12_sounds_84 1 rfl)
theorem dX12_sounds_88 : decode cX12_sounds 88 = .ok (.ifCond .ne 7, 3) := dk_154 0 7 (bs_at BX12_sounds_84 2 rfl) rfl
theorem dX12_sounds_91 : decode cX12_sounds 91 = .ok (.iload_n 2, 1) := dk_28 (bs_at BX12_sounds_84 3 rfl)
theorem dX12_sounds_92 : decode cX12_sounds 92 = .ok (.goto 24, 3) := dk_167 0 24 (bs_at BX12_sounds_84 4 rfl) rfl
theorem dX12_sounds_95 : decode cX12_sounds 95 = .ok (.iload_n 1, 1) := dk_27 (bs_at BX12_sounds_84 5 rfl)
theorem dX12_sounds_96 : decode cX12_sounds 96 = .ok (.iconst 1, 1) := dk_4 (bs_at BX12_sounds_84 6 rfl)
theorem dX12_sounds_97 : decode cX12_sounds 97 = .ok (.if_icmp .ne 7, 3) := dk_160 0 7 (bs_at BX12_sounds_84 7 rfl) rfl
theorem dX12_sounds_100 : decode cX12_sounds 100 = .ok (.iload_n 3, 1) := dk_29 (bs_at BX12_sounds_84 8 rfl)
theorem dX12_sounds_101 : decode cX12_sounds 101 = .ok (.goto 15, 3) := dk_167 0 15 (bs_at BX12_sounds_84 9 rfl) rfl
theorem dX12_sounds_104 : decode cX12_sounds 104 = .ok (.aload_n 0, 1) := dk_42 (bs_at BX12_sounds_84 10 rfl)
theorem dX12_sounds_105 : decode cX12_sounds 105 = .ok (.invokevirtual 439, 3) := dk_182 1 183 (bs_at BX12_sounds_84 11 rfl) rfl
theorem dX12_sounds_108 : decode cX12_sounds 108 = .ok (.ifCond .eq 7, 3) := dk_153 0 7 (bs_at BX12_sounds_84 12 rfl) rfl
theorem dX12_sounds_111 : decode cX12_sounds 111 = .ok (.iconst 1, 1) := dk_4 (bs_at BX12_sounds_84 13 rfl)
theorem dX12_sounds_112 : decode cX12_sounds 112 = .ok (.goto 4, 3) := dk_167 0 4 (bs_at BX12_sounds_84 14 rfl) rfl
theorem dX12_sounds_115 : decode cX12_sounds 115 = .ok (.iconst 0, 1) := dk_3 (bs_at BX12_sounds_84 15 rfl)
theorem dX12_sounds_116 : decode cX12_sounds 116 = .ok (.ireturn, 1) := dk_172 (bs_at BX12_sounds_84 16 rfl)
theorem BX12_flare_0 : bsegs (ByteArray.data cX12_flare |>.toList.drop 0) 0 [(0, [42]), (1, [180, 0, 13]), (4, [16, 11]), (6, [28]), (7, [96]), (8, [42]), (9, [180, 0, 13]), (12, [16, 11]), (14, [28]), (15, [96]), (16, [46]), (17, [42]), (18, [27]), (19, [28]), (20, [182, 0, 204]), (23, [96]), (24, [133]), (25, [3]), (26, [16, 20]), (28, [184, 1, 163]), (31, [79]), (32, [177])] = true := by decide +kernel
theorem dX12_flare_0 : decode cX12_flare 0 = .ok (.aload_n 0, 1) := dk_42 (bs_at BX12_flare_0 0 rfl)
theorem dX12_flare_1 : decode cX12_flare 1 = .ok (.getfield 13, 3) := dk_180 0 13 (bs_at BX12_flare_0 1 rfl) rfl
theorem dX12_flare_4 : decode cX12_flare 4 = .ok (.bipush 11, 2) := dk_16 11 (bs_at BX12_flare_0 2 rfl) rfl
theorem dX12_flare_6 : decode cX12_flare 6 = .ok (.iload_n 2, 1) := dk_28 (bs_at BX12_flare_0 3 rfl)
theorem dX12_flare_7 : decode cX12_flare 7 = .ok (.iadd, 1) := dk_96 (bs_at BX12_flare_0 4 rfl)
theorem dX12_flare_8 : decode cX12_flare 8 = .ok (.aload_n 0, 1) := dk_42 (bs_at BX12_flare_0 5 rfl)
theorem dX12_flare_9 : decode cX12_flare 9 = .ok (.getfield 13, 3) := dk_180 0 13 (bs_at BX12_flare_0 6 rfl) rfl
theorem dX12_flare_12 : decode cX12_flare 12 = .ok (.bipush 11, 2) := dk_16 11 (bs_at BX12_flare_0 7 rfl) rfl
theorem dX12_flare_14 : decode cX12_flare 14 = .ok (.iload_n 2, 1) := dk_28 (bs_at BX12_flare_0 8 rfl)
theorem dX12_flare_15 : decode cX12_flare 15 = .ok (.iadd, 1) := dk_96 (bs_at BX12_flare_0 9 rfl)
theorem dX12_flare_16 : decode cX12_flare 16 = .ok (.iaload, 1) := dk_46 (bs_at BX12_flare_0 10 rfl)
theorem dX12_flare_17 : decode cX12_flare 17 = .ok (.aload_n 0, 1) := dk_42 (bs_at BX12_flare_0 11 rfl)
theorem dX12_flare_18 : decode cX12_flare 18 = .ok (.iload_n 1, 1) := dk_27 (bs_at BX12_flare_0 12 rfl)
theorem dX12_flare_19 : decode cX12_flare 19 = .ok (.iload_n 2, 1) := dk_28 (bs_at BX12_flare_0 13 rfl)
theorem dX12_flare_20 : decode cX12_flare 20 = .ok (.invokevirtual 204, 3) := dk_182 0 204 (bs_at BX12_flare_0 14 rfl) rfl
theorem dX12_flare_23 : decode cX12_flare 23 = .ok (.iadd, 1) := dk_96 (bs_at BX12_flare_0 15 rfl)
theorem dX12_flare_24 : decode cX12_flare 24 = .ok (.i2l, 1) := dk_133 (bs_at BX12_flare_0 16 rfl)
theorem dX12_flare_25 : decode cX12_flare 25 = .ok (.iconst 0, 1) := dk_3 (bs_at BX12_flare_0 17 rfl)
theorem dX12_flare_26 : decode cX12_flare 26 = .ok (.bipush 20, 2) := dk_16 20 (bs_at BX12_flare_0 18 rfl) rfl
theorem dX12_flare_28 : decode cX12_flare 28 = .ok (.invokestatic 419, 3) := dk_184 1 163 (bs_at BX12_flare_0 19 rfl) rfl
theorem dX12_flare_31 : decode cX12_flare 31 = .ok (.iastore, 1) := dk_79 (bs_at BX12_flare_0 20 rfl)
theorem dX12_flare_32 : decode cX12_flare 32 = .ok (.return_, 1) := dk_177 (bs_at BX12_flare_0 21 rfl)
theorem BX12_canStoke_0 : bsegs (ByteArray.data cX12_canStoke |>.toList.drop 0) 0 [(0, [42]), (1, [180, 0, 13]), (4, [16, 19]), (6, [27]), (7, [96]), (8, [46]), (9, [158, 0, 15]), (12, [42]), (13, [27]), (14, [182, 0, 207]), (17, [154, 0, 7]), (20, [4]), (21, [167, 0, 4]), (24, [3]), (25, [172])] = true := by decide +kernel
theorem dX12_canStoke_0 : decode cX12_canStoke 0 = .ok (.aload_n 0, 1) := dk_42 (bs_at BX12_canStoke_0 0 rfl)
theorem dX12_canStoke_1 : decode cX12_canStoke 1 = .ok (.getfield 13, 3) := dk_180 0 13 (bs_at BX12_canStoke_0 1 rfl) rfl
theorem dX12_canStoke_4 : decode cX12_canStoke 4 = .ok (.bipush 19, 2) := dk_16 19 (bs_at BX12_canStoke_0 2 rfl) rfl
theorem dX12_canStoke_6 : decode cX12_canStoke 6 = .ok (.iload_n 1, 1) := dk_27 (bs_at BX12_canStoke_0 3 rfl)
theorem dX12_canStoke_7 : decode cX12_canStoke 7 = .ok (.iadd, 1) := dk_96 (bs_at BX12_canStoke_0 4 rfl)
theorem dX12_canStoke_8 : decode cX12_canStoke 8 = .ok (.iaload, 1) := dk_46 (bs_at BX12_canStoke_0 5 rfl)
theorem dX12_canStoke_9 : decode cX12_canStoke 9 = .ok (.ifCond .le 15, 3) := dk_158 0 15 (bs_at BX12_canStoke_0 6 rfl) rfl
theorem dX12_canStoke_12 : decode cX12_canStoke 12 = .ok (.aload_n 0, 1) := dk_42 (bs_at BX12_canStoke_0 7 rfl)
theorem dX12_canStoke_13 : decode cX12_canStoke 13 = .ok (.iload_n 1, 1) := dk_27 (bs_at BX12_canStoke_0 8 rfl)
theorem dX12_canStoke_14 : decode cX12_canStoke 14 = .ok (.invokevirtual 207, 3) := dk_182 0 207 (bs_at BX12_canStoke_0 9 rfl) rfl
theorem dX12_canStoke_17 : decode cX12_canStoke 17 = .ok (.ifCond .ne 7, 3) := dk_154 0 7 (bs_at BX12_canStoke_0 10 rfl) rfl
theorem dX12_canStoke_20 : decode cX12_canStoke 20 = .ok (.iconst 1, 1) := dk_4 (bs_at BX12_canStoke_0 11 rfl)
theorem dX12_canStoke_21 : decode cX12_canStoke 21 = .ok (.goto 4, 3) := dk_167 0 4 (bs_at BX12_canStoke_0 12 rfl) rfl
theorem dX12_canStoke_24 : decode cX12_canStoke 24 = .ok (.iconst 0, 1) := dk_3 (bs_at BX12_canStoke_0 13 rfl)
theorem dX12_canStoke_25 : decode cX12_canStoke 25 = .ok (.ireturn, 1) := dk_172 (bs_at BX12_canStoke_0 14 rfl)
theorem BX12_stokeIt_0 : bsegs (ByteArray.data cX12_stokeIt |>.toList.drop 0) 0 [(0, [42]), (1, [42]), (2, [180, 0, 13]), (5, [6]), (6, [46]), (7, [27]), (8, [182, 1, 186]), (11, [42]), (12, [180, 0, 13]), (15, [16, 19]), (17, [27]), (18, [96]), (19, [92]), (20, [46]), (21, [4]), (22, [100]), (23, [79]), (24, [177])] = true := by decide +kernel
theorem dX12_stokeIt_0 : decode cX12_stokeIt 0 = .ok (.aload_n 0, 1) := dk_42 (bs_at BX12_stokeIt_0 0 rfl)
theorem dX12_stokeIt_1 : decode cX12_stokeIt 1 = .ok (.aload_n 0, 1) := dk_42 (bs_at BX12_stokeIt_0 1 rfl)
theorem dX12_stokeIt_2 : decode cX12_stokeIt 2 = .ok (.getfield 13, 3) := dk_180 0 13 (bs_at BX12_stokeIt_0 2 rfl) rfl
theorem dX12_stokeIt_5 : decode cX12_stokeIt 5 = .ok (.iconst 3, 1) := dk_6 (bs_at BX12_stokeIt_0 3 rfl)
theorem dX12_stokeIt_6 : decode cX12_stokeIt 6 = .ok (.iaload, 1) := dk_46 (bs_at BX12_stokeIt_0 4 rfl)
theorem dX12_stokeIt_7 : decode cX12_stokeIt 7 = .ok (.iload_n 1, 1) := dk_27 (bs_at BX12_stokeIt_0 5 rfl)
theorem dX12_stokeIt_8 : decode cX12_stokeIt 8 = .ok (.invokevirtual 442, 3) := dk_182 1 186 (bs_at BX12_stokeIt_0 6 rfl) rfl
theorem dX12_stokeIt_11 : decode cX12_stokeIt 11 = .ok (.aload_n 0, 1) := dk_42 (bs_at BX12_stokeIt_0 7 rfl)
theorem dX12_stokeIt_12 : decode cX12_stokeIt 12 = .ok (.getfield 13, 3) := dk_180 0 13 (bs_at BX12_stokeIt_0 8 rfl) rfl
theorem dX12_stokeIt_15 : decode cX12_stokeIt 15 = .ok (.bipush 19, 2) := dk_16 19 (bs_at BX12_stokeIt_0 9 rfl) rfl
theorem dX12_stokeIt_17 : decode cX12_stokeIt 17 = .ok (.iload_n 1, 1) := dk_27 (bs_at BX12_stokeIt_0 10 rfl)
theorem dX12_stokeIt_18 : decode cX12_stokeIt 18 = .ok (.iadd, 1) := dk_96 (bs_at BX12_stokeIt_0 11 rfl)
theorem dX12_stokeIt_19 : decode cX12_stokeIt 19 = .ok (.dup2, 1) := dk_92 (bs_at BX12_stokeIt_0 12 rfl)
theorem dX12_stokeIt_20 : decode cX12_stokeIt 20 = .ok (.iaload, 1) := dk_46 (bs_at BX12_stokeIt_0 13 rfl)
theorem dX12_stokeIt_21 : decode cX12_stokeIt 21 = .ok (.iconst 1, 1) := dk_4 (bs_at BX12_stokeIt_0 14 rfl)
theorem dX12_stokeIt_22 : decode cX12_stokeIt 22 = .ok (.isub, 1) := dk_100 (bs_at BX12_stokeIt_0 15 rfl)
theorem dX12_stokeIt_23 : decode cX12_stokeIt 23 = .ok (.iastore, 1) := dk_79 (bs_at BX12_stokeIt_0 16 rfl)
theorem dX12_stokeIt_24 : decode cX12_stokeIt 24 = .ok (.return_, 1) := dk_177 (bs_at BX12_stokeIt_0 17 rfl)
theorem BX12_stokeNow_0 : bsegs (ByteArray.data cX12_stokeNow |>.toList.drop 0) 0 [(0, [42]), (1, [27]), (2, [182, 0, 197]), (5, [154, 0, 6]), (8, [16, 254]), (10, [172]), (11, [42]), (12, [27]), (13, [182, 1, 189]), (16, [154, 0, 6]), (19, [16, 253]), (21, [172]), (22, [42]), (23, [3]), (24, [182, 1, 192]), (27, [42]), (28, [27]), (29, [182, 1, 195]), (32, [42]), (33, [180, 0, 13]), (36, [16, 11]), (38, [27]), (39, [96]), (40, [46])] = true := by decide +kernel
theorem dX12_stokeNow_0 : decode cX12_stokeNow 0 = .ok (.aload_n 0, 1) := dk_42 (bs_at BX12_stokeNow_0 0 rfl)
theorem dX12_stokeNow_1 : decode cX12_stokeNow 1 = .ok (.iload_n 1, 1) := dk_27 (bs_at BX12_stokeNow_0 1 rfl)
theorem dX12_stokeNow_2 : decode cX12_stokeNow 2 = .ok (.invokevirtual 197, 3) := dk_182 0 197 (bs_at BX12_stokeNow_0 2 rfl) rfl
theorem dX12_stokeNow_5 : decode cX12_stokeNow 5 = .ok (.ifCond .ne 6, 3) := dk_154 0 6 (bs_at BX12_stokeNow_0 3 rfl) rfl
theorem dX12_stokeNow_8 : decode cX12_stokeNow 8 = .ok (.bipush (-2), 2) := dk_16 254 (bs_at BX12_stokeNow_0 4 rfl) rfl
theorem dX12_stokeNow_10 : decode cX12_stokeNow 10 = .ok (.ireturn, 1) := dk_172 (bs_at BX12_stokeNow_0 5 rfl)
theorem dX12_stokeNow_11 : decode cX12_stokeNow 11 = .ok (.aload_n 0, 1) := dk_42 (bs_at BX12_stokeNow_0 6 rfl)
theorem dX12_stokeNow_12 : decode cX12_stokeNow 12 = .ok (.iload_n 1, 1) := dk_27 (bs_at BX12_stokeNow_0 7 rfl)
theorem dX12_stokeNow_13 : decode cX12_stokeNow 13 = .ok (.invokevirtual 445, 3) := dk_182 1 189 (bs_at BX12_stokeNow_0 8 rfl) rfl
theorem dX12_stokeNow_16 : decode cX12_stokeNow 16 = .ok (.ifCond .ne 6, 3) := dk_154 0 6 (bs_at BX12_stokeNow_0 9 rfl) rfl
theorem dX12_stokeNow_19 : decode cX12_stokeNow 19 = .ok (.bipush (-3), 2) := dk_16 253 (bs_at BX12_stokeNow_0 10 rfl) rfl
theorem dX12_stokeNow_21 : decode cX12_stokeNow 21 = .ok (.ireturn, 1) := dk_172 (bs_at BX12_stokeNow_0 11 rfl)
theorem dX12_stokeNow_22 : decode cX12_stokeNow 22 = .ok (.aload_n 0, 1) := dk_42 (bs_at BX12_stokeNow_0 12 rfl)
theorem dX12_stokeNow_23 : decode cX12_stokeNow 23 = .ok (.iconst 0, 1) := dk_3 (bs_at BX12_stokeNow_0 13 rfl)
theorem dX12_stokeNow_24 : decode cX12_stokeNow 24 = .ok (.invokevirtual 448, 3) := dk_182 1 192 (bs_at BX12_stokeNow_0 14 rfl) rfl
theorem dX12_stokeNow_27 : decode cX12_stokeNow 27 = .ok (.aload_n 0, 1) := dk_42 (bs_at BX12_stokeNow_0 15 rfl)
theorem dX12_stokeNow_28 : decode cX12_stokeNow 28 = .ok (.iload_n 1, 1) := dk_27 (bs_at BX12_stokeNow_0 16 rfl)
theorem dX12_stokeNow_29 : decode cX12_stokeNow 29 = .ok (.invokevirtual 451, 3) := dk_182 1 195 (bs_at BX12_stokeNow_0 17 rfl) rfl
theorem dX12_stokeNow_32 : decode cX12_stokeNow 32 = .ok (.aload_n 0, 1) := dk_42 (bs_at BX12_stokeNow_0 18 rfl)
theorem dX12_stokeNow_33 : decode cX12_stokeNow 33 = .ok (.getfield 13, 3) := dk_180 0 13 (bs_at BX12_stokeNow_0 19 rfl) rfl
theorem dX12_stokeNow_36 : decode cX12_stokeNow 36 = .ok (.bipush 11, 2) := dk_16 11 (bs_at BX12_stokeNow_0 20 rfl) rfl
theorem dX12_stokeNow_38 : decode cX12_stokeNow 38 = .ok (.iload_n 1, 1) := dk_27 (bs_at BX12_stokeNow_0 21 rfl)
theorem dX12_stokeNow_39 : decode cX12_stokeNow 39 = .ok (.iadd, 1) := dk_96 (bs_at BX12_stokeNow_0 22 rfl)
theorem dX12_stokeNow_40 : decode cX12_stokeNow 40 = .ok (.iaload, 1) := dk_46 (bs_at BX12_stokeNow_0 23 rfl)
theorem BX12_stokeNow_41 : bsegs (ByteArray.data cX12_stokeNow |>.toList.drop 41) 41 [(41, [172])] = true := by decide +kernel
theorem dX12_stokeNow_41 : decode cX12_stokeNow 41 = .ok (.ireturn, 1) := dk_172 (bs_at BX12_stokeNow_41 0 rfl)
theorem BX12_dampNow_0 : bsegs (ByteArray.data cX12_dampNow |>.toList.drop 0) 0 [(0, [28]), (1, [133]), (2, [10]), (3, [20, 0, 217]), (6, [184, 0, 178]), (9, [154, 0, 5]), (12, [2]), (13, [172]), (14, [42]), (15, [27]), (16, [182, 0, 197]), (19, [154, 0, 6]), (22, [16, 254]), (24, [172]), (25, [42]), (26, [4]), (27, [182, 1, 192]), (30, [42]), (31, [180, 0, 13]), (34, [16, 11]), (36, [27]), (37, [96]), (38, [42]), (39, [180, 0, 13])] = true := by decide +kernel
theorem dX12_dampNow_0 : decode cX12_dampNow 0 = .ok (.iload_n 2, 1) := dk_28 (bs_at BX12_dampNow_0 0 rfl)
theorem dX12_dampNow_1 : decode cX12_dampNow 1 = .ok (.i2l, 1) := dk_133 (bs_at BX12_dampNow_0 1 rfl)
theorem dX12_dampNow_2 : decode cX12_dampNow 2 = .ok (.lconst 1, 1) := dk_10 (bs_at BX12_dampNow_0 2 rfl)
theorem dX12_dampNow_3 : decode cX12_dampNow 3 = .ok (.ldc2_w 217, 3) := dk_20 0 217 (bs_at BX12_dampNow_0 3 rfl) rfl
theorem dX12_dampNow_6 : decode cX12_dampNow 6 = .ok (.invokestatic 178, 3) := dk_184 0 178 (bs_at BX12_dampNow_0 4 rfl) rfl
theorem dX12_dampNow_9 : decode cX12_dampNow 9 = .ok (.ifCond .ne 5, 3) := dk_154 0 5 (bs_at BX12_dampNow_0 5 rfl) rfl
theorem dX12_dampNow_12 : decode cX12_dampNow 12 = .ok (.iconst (-1), 1) := dk_2 (bs_at BX12_dampNow_0 6 rfl)
theorem dX12_dampNow_13 : decode cX12_dampNow 13 = .ok (.ireturn, 1) := dk_172 (bs_at BX12_dampNow_0 7 rfl)
theorem dX12_dampNow_14 : decode cX12_dampNow 14 = .ok (.aload_n 0, 1) := dk_42 (bs_at BX12_dampNow_0 8 rfl)
theorem dX12_dampNow_15 : decode cX12_dampNow 15 = .ok (.iload_n 1, 1) := dk_27 (bs_at BX12_dampNow_0 9 rfl)
theorem dX12_dampNow_16 : decode cX12_dampNow 16 = .ok (.invokevirtual 197, 3) := dk_182 0 197 (bs_at BX12_dampNow_0 10 rfl) rfl
theorem dX12_dampNow_19 : decode cX12_dampNow 19 = .ok (.ifCond .ne 6, 3) := dk_154 0 6 (bs_at BX12_dampNow_0 11 rfl) rfl
theorem dX12_dampNow_22 : decode cX12_dampNow 22 = .ok (.bipush (-2), 2) := dk_16 254 (bs_at BX12_dampNow_0 12 rfl) rfl
theorem dX12_dampNow_24 : decode cX12_dampNow 24 = .ok (.ireturn, 1) := dk_172 (bs_at BX12_dampNow_0 13 rfl)
theorem dX12_dampNow_25 : decode cX12_dampNow 25 = .ok (.aload_n 0, 1) := dk_42 (bs_at BX12_dampNow_0 14 rfl)
theorem dX12_dampNow_26 : decode cX12_dampNow 26 = .ok (.iconst 1, 1) := dk_4 (bs_at BX12_dampNow_0 15 rfl)
theorem dX12_dampNow_27 : decode cX12_dampNow 27 = .ok (.invokevirtual 448, 3) := dk_182 1 192 (bs_at BX12_dampNow_0 16 rfl) rfl
theorem dX12_dampNow_30 : decode cX12_dampNow 30 = .ok (.aload_n 0, 1) := dk_42 (bs_at BX12_dampNow_0 17 rfl)
theorem dX12_dampNow_31 : decode cX12_dampNow 31 = .ok (.getfield 13, 3) := dk_180 0 13 (bs_at BX12_dampNow_0 18 rfl) rfl
theorem dX12_dampNow_34 : decode cX12_dampNow 34 = .ok (.bipush 11, 2) := dk_16 11 (bs_at BX12_dampNow_0 19 rfl) rfl
theorem dX12_dampNow_36 : decode cX12_dampNow 36 = .ok (.iload_n 1, 1) := dk_27 (bs_at BX12_dampNow_0 20 rfl)
theorem dX12_dampNow_37 : decode cX12_dampNow 37 = .ok (.iadd, 1) := dk_96 (bs_at BX12_dampNow_0 21 rfl)
theorem dX12_dampNow_38 : decode cX12_dampNow 38 = .ok (.aload_n 0, 1) := dk_42 (bs_at BX12_dampNow_0 22 rfl)
theorem dX12_dampNow_39 : decode cX12_dampNow 39 = .ok (.getfield 13, 3) := dk_180 0 13 (bs_at BX12_dampNow_0 23 rfl) rfl
theorem BX12_dampNow_42 : bsegs (ByteArray.data cX12_dampNow |>.toList.drop 42) 42 [(42, [16, 11]), (44, [27]), (45, [96]), (46, [46]), (47, [28]), (48, [100]), (49, [133]), (50, [3]), (51, [16, 20]), (53, [184, 1, 163]), (56, [79]), (57, [42]), (58, [180, 0, 13]), (61, [16, 11]), (63, [27]), (64, [96]), (65, [46]), (66, [172])] = true := by decide +kernel
theorem dX12_dampNow_42 : decode cX12_dampNow 42 = .ok (.bipush 11, 2) := dk_16 11 (bs_at BX12_dampNow_42 0 rfl) rfl
theorem dX12_dampNow_44 : decode cX12_dampNow 44 = .ok (.iload_n 1, 1) := dk_27 (bs_at BX12_dampNow_42 1 rfl)
theorem dX12_dampNow_45 : decode cX12_dampNow 45 = .ok (.iadd, 1) := dk_96 (bs_at BX12_dampNow_42 2 rfl)
theorem dX12_dampNow_46 : decode cX12_dampNow 46 = .ok (.iaload, 1) := dk_46 (bs_at BX12_dampNow_42 3 rfl)
theorem dX12_dampNow_47 : decode cX12_dampNow 47 = .ok (.iload_n 2, 1) := dk_28 (bs_at BX12_dampNow_42 4 rfl)
theorem dX12_dampNow_48 : decode cX12_dampNow 48 = .ok (.isub, 1) := dk_100 (bs_at BX12_dampNow_42 5 rfl)
theorem dX12_dampNow_49 : decode cX12_dampNow 49 = .ok (.i2l, 1) := dk_133 (bs_at BX12_dampNow_42 6 rfl)
theorem dX12_dampNow_50 : decode cX12_dampNow 50 = .ok (.iconst 0, 1) := dk_3 (bs_at BX12_dampNow_42 7 rfl)
theorem dX12_dampNow_51 : decode cX12_dampNow 51 = .ok (.bipush 20, 2) := dk_16 20 (bs_at BX12_dampNow_42 8 rfl) rfl
theorem dX12_dampNow_53 : decode cX12_dampNow 53 = .ok (.invokestatic 419, 3) := dk_184 1 163 (bs_at BX12_dampNow_42 9 rfl) rfl
theorem dX12_dampNow_56 : decode cX12_dampNow 56 = .ok (.iastore, 1) := dk_79 (bs_at BX12_dampNow_42 10 rfl)
theorem dX12_dampNow_57 : decode cX12_dampNow 57 = .ok (.aload_n 0, 1) := dk_42 (bs_at BX12_dampNow_42 11 rfl)
theorem dX12_dampNow_58 : decode cX12_dampNow 58 = .ok (.getfield 13, 3) := dk_180 0 13 (bs_at BX12_dampNow_42 12 rfl) rfl
theorem dX12_dampNow_61 : decode cX12_dampNow 61 = .ok (.bipush 11, 2) := dk_16 11 (bs_at BX12_dampNow_42 13 rfl) rfl
theorem dX12_dampNow_63 : decode cX12_dampNow 63 = .ok (.iload_n 1, 1) := dk_27 (bs_at BX12_dampNow_42 14 rfl)
theorem dX12_dampNow_64 : decode cX12_dampNow 64 = .ok (.iadd, 1) := dk_96 (bs_at BX12_dampNow_42 15 rfl)
theorem dX12_dampNow_65 : decode cX12_dampNow 65 = .ok (.iaload, 1) := dk_46 (bs_at BX12_dampNow_42 16 rfl)
theorem dX12_dampNow_66 : decode cX12_dampNow 66 = .ok (.ireturn, 1) := dk_172 (bs_at BX12_dampNow_42 17 rfl)
theorem BX12_buyNow_0 : bsegs (ByteArray.data cX12_buyNow |>.toList.drop 0) 0 [(0, [28]), (1, [133]), (2, [10]), (3, [20, 0, 193]), (6, [184, 0, 178]), (9, [154, 0, 5]), (12, [2]), (13, [172]), (14, [42]), (15, [27]), (16, [182, 0, 197]), (19, [154, 0, 6]), (22, [16, 254]), (24, [172]), (25, [42]), (26, [5]), (27, [182, 1, 192]), (30, [42]), (31, [180, 0, 13]), (34, [16, 19]), (36, [27]), (37, [96]), (38, [42]), (39, [180, 0, 13])] = true := by decide +kernel
theorem dX12_buyNow_0 : decode cX12_buyNow 0 = .ok (.iload_n 2, 1) := dk_28 (bs_at BX12_buyNow_0 0 rfl)
theorem dX12_buyNow_1 : decode cX12_buyNow 1 = .ok (.i2l, 1) := dk_133 (bs_at BX12_buyNow_0 1 rfl)
theorem dX12_buyNow_2 : decode cX12_buyNow 2 = .ok (.lconst 1, 1) := dk_10 (bs_at BX12_buyNow_0 2 rfl)
theorem dX12_buyNow_3 : decode cX12_buyNow 3 = .ok (.ldc2_w 193, 3) := dk_20 0 193 (bs_at BX12_buyNow_0 3 rfl) rfl
theorem dX12_buyNow_6 : decode cX12_buyNow 6 = .ok (.invokestatic 178, 3) := dk_184 0 178 (bs_at BX12_buyNow_0 4 rfl) rfl
theorem dX12_buyNow_9 : decode cX12_buyNow 9 = .ok (.ifCond .ne 5, 3) := dk_154 0 5 (bs_at BX12_buyNow_0 5 rfl) rfl
theorem dX12_buyNow_12 : decode cX12_buyNow 12 = .ok (.iconst (-1), 1) := dk_2 (bs_at BX12_buyNow_0 6 rfl)
theorem dX12_buyNow_13 : decode cX12_buyNow 13 = .ok (.ireturn, 1) := dk_172 (bs_at BX12_buyNow_0 7 rfl)
theorem dX12_buyNow_14 : decode cX12_buyNow 14 = .ok (.aload_n 0, 1) := dk_42 (bs_at BX12_buyNow_0 8 rfl)
theorem dX12_buyNow_15 : decode cX12_buyNow 15 = .ok (.iload_n 1, 1) := dk_27 (bs_at BX12_buyNow_0 9 rfl)
theorem dX12_buyNow_16 : decode cX12_buyNow 16 = .ok (.invokevirtual 197, 3) := dk_182 0 197 (bs_at BX12_buyNow_0 10 rfl) rfl
theorem dX12_buyNow_19 : decode cX12_buyNow 19 = .ok (.ifCond .ne 6, 3) := dk_154 0 6 (bs_at BX12_buyNow_0 11 rfl) rfl
theorem dX12_buyNow_22 : decode cX12_buyNow 22 = .ok (.bipush (-2), 2) := dk_16 254 (bs_at BX12_buyNow_0 12 rfl) rfl
theorem dX12_buyNow_24 : decode cX12_buyNow 24 = .ok (.ireturn, 1) := dk_172 (bs_at BX12_buyNow_0 13 rfl)
theorem dX12_buyNow_25 : decode cX12_buyNow 25 = .ok (.aload_n 0, 1) := dk_42 (bs_at BX12_buyNow_0 14 rfl)
theorem dX12_buyNow_26 : decode cX12_buyNow 26 = .ok (.iconst 2, 1) := dk_5 (bs_at BX12_buyNow_0 15 rfl)
theorem dX12_buyNow_27 : decode cX12_buyNow 27 = .ok (.invokevirtual 448, 3) := dk_182 1 192 (bs_at BX12_buyNow_0 16 rfl) rfl
theorem dX12_buyNow_30 : decode cX12_buyNow 30 = .ok (.aload_n 0, 1) := dk_42 (bs_at BX12_buyNow_0 17 rfl)
theorem dX12_buyNow_31 : decode cX12_buyNow 31 = .ok (.getfield 13, 3) := dk_180 0 13 (bs_at BX12_buyNow_0 18 rfl) rfl
theorem dX12_buyNow_34 : decode cX12_buyNow 34 = .ok (.bipush 19, 2) := dk_16 19 (bs_at BX12_buyNow_0 19 rfl) rfl
theorem dX12_buyNow_36 : decode cX12_buyNow 36 = .ok (.iload_n 1, 1) := dk_27 (bs_at BX12_buyNow_0 20 rfl)
theorem dX12_buyNow_37 : decode cX12_buyNow 37 = .ok (.iadd, 1) := dk_96 (bs_at BX12_buyNow_0 21 rfl)
theorem dX12_buyNow_38 : decode cX12_buyNow 38 = .ok (.aload_n 0, 1) := dk_42 (bs_at BX12_buyNow_0 22 rfl)
theorem dX12_buyNow_39 : decode cX12_buyNow 39 = .ok (.getfield 13, 3) := dk_180 0 13 (bs_at BX12_buyNow_0 23 rfl) rfl
theorem BX12_buyNow_42 : bsegs (ByteArray.data cX12_buyNow |>.toList.drop 42) 42 [(42, [16, 19]), (44, [27]), (45, [96]), (46, [46]), (47, [28]), (48, [96]), (49, [133]), (50, [3]), (51, [17, 3, 231]), (54, [184, 1, 163]), (57, [79]), (58, [42]), (59, [180, 0, 13]), (62, [16, 19]), (64, [27]), (65, [96]), (66, [46]), (67, [172])] = true := by decide +kernel
theorem dX12_buyNow_42 : decode cX12_buyNow 42 = .ok (.bipush 19, 2) := dk_16 19 (bs_at BX12_buyNow_42 0 rfl) rfl
theorem dX12_buyNow_44 : decode cX12_buyNow 44 = .ok (.iload_n 1, 1) := dk_27 (bs_at BX12_buyNow_42 1 rfl)
theorem dX12_buyNow_45 : decode cX12_buyNow 45 = .ok (.iadd, 1) := dk_96 (bs_at BX12_buyNow_42 2 rfl)
theorem dX12_buyNow_46 : decode cX12_buyNow 46 = .ok (.iaload, 1) := dk_46 (bs_at BX12_buyNow_42 3 rfl)
theorem dX12_buyNow_47 : decode cX12_buyNow 47 = .ok (.iload_n 2, 1) := dk_28 (bs_at BX12_buyNow_42 4 rfl)
theorem dX12_buyNow_48 : decode cX12_buyNow 48 = .ok (.iadd, 1) := dk_96 (bs_at BX12_buyNow_42 5 rfl)
theorem dX12_buyNow_49 : decode cX12_buyNow 49 = .ok (.i2l, 1) := dk_133 (bs_at BX12_buyNow_42 6 rfl)
theorem dX12_buyNow_50 : decode cX12_buyNow 50 = .ok (.iconst 0, 1) := dk_3 (bs_at BX12_buyNow_42 7 rfl)
theorem dX12_buyNow_51 : decode cX12_buyNow 51 = .ok (.sipush 999, 3) := dk_17 3 231 (bs_at BX12_buyNow_42 8 rfl) rfl
theorem dX12_buyNow_54 : decode cX12_buyNow 54 = .ok (.invokestatic 419, 3) := dk_184 1 163 (bs_at BX12_buyNow_42 9 rfl) rfl
theorem dX12_buyNow_57 : decode cX12_buyNow 57 = .ok (.iastore, 1) := dk_79 (bs_at BX12_buyNow_42 10 rfl)
theorem dX12_buyNow_58 : decode cX12_buyNow 58 = .ok (.aload_n 0, 1) := dk_42 (bs_at BX12_buyNow_42 11 rfl)
theorem dX12_buyNow_59 : decode cX12_buyNow 59 = .ok (.getfield 13, 3) := dk_180 0 13 (bs_at BX12_buyNow_42 12 rfl) rfl
theorem dX12_buyNow_62 : decode cX12_buyNow 62 = .ok (.bipush 19, 2) := dk_16 19 (bs_at BX12_buyNow_42 13 rfl) rfl
theorem dX12_buyNow_64 : decode cX12_buyNow 64 = .ok (.iload_n 1, 1) := dk_27 (bs_at BX12_buyNow_42 14 rfl)
theorem dX12_buyNow_65 : decode cX12_buyNow 65 = .ok (.iadd, 1) := dk_96 (bs_at BX12_buyNow_42 15 rfl)
theorem dX12_buyNow_66 : decode cX12_buyNow 66 = .ok (.iaload, 1) := dk_46 (bs_at BX12_buyNow_42 16 rfl)
theorem dX12_buyNow_67 : decode cX12_buyNow 67 = .ok (.ireturn, 1) := dk_172 (bs_at BX12_buyNow_42 17 rfl)
theorem BX12_stoke_0 : bsegs (ByteArray.data cX12_stoke |>.toList.drop 0) 0 [(0, [42]), (1, [3]), (2, [181, 0, 158]), (5, [42]), (6, [42]), (7, [27]), (8, [182, 1, 198]), (11, [182, 0, 171]), (14, [172])] = true := by decide +kernel
theorem dX12_stoke_0 : decode cX12_stoke 0 = .ok (.aload_n 0, 1) := dk_42 (bs_at BX12_stoke_0 0 rfl)
theorem dX12_stoke_1 : decode cX12_stoke 1 = .ok (.iconst 0, 1) := dk_3 (bs_at BX12_stoke_0 1 rfl)
theorem dX12_stoke_2 : decode cX12_stoke 2 = .ok (.putfield 158, 3) := dk_181 0 158 (bs_at BX12_stoke_0 2 rfl) rfl
theorem dX12_stoke_5 : decode cX12_stoke 5 = .ok (.aload_n 0, 1) := dk_42 (bs_at BX12_stoke_0 3 rfl)
theorem dX12_stoke_6 : decode cX12_stoke 6 = .ok (.aload_n 0, 1) := dk_42 (bs_at BX12_stoke_0 4 rfl)
theorem dX12_stoke_7 : decode cX12_stoke 7 = .ok (.iload_n 1, 1) := dk_27 (bs_at BX12_stoke_0 5 rfl)
theorem dX12_stoke_8 : decode cX12_stoke 8 = .ok (.invokevirtual 454, 3) := dk_182 1 198 (bs_at BX12_stoke_0 6 rfl) rfl
theorem dX12_stoke_11 : decode cX12_stoke 11 = .ok (.invokevirtual 171, 3) := dk_182 0 171 (bs_at BX12_stoke_0 7 rfl) rfl
theorem dX12_stoke_14 : decode cX12_stoke 14 = .ok (.ireturn, 1) := dk_172 (bs_at BX12_stoke_0 8 rfl)
theorem BX12_damp_0 : bsegs (ByteArray.data cX12_damp |>.toList.drop 0) 0 [(0, [42]), (1, [3]), (2, [181, 0, 158]), (5, [42]), (6, [42]), (7, [27]), (8, [28]), (9, [182, 1, 201]), (12, [182, 0, 171]), (15, [172])] = true := by decide +kernel
theorem dX12_damp_0 : decode cX12_damp 0 = .ok (.aload_n 0, 1) := dk_42 (bs_at BX12_damp_0 0 rfl)
theorem dX12_damp_1 : decode cX12_damp 1 = .ok (.iconst 0, 1) := dk_3 (bs_at BX12_damp_0 1 rfl)
theorem dX12_damp_2 : decode cX12_damp 2 = .ok (.putfield 158, 3) := dk_181 0 158 (bs_at BX12_damp_0 2 rfl) rfl
theorem dX12_damp_5 : decode cX12_damp 5 = .ok (.aload_n 0, 1) := dk_42 (bs_at BX12_damp_0 3 rfl)
theorem dX12_damp_6 : decode cX12_damp 6 = .ok (.aload_n 0, 1) := dk_42 (bs_at BX12_damp_0 4 rfl)
theorem dX12_damp_7 : decode cX12_damp 7 = .ok (.iload_n 1, 1) := dk_27 (bs_at BX12_damp_0 5 rfl)
theorem dX12_damp_8 : decode cX12_damp 8 = .ok (.iload_n 2, 1) := dk_28 (bs_at BX12_damp_0 6 rfl)
theorem dX12_damp_9 : decode cX12_damp 9 = .ok (.invokevirtual 457, 3) := dk_182 1 201 (bs_at BX12_damp_0 7 rfl) rfl
theorem dX12_damp_12 : decode cX12_damp 12 = .ok (.invokevirtual 171, 3) := dk_182 0 171 (bs_at BX12_damp_0 8 rfl) rfl
theorem dX12_damp_15 : decode cX12_damp 15 = .ok (.ireturn, 1) := dk_172 (bs_at BX12_damp_0 9 rfl)
theorem BX12_buy_0 : bsegs (ByteArray.data cX12_buy |>.toList.drop 0) 0 [(0, [42]), (1, [3]), (2, [181, 0, 158]), (5, [42]), (6, [42]), (7, [27]), (8, [28]), (9, [182, 1, 204]), (12, [182, 0, 171]), (15, [172])] = true := by decide +kernel
theorem dX12_buy_0 : decode cX12_buy 0 = .ok (.aload_n 0, 1) := dk_42 (bs_at BX12_buy_0 0 rfl)
theorem dX12_buy_1 : decode cX12_buy 1 = .ok (.iconst 0, 1) := dk_3 (bs_at BX12_buy_0 1 rfl)
theorem dX12_buy_2 : decode cX12_buy 2 = .ok (.putfield 158, 3) := dk_181 0 158 (bs_at BX12_buy_0 2 rfl) rfl
theorem dX12_buy_5 : decode cX12_buy 5 = .ok (.aload_n 0, 1) := dk_42 (bs_at BX12_buy_0 3 rfl)
theorem dX12_buy_6 : decode cX12_buy 6 = .ok (.aload_n 0, 1) := dk_42 (bs_at BX12_buy_0 4 rfl)
theorem dX12_buy_7 : decode cX12_buy 7 = .ok (.iload_n 1, 1) := dk_27 (bs_at BX12_buy_0 5 rfl)
theorem dX12_buy_8 : decode cX12_buy 8 = .ok (.iload_n 2, 1) := dk_28 (bs_at BX12_buy_0 6 rfl)
theorem dX12_buy_9 : decode cX12_buy 9 = .ok (.invokevirtual 460, 3) := dk_182 1 204 (bs_at BX12_buy_0 7 rfl) rfl
theorem dX12_buy_12 : decode cX12_buy 12 = .ok (.invokevirtual 171, 3) := dk_182 0 171 (bs_at BX12_buy_0 8 rfl) rfl
theorem dX12_buy_15 : decode cX12_buy 15 = .ok (.ireturn, 1) := dk_172 (bs_at BX12_buy_0 9 rfl)
theorem ggX12_burnsOf_X12_tells : GoodIn wsX12_burnsOf wsX12_tells := gi_ch ch_X12_burnsOf ch_X12_tells (by decide +kernel)
theorem gX12_burnsOf_X12_tells : GoodIn wsX12_burnsOf (wsV RX12 415 RX12 yX12_tells wsX12_tells) := gi_ch ch_X12_burnsOf (ch_v [996, 997, 80, 156] rfl ch_X12_tells) (by decide +kernel)
theorem ggX12_burnsOf_X12_within : GoodIn wsX12_burnsOf wsX12_within := gi_ch ch_X12_burnsOf ch_X12_within (by decide +kernel)
theorem gX12_burnsOf_X12_within : GoodIn wsX12_burnsOf (va_wsS RX12 419 yX12_within wsX12_within) := gi_ch ch_X12_burnsOf (ch_s [1014, 1015, 156] rfl ch_X12_within) (by decide +kernel)
theorem ggX12_flaresOf_X12_tells : GoodIn wsX12_flaresOf wsX12_tells := gi_ch ch_X12_flaresOf ch_X12_tells (by decide +kernel)
theorem gX12_flaresOf_X12_tells : GoodIn wsX12_flaresOf (wsV RX12 415 RX12 yX12_tells wsX12_tells) := gi_ch ch_X12_flaresOf (ch_v [996, 997, 80, 156] rfl ch_X12_tells) (by decide +kernel)
theorem ggX12_flaresOf_X12_within : GoodIn wsX12_flaresOf wsX12_within := gi_ch ch_X12_flaresOf ch_X12_within (by decide +kernel)
theorem gX12_flaresOf_X12_within : GoodIn wsX12_flaresOf (va_wsS RX12 419 yX12_within wsX12_within) := gi_ch ch_X12_flaresOf (ch_s [1014, 1015, 156] rfl ch_X12_within) (by decide +kernel)
theorem ggX12_isBarred_X12_tells : GoodIn wsX12_isBarred wsX12_tells := gi_ch ch_X12_isBarred ch_X12_tells (by decide +kernel)
theorem gX12_isBarred_X12_tells : GoodIn wsX12_isBarred (wsV RX12 415 RX12 yX12_tells wsX12_tells) := gi_ch ch_X12_isBarred (ch_v [996, 997, 80, 156] rfl ch_X12_tells) (by decide +kernel)
theorem ggX12_of_X12_isHouse : GoodIn wsX12_of wsX12_isHouse := gi_ch ch_X12_of ch_X12_isHouse (by decide +kernel)
theorem gX12_of_X12_isHouse : GoodIn wsX12_of (wsV RX12 197 RX12 yX12_isHouse wsX12_isHouse) := gi_ch ch_X12_of (ch_v [984, 985, 76, 156] rfl ch_X12_isHouse) (by decide +kernel)
theorem ggX12_of_X12_isSounding : GoodIn wsX12_of wsX12_isSounding := gi_ch ch_X12_of ch_X12_isSounding (by decide +kernel)
theorem gX12_of_X12_isSounding : GoodIn wsX12_of (wsV RX12 185 RX12 yX12_isSounding wsX12_isSounding) := gi_ch ch_X12_of (ch_v [987, 988, 77, 156] rfl ch_X12_isSounding) (by decide +kernel)
theorem ggX12_of_X12_burnsOf : GoodIn wsX12_of wsX12_burnsOf := gi_ch ch_X12_of ch_X12_burnsOf (by decide +kernel)
theorem gX12_of_X12_burnsOf : GoodIn wsX12_of (wsV RX12 200 RX12 yX12_burnsOf wsX12_burnsOf) := gi_ch ch_X12_of (ch_v [993, 994, 79, 156] rfl ch_X12_burnsOf) (by decide +kernel)
theorem ggX12_of_X12_flaresOf : GoodIn wsX12_of wsX12_flaresOf := gi_ch ch_X12_of ch_X12_flaresOf (by decide +kernel)
theorem gX12_of_X12_flaresOf : GoodIn wsX12_of (wsV RX12 204 RX12 yX12_flaresOf wsX12_flaresOf) := gi_ch ch_X12_of (ch_v [1017, 1018, 85, 156] rfl ch_X12_flaresOf) (by decide +kernel)
theorem ggX12_of_X12_isBarred : GoodIn wsX12_of wsX12_isBarred := gi_ch ch_X12_of ch_X12_isBarred (by decide +kernel)
theorem gX12_of_X12_isBarred : GoodIn wsX12_of (wsV RX12 207 RX12 yX12_isBarred wsX12_isBarred) := gi_ch ch_X12_of (ch_v [1021, 1022, 86, 156] rfl ch_X12_isBarred) (by decide +kernel)
theorem ggX12_discords_X12_isSounding : GoodIn wsX12_discords wsX12_isSounding := gi_ch ch_X12_discords ch_X12_isSounding (by decide +kernel)
theorem gX12_discords_X12_isSounding : GoodIn wsX12_discords (wsV RX12 185 RX12 yX12_isSounding wsX12_isSounding) := gi_ch ch_X12_discords (ch_v [987, 988, 77, 156] rfl ch_X12_isSounding) (by decide +kernel)
theorem ggX12_discords_X12_areBeside : GoodIn wsX12_discords wsX12_areBeside := gi_ch ch_X12_discords ch_X12_areBeside (by decide +kernel)
theorem gX12_discords_X12_areBeside : GoodIn wsX12_discords (va_wsS RX12 425 yX12_areBeside wsX12_areBeside) := gi_ch ch_X12_discords (ch_s [1178, 1179, 156] rfl ch_X12_areBeside) (by decide +kernel)
theorem ggX12_discords_X12_tells : GoodIn wsX12_discords wsX12_tells := gi_ch ch_X12_discords ch_X12_tells (by decide +kernel)
theorem gX12_discords_X12_tells : GoodIn wsX12_discords (wsV RX12 415 RX12 yX12_tells wsX12_tells) := gi_ch ch_X12_discords (ch_v [996, 997, 80, 156] rfl ch_X12_tells) (by decide +kernel)
theorem ggX12_discords_X12_within : GoodIn wsX12_discords wsX12_within := gi_ch ch_X12_discords ch_X12_within (by decide +kernel)
theorem gX12_discords_X12_within : GoodIn wsX12_discords (va_wsS RX12 419 yX12_within wsX12_within) := gi_ch ch_X12_discords (ch_s [1014, 1015, 156] rfl ch_X12_within) (by decide +kernel)
theorem ggX12_discord_X12_discords : GoodIn wsX12_discord wsX12_discords := gi_ch ch_X12_discord ch_X12_discords (by decide +kernel)
theorem gX12_discord_X12_discords : GoodIn wsX12_discord (wsV RX12 428 RX12 yX12_discords wsX12_discords) := gi_ch ch_X12_discord (ch_v [1175, 1176, 113, 156] rfl ch_X12_discords) (by decide +kernel)
theorem ggX12_isMet_X12_term : GoodIn wsX12_isMet wsX12_term := gi_ch ch_X12_isMet ch_X12_term (by decide +kernel)
theorem gX12_isMet_X12_term : GoodIn wsX12_isMet (wsV RX12 182 RX12 yX12_term wsX12_term) := gi_ch ch_X12_isMet (ch_v [990, 991, 78, 156] rfl ch_X12_term) (by decide +kernel)
theorem ggX12_isMet_X12_soundingNotes : GoodIn wsX12_isMet wsX12_soundingNotes := gi_ch ch_X12_isMet ch_X12_soundingNotes (by decide +kernel)
theorem gX12_isMet_X12_soundingNotes : GoodIn wsX12_isMet (wsV RX12 431 RX12 yX12_soundingNotes wsX12_soundingNotes) := gi_ch ch_X12_isMet (ch_v [1186, 1187, 114, 156] rfl ch_X12_soundingNotes) (by decide +kernel)
theorem ggX12_sounds_X12_in : GoodIn wsX12_sounds wsX12_in := gi_ch ch_X12_sounds ch_X12_in (by decide +kernel)
theorem gX12_sounds_X12_in : GoodIn wsX12_sounds (va_wsS RX12 178 yX12_in wsX12_in) := gi_ch ch_X12_sounds (ch_s [965, 966, 156] rfl ch_X12_in) (by decide +kernel)
theorem ggX12_sounds_X12_soundingNotes : GoodIn wsX12_sounds wsX12_soundingNotes := gi_ch ch_X12_sounds ch_X12_soundingNotes (by decide +kernel)
theorem gX12_sounds_X12_soundingNotes : GoodIn wsX12_sounds (wsV RX12 431 RX12 yX12_soundingNotes wsX12_soundingNotes) := gi_ch ch_X12_sounds (ch_v [1186, 1187, 114, 156] rfl ch_X12_soundingNotes) (by decide +kernel)
theorem ggX12_sounds_X12_isMet : GoodIn wsX12_sounds wsX12_isMet := gi_ch ch_X12_sounds ch_X12_isMet (by decide +kernel)
theorem gX12_sounds_X12_isMet : GoodIn wsX12_sounds (wsV RX12 439 RX12 yX12_isMet wsX12_isMet) := gi_ch ch_X12_sounds (ch_v [1192, 1193, 115, 156] rfl ch_X12_isMet) (by decide +kernel)
theorem ggX12_sounds_X12_is : GoodIn wsX12_sounds wsX12_is := gi_ch ch_X12_sounds ch_X12_is (by decide +kernel)
theorem gX12_sounds_X12_is : GoodIn wsX12_sounds (va_wsS RX12 436 yX12_is wsX12_is) := gi_ch ch_X12_sounds (ch_s [1189, 1190, 156] rfl ch_X12_is) (by decide +kernel)
theorem ggX12_flare_X12_flaresOf : GoodIn wsX12_flare wsX12_flaresOf := gi_ch ch_X12_flare ch_X12_flaresOf (by decide +kernel)
theorem gX12_flare_X12_flaresOf : GoodIn wsX12_flare (wsV RX12 204 RX12 yX12_flaresOf wsX12_flaresOf) := gi_ch ch_X12_flare (ch_v [1017, 1018, 85, 156] rfl ch_X12_flaresOf) (by decide +kernel)
theorem ggX12_flare_X12_within : GoodIn wsX12_flare wsX12_within := gi_ch ch_X12_flare ch_X12_within (by decide +kernel)
theorem gX12_flare_X12_within : GoodIn wsX12_flare (va_wsS RX12 419 yX12_within wsX12_within) := gi_ch ch_X12_flare (ch_s [1014, 1015, 156] rfl ch_X12_within) (by decide +kernel)
theorem ggX12_canStoke_X12_isBarred : GoodIn wsX12_canStoke wsX12_isBarred := gi_ch ch_X12_canStoke ch_X12_isBarred (by decide +kernel)
theorem gX12_canStoke_X12_isBarred : GoodIn wsX12_canStoke (wsV RX12 207 RX12 yX12_isBarred wsX12_isBarred) := gi_ch ch_X12_canStoke (ch_v [1021, 1022, 86, 156] rfl ch_X12_isBarred) (by decide +kernel)
theorem ggX12_stokeIt_X12_flare : GoodIn wsX12_stokeIt wsX12_flare := gi_ch ch_X12_stokeIt ch_X12_flare (by decide +kernel)
theorem gX12_stokeIt_X12_flare : GoodIn wsX12_stokeIt (wsV RX12 442 RX12 yX12_flare wsX12_flare) := gi_ch ch_X12_stokeIt (ch_v [1214, 1215, 121, 156] rfl ch_X12_flare) (by decide +kernel)
theorem ggX12_stokeNow_X12_isHouse : GoodIn wsX12_stokeNow wsX12_isHouse := gi_ch ch_X12_stokeNow ch_X12_isHouse (by decide +kernel)
theorem gX12_stokeNow_X12_isHouse : GoodIn wsX12_stokeNow (wsV RX12 197 RX12 yX12_isHouse wsX12_isHouse) := gi_ch ch_X12_stokeNow (ch_v [984, 985, 76, 156] rfl ch_X12_isHouse) (by decide +kernel)
theorem ggX12_stokeNow_X12_canStoke : GoodIn wsX12_stokeNow wsX12_canStoke := gi_ch ch_X12_stokeNow ch_X12_canStoke (by decide +kernel)
theorem gX12_stokeNow_X12_canStoke : GoodIn wsX12_stokeNow (wsV RX12 445 RX12 yX12_canStoke wsX12_canStoke) := gi_ch ch_X12_stokeNow (ch_v [1202, 1203, 117, 156] rfl ch_X12_canStoke) (by decide +kernel)
theorem ggX12_stokeNow_X12_remember : GoodIn wsX12_stokeNow wsX12_remember := gi_ch ch_X12_stokeNow ch_X12_remember (by decide +kernel)
theorem gX12_stokeNow_X12_remember : GoodIn wsX12_stokeNow (wsV RX12 448 RX12 yX12_remember wsX12_remember) := gi_ch ch_X12_stokeNow (ch_v [1205, 1206, 118, 156] rfl ch_X12_remember) (by decide +kernel)
theorem ggX12_stokeNow_X12_stokeIt : GoodIn wsX12_stokeNow wsX12_stokeIt := gi_ch ch_X12_stokeNow ch_X12_stokeIt (by decide +kernel)
theorem gX12_stokeNow_X12_stokeIt : GoodIn wsX12_stokeNow (wsV RX12 451 RX12 yX12_stokeIt wsX12_stokeIt) := gi_ch ch_X12_stokeNow (ch_v [1211, 1212, 120, 156] rfl ch_X12_stokeIt) (by decide +kernel)
theorem ggX12_dampNow_X12_in : GoodIn wsX12_dampNow wsX12_in := gi_ch ch_X12_dampNow ch_X12_in (by decide +kernel)
theorem gX12_dampNow_X12_in : GoodIn wsX12_dampNow (va_wsS RX12 178 yX12_in wsX12_in) := gi_ch ch_X12_dampNow (ch_s [965, 966, 156] rfl ch_X12_in) (by decide +kernel)
theorem ggX12_dampNow_X12_isHouse : GoodIn wsX12_dampNow wsX12_isHouse := gi_ch ch_X12_dampNow ch_X12_isHouse (by decide +kernel)
theorem gX12_dampNow_X12_isHouse : GoodIn wsX12_dampNow (wsV RX12 197 RX12 yX12_isHouse wsX12_isHouse) := gi_ch ch_X12_dampNow (ch_v [984, 985, 76, 156] rfl ch_X12_isHouse) (by decide +kernel)
theorem ggX12_dampNow_X12_remember : GoodIn wsX12_dampNow wsX12_remember := gi_ch ch_X12_dampNow ch_X12_remember (by decide +kernel)
theorem gX12_dampNow_X12_remember : GoodIn wsX12_dampNow (wsV RX12 448 RX12 yX12_remember wsX12_remember) := gi_ch ch_X12_dampNow (ch_v [1205, 1206, 118, 156] rfl ch_X12_remember) (by decide +kernel)
theorem ggX12_dampNow_X12_within : GoodIn wsX12_dampNow wsX12_within := gi_ch ch_X12_dampNow ch_X12_within (by decide +kernel)
theorem gX12_dampNow_X12_within : GoodIn wsX12_dampNow (va_wsS RX12 419 yX12_within wsX12_within) := gi_ch ch_X12_dampNow (ch_s [1014, 1015, 156] rfl ch_X12_within) (by decide +kernel)
theorem ggX12_buyNow_X12_in : GoodIn wsX12_buyNow wsX12_in := gi_ch ch_X12_buyNow ch_X12_in (by decide +kernel)
theorem gX12_buyNow_X12_in : GoodIn wsX12_buyNow (va_wsS RX12 178 yX12_in wsX12_in) := gi_ch ch_X12_buyNow (ch_s [965, 966, 156] rfl ch_X12_in) (by decide +kernel)
theorem ggX12_buyNow_X12_isHouse : GoodIn wsX12_buyNow wsX12_isHouse := gi_ch ch_X12_buyNow ch_X12_isHouse (by decide +kernel)
theorem gX12_buyNow_X12_isHouse : GoodIn wsX12_buyNow (wsV RX12 197 RX12 yX12_isHouse wsX12_isHouse) := gi_ch ch_X12_buyNow (ch_v [984, 985, 76, 156] rfl ch_X12_isHouse) (by decide +kernel)
theorem ggX12_buyNow_X12_remember : GoodIn wsX12_buyNow wsX12_remember := gi_ch ch_X12_buyNow ch_X12_remember (by decide +kernel)
theorem gX12_buyNow_X12_remember : GoodIn wsX12_buyNow (wsV RX12 448 RX12 yX12_remember wsX12_remember) := gi_ch ch_X12_buyNow (ch_v [1205, 1206, 118, 156] rfl ch_X12_remember) (by decide +kernel)
theorem ggX12_buyNow_X12_within : GoodIn wsX12_buyNow wsX12_within := gi_ch ch_X12_buyNow ch_X12_within (by decide +kernel)
theorem gX12_buyNow_X12_within : GoodIn wsX12_buyNow (va_wsS RX12 419 yX12_within wsX12_within) := gi_ch ch_X12_buyNow (ch_s [1014, 1015, 156] rfl ch_X12_within) (by decide +kernel)
theorem ggX12_stoke_X12_stokeNow : GoodIn wsX12_stoke wsX12_stokeNow := gi_ch ch_X12_stoke ch_X12_stokeNow (by decide +kernel)
theorem gX12_stoke_X12_stokeNow : GoodIn wsX12_stoke (wsV RX12 454 RX12 yX12_stokeNow wsX12_stokeNow) := gi_ch ch_X12_stoke (ch_v [1199, 1200, 116, 156] rfl ch_X12_stokeNow) (by decide +kernel)
theorem ggX12_stoke_X12_tell : GoodIn wsX12_stoke wsX12_tell := gi_ch ch_X12_stoke ch_X12_tell (by decide +kernel)
theorem gX12_stoke_X12_tell : GoodIn wsX12_stoke (wsV RX12 171 RX12 yX12_tell wsX12_tell) := gi_ch ch_X12_stoke (ch_v [955, 956, 74, 156] rfl ch_X12_tell) (by decide +kernel)
theorem ggX12_damp_X12_dampNow : GoodIn wsX12_damp wsX12_dampNow := gi_ch ch_X12_damp ch_X12_dampNow (by decide +kernel)
theorem gX12_damp_X12_dampNow : GoodIn wsX12_damp (wsV RX12 457 RX12 yX12_dampNow wsX12_dampNow) := gi_ch ch_X12_damp (ch_v [1221, 1222, 122, 156] rfl ch_X12_dampNow) (by decide +kernel)
theorem ggX12_damp_X12_tell : GoodIn wsX12_damp wsX12_tell := gi_ch ch_X12_damp ch_X12_tell (by decide +kernel)
theorem gX12_damp_X12_tell : GoodIn wsX12_damp (wsV RX12 171 RX12 yX12_tell wsX12_tell) := gi_ch ch_X12_damp (ch_v [955, 956, 74, 156] rfl ch_X12_tell) (by decide +kernel)
theorem ggX12_buy_X12_buyNow : GoodIn wsX12_buy wsX12_buyNow := gi_ch ch_X12_buy ch_X12_buyNow (by decide +kernel)
theorem gX12_buy_X12_buyNow : GoodIn wsX12_buy (wsV RX12 460 RX12 yX12_buyNow wsX12_buyNow) := gi_ch ch_X12_buy (ch_v [1228, 1229, 123, 156] rfl ch_X12_buyNow) (by decide +kernel)
theorem ggX12_buy_X12_tell : GoodIn wsX12_buy wsX12_tell := gi_ch ch_X12_buy ch_X12_tell (by decide +kernel)
theorem gX12_buy_X12_tell : GoodIn wsX12_buy (wsV RX12 171 RX12 yX12_tell wsX12_tell) := gi_ch ch_X12_buy (ch_v [955, 956, 74, 156] rfl ch_X12_tell) (by decide +kernel)
set_option maxRecDepth 100000 in
noncomputable def E_v_burnsOf (x : Int32) (y : Int32) (lw : Int32) (bro : Int32) (val : Int64) (sm : Int64) (fw : Nat → Int32) (fe : Nat → Int64) (frs : Nat → Int64) : Int32 × Int32 × Int32 × Int64 × Int64 × (Nat → Int64) × (Nat → Int64) :=
  Lt2 (E_v_tells x 0 y (-1) 1 lw bro val sm fw fe frs) (fun r_75 q0_r_75 => Lt2 q0_r_75 (fun u_76_2_2_2_1_0 q1_u_76_2_2_2_1_0 => Lt2 q1_u_76_2_2_2_1_0 (fun u_76_2_2_2_1_1 q2_u_76_2_2_2_1_1 => Lt2 q2_u_76_2_2_2_1_1 (fun u_76_2_2_2_2_1_0 q3_u_76_2_2_2_2_1_0 => Lt2 q3_u_76_2_2_2_2_1_0 (fun u_76_2_2_2_2_1_1 q4_u_76_2_2_2_2_1_1 => Lt2 q4_u_76_2_2_2_2_1_1 (fun u_76_2_2_1_0 u_76_2_2_1_1 => Lt (E_v_within_20 r_75) (fun r_79 => ((r_79, u_76_2_2_2_1_0, u_76_2_2_2_1_1, u_76_2_2_2_2_1_0, u_76_2_2_2_2_1_1, u_76_2_2_1_0, u_76_2_2_1_1) : Int32 × Int32 × Int32 × Int64 × Int64 × (Nat → Int64) × (Nat → Int64)))))))))
set_option maxHeartbeats 4000000 in
set_option maxRecDepth 100000 in
theorem v_burnsOf (l : Launch) (D : va_G) (K : Nat → ClassId) (m0 : Nat) (x : Int32) (y : Int32) (m_0 : Value) (m_1 : Value) (m_2 : Value) (w0 : Nat) (m_4 : Value) (m_5 : Value) (m_6 : Value) (m_7 : Value) (m_8 : Value) (m_9 : Value) (m_10 : Value) (m_11 : Value) (m_12 : Value) (m_13 : Value) (m_14 : Value) (m_15 : Value) (m_16 : Value) (m_17 : Value) (m_18 : Value) (m_19 : Value) (m_21 : Value) (m_22 : Value) (m_23 : Value) (m_24 : Value) (m_25 : Value) (m_26 : Value) (m_27 : Value) (m_28 : Value) (m_29 : Value) (m_30 : Value) (m_31 : Value) (m_32 : Value) (m_33 : Value) (lw : Int32) (e0 : Nat) (m_36 : Value) (q0 : Nat) (bro : Int32) (val : Int64) (sm : Int64) (m_41 : Value) (m_42 : Value) (m_43 : Value) (m_44 : Value) (m_45 : Value) (m_46 : Value) (m_47 : Value) (m_48 : Value) (m_49 : Value) (m_50 : Value) (m_51 : Value) (m_52 : Value) (m_53 : Value) (m_54 : Value) (m_55 : Value) (m_56 : Value) (m_57 : Value) (m_58 : Value) (m_59 : Value) (fw : Nat → Int32) (gr : Nat → Int32) (fe : Nat → Int64) (frs : Nat → Int64) (sz : Nat) (zbro : 0 ≤ bro.toInt ∧ bro.toInt ≤ 1) (zx : (-1) ≤ x.toInt ∧ x.toInt ≤ 5) (zy : 0 ≤ y.toInt ∧ y.toInt ≤ 7) (zfw : RwOK fw) (zgr : FzM gr fw) : Met l yX12_burnsOf wsX12_burnsOf ({ frames := 4, cells := 0, slots := 0, locals := 102 }) (va_Pc [.ref m0, .int x, .int y] (Pre D K [(cc_O m0 12 [m_0, m_1, m_2, .ref w0, m_4, m_5, m_6, m_7, m_8, m_9, m_10, m_11, m_12, m_13, m_14, m_15, m_16, m_17, m_18, m_19, .int 0, m_21, m_22, m_23, m_24, m_25, m_26, m_27, m_28, m_29, m_30, m_31, m_32, m_33, .int lw, .ref e0, m_36, .ref q0, .int bro, .long val, .long sm, m_41, m_42, m_43, m_44, m_45, m_46, m_47, m_48, m_49, m_50, m_51, m_52, m_53, m_54, m_55, m_56, m_57, m_58, m_59]), (cc_l w0 (K 0) 5500 fw), (cc_rl e0 (K 2) 13 fe), (cc_rl q0 (K 2) 400 frs)] sz)) (va_Qi (S := Su) (fun (r : Int32) (u : Su) => (0 ≤ r.toInt ∧ r.toInt ≤ 20) ∧ (0 ≤ (u.2.2.2.1 1).toInt ∧ (u.2.2.2.1 1).toInt ≤ 1) ∧ ((r, (u.2.2.2.1 0), (u.2.2.2.1 1), (u.2.2.2.2.1 0), (u.2.2.2.2.1 1), (u.2.2.1 0), (u.2.2.1 1)) = E_v_burnsOf x y lw bro val sm fw fe frs) ∧ True) (fun u t => Wd D (va_A [(cc_O m0 12 [m_0, m_1, m_2, .ref w0, m_4, m_5, m_6, m_7, m_8, m_9, m_10, m_11, m_12, m_13, m_14, m_15, m_16, m_17, m_18, m_19, .int 0, m_21, m_22, m_23, m_24, m_25, m_26, m_27, m_28, m_29, m_30, m_31, m_32, m_33, .int lw, .ref e0, m_36, .ref q0, .int bro, .long val, .long sm, m_41, m_42, m_43, m_44, m_45, m_46, m_47, m_48, m_49, m_50, m_51, m_52, m_53, m_54, m_55, m_56, m_57, m_58, m_59]), (cc_l w0 (K 0) 5500 fw), (cc_rl e0 (K 2) 13 fe), (cc_rl q0 (K 2) 400 frs)] sz) ((fun u => [(cc_O m0 12 [m_0, m_1, m_2, .ref w0, m_4, m_5, m_6, m_7, m_8, m_9, m_10, m_11, m_12, m_13, m_14, m_15, m_16, m_17, m_18, m_19, .int 0, m_21, m_22, m_23, m_24, m_25, m_26, m_27, m_28, m_29, m_30, m_31, m_32, m_33, .int (u.2.2.2.1 0), .ref e0, m_36, .ref q0, .int (u.2.2.2.1 1), .long (u.2.2.2.2.1 0), .long (u.2.2.2.2.1 1), m_41, m_42, m_43, m_44, m_45, m_46, m_47, m_48, m_49, m_50, m_51, m_52, m_53, m_54, m_55, m_56, m_57, m_58, m_59]), (cc_l w0 (K 0) 5500 fw), (cc_rl e0 (K 2) 13 (u.2.2.1 0)), (cc_rl q0 (K 2) 400 (u.2.2.1 1))]) u) t) (va_A [(cc_O m0 12 [m_0, m_1, m_2, .ref w0, m_4, m_5, m_6, m_7, m_8, m_9, m_10, m_11, m_12, m_13, m_14, m_15, m_16, m_17, m_18, m_19, .int 0, m_21, m_22, m_23, m_24, m_25, m_26, m_27, m_28, m_29, m_30, m_31, m_32, m_33, .int lw, .ref e0, m_36, .ref q0, .int bro, .long val, .long sm, m_41, m_42, m_43, m_44, m_45, m_46, m_47, m_48, m_49, m_50, m_51, m_52, m_53, m_54, m_55, m_56, m_57, m_58, m_59]), (cc_l w0 (K 0) 5500 fw), (cc_rl e0 (K 2) 13 fe), (cc_rl q0 (K 2) 400 frs)] sz)) 0 0 (va_A [(cc_O m0 12 [m_0, m_1, m_2, .ref w0, m_4, m_5, m_6, m_7, m_8, m_9, m_10, m_11, m_12, m_13, m_14, m_15, m_16, m_17, m_18, m_19, .int 0, m_21, m_22, m_23, m_24, m_25, m_26, m_27, m_28, m_29, m_30, m_31, m_32, m_33, .int lw, .ref e0, m_36, .ref q0, .int bro, .long val, .long sm, m_41, m_42, m_43, m_44, m_45, m_46, m_47, m_48, m_49, m_50, m_51, m_52, m_53, m_54, m_55, m_56, m_57, m_58, m_59]), (cc_l w0 (K 0) 5500 fw), (cc_rl e0 (K 2) 13 fe), (cc_rl q0 (K 2) 400 frs)] sz) := by
  refine Met.ofW (cc := cX12_burnsOf) (maxL := 3) (ret := (some .int)) (by decide +kernel) rfl ?_
  intro p e s m args below meth c s₁ B hml hv
  obtain ⟨rfl, hsz, hP, hK, hD0, hN⟩ := hv
  have hx := B.exec
  have hb := B.bytes
  have hr := B.returns
  have hts := atoms_spec (ws := wsX12_burnsOf) B.pre
  have hown : s.vm.findClass RX12 = some m.cls := findClass_of_methodNamed B.named
  have hlocks := B.notSynchronized
  subst hsz
  have hD := hD0.self (sz := s.heap.size)
  generalize hAe : va_A [(cc_O m0 12 [m_0, m_1, m_2, .ref w0, m_4, m_5, m_6, m_7, m_8, m_9, m_10, m_11, m_12, m_13, m_14, m_15, m_16, m_17, m_18, m_19, .int 0, m_21, m_22, m_23, m_24, m_25, m_26, m_27, m_28, m_29, m_30, m_31, m_32, m_33, .int lw, .ref e0, m_36, .ref q0, .int bro, .long val, .long sm, m_41, m_42, m_43, m_44, m_45, m_46, m_47, m_48, m_49, m_50, m_51, m_52, m_53, m_54, m_55, m_56, m_57, m_58, m_59]), (cc_l w0 (K 0) 5500 fw), (cc_rl e0 (K 2) 13 fe), (cc_rl q0 (K 2) 400 frs)] s.heap.size = A at hD ⊢
  have hA : ∀ q : Nat, s.heap.size ≤ q → A q := fun q h => by rw [← hAe]; exact Or.inr h
  clear hAe
  have hS : va_S A s.heap s.heap [] := va_S.rf
  replace hP : va_P D vwCl [(cc_O m0 12 [m_0, m_1, m_2, .ref w0, m_4, m_5, m_6, m_7, m_8, m_9, m_10, m_11, m_12, m_13, m_14, m_15, m_16, m_17, m_18, m_19, .int 0, m_21, m_22, m_23, m_24, m_25, m_26, m_27, m_28, m_29, m_30, m_31, m_32, m_33, .int lw, .ref e0, m_36, .ref q0, .int bro, .long val, .long sm, m_41, m_42, m_43, m_44, m_45, m_46, m_47, m_48, m_49, m_50, m_51, m_52, m_53, m_54, m_55, m_56, m_57, m_58, m_59]), (cc_l w0 (K 0) 5500 fw), (cc_rl e0 (K 2) 13 fe), (cc_rl q0 (K 2) 400 frs)] s.heap := hP
  have hl := lv_entry [.ref m0, .int x, .int y] (n := 3) (Nat.le_of_ble_eq_true rfl)
  rw [lg_entry_eq]
  generalize (lg_sl [.ref m0, .int x, .int y] ++ List.replicate (3 - (lg_sl [.ref m0, .int x, .int y]).length) Slot.unset).toArray = ls at hl ⊢
  have hl : lv_has ls 3 [(0, .ref m0), (1, .int x), (2, .int y)] := hl
  have hw12 : ∀ w ∈ wsX120, w ∈ wsX12_burnsOf := fun w h => (List.mem_cons_of_mem _ (List.mem_append_right _ h))
  generalize hQ : MQ below _ _ s _ _ _ = Q
  have hE := E_v_burnsOf.eq_def x y lw bro val sm fw fe frs
  refine lv_aload_n hx hb dX12_burnsOf_0 rfl (lv_at hl 0 rfl) (lv_iload_n hx hb dX12_burnsOf_1 rfl (lv_at hl 1 rfl) (lv_iconst (v := 0) hx hb dX12_burnsOf_2 (by decide +kernel) (lv_iload_n hx hb dX12_burnsOf_3 rfl (lv_at hl 2 rfl) (lv_iconst (v := (-1)) hx hb dX12_burnsOf_4 (by decide +kernel) (lv_lconst (v := 1) hx hb dX12_burnsOf_5 (by decide +kernel) (kcl (S := Su) (wr := []) (va_runV (As := [.int x, .int 0, .int y, .int (-1), .long 1]) (rest := []) ⟨hx, hb, hml, hown, hts⟩ (v_tells l D K m0 x 0 y (-1) 1 m_0 m_1 m_2 w0 m_4 m_5 m_6 m_7 m_8 m_9 m_10 m_11 m_12 m_13 m_14 m_15 m_16 m_17 m_18 m_19 m_21 m_22 m_23 m_24 m_25 m_26 m_27 m_28 m_29 m_30 m_31 m_32 m_33 lw e0 m_36 q0 bro val sm m_41 m_42 m_43 m_44 m_45 m_46 m_47 m_48 m_49 m_50 m_51 m_52 m_53 m_54 m_55 m_56 m_57 m_58 m_59 fw gr fe frs s.heap.size (by first | omega | decide) (by first | omega | decide) (by first | omega | decide) zfw zgr) (cwV 5 hts gX12_burnsOf_X12_tells rfl rfl rfl (by decide +kernel) ⟨Nat.le_of_ble_eq_true rfl, Nat.le_of_ble_eq_true rfl⟩) (mkV hK hN (hP.sub [0, 1, 2, 3] rfl) (hD.sub [0, 1, 2, 3] (by decide +kernel) rfl) (ci := 12) (q0 := 0) rfl rfl) rfl rfl hl.1 rfl (lv_room (Nat.le_of_ble_eq_true rfl)) dX12_burnsOf_6 ⟨Nat.le_of_ble_eq_true rfl, Nat.le_of_ble_eq_true rfl⟩) hP hD hS hA [0, 1, 2, 3] [] rfl rfl (by decide +kernel) (by decide +kernel) (fun r_75 u_76 H locs hw hP0 hD0 hS0 => ?_)))))))
  replace hP : va_P D vwCl [(cc_O m0 12 [m_0, m_1, m_2, .ref w0, m_4, m_5, m_6, m_7, m_8, m_9, m_10, m_11, m_12, m_13, m_14, m_15, m_16, m_17, m_18, m_19, .int 0, m_21, m_22, m_23, m_24, m_25, m_26, m_27, m_28, m_29, m_30, m_31, m_32, m_33, .int (u_76.2.2.2.1 0), .ref e0, m_36, .ref q0, .int (u_76.2.2.2.1 1), .long (u_76.2.2.2.2.1 0), .long (u_76.2.2.2.2.1 1), m_41, m_42, m_43, m_44, m_45, m_46, m_47, m_48, m_49, m_50, m_51, m_52, m_53, m_54, m_55, m_56, m_57, m_58, m_59]), (cc_l w0 (K 0) 5500 fw), (cc_rl e0 (K 2) 13 (u_76.2.2.1 0)), (cc_rl q0 (K 2) 400 (u_76.2.2.1 1))] H := hP0
  replace hD := as_D hP hD0 rfl
  replace hS := hS0
  clear hP0 hD0 hS0
  obtain ⟨k_77, k_78, -⟩ := hw
  replace hE := (((((hE.trans (Lt2_in k_78)).trans (Lt2_in rfl)).trans (Lt2_in rfl)).trans (Lt2_in rfl)).trans (Lt2_in rfl)).trans (Lt2_in rfl)
  refine lv_iconst (v := 0) hx hb dX12_burnsOf_9 (by decide +kernel) (lv_bipush (v := 20) hx hb dX12_burnsOf_10 (by decide +kernel) (pci (va_runS (As := [.long r_75, .int 0, .int 20]) (rest := []) ⟨hx, hb, hml, hown, hts⟩ (v_within_20 l D K r_75 H.size) (va_cwS 3 hts gX12_burnsOf_X12_within rfl rfl rfl (by decide +kernel) ⟨Nat.le_of_ble_eq_true rfl, Nat.le_of_ble_eq_true rfl⟩) (mkS hK hN (va_P.nil) (va_D.nil (A := fun _ => True))) rfl rfl hl.1 rfl (lv_room (Nat.le_of_ble_eq_true rfl)) dX12_burnsOf_12 ⟨Nat.le_of_ble_eq_true rfl, Nat.le_of_ble_eq_true rfl⟩) (fun r_79 hw => ?_)))
  obtain ⟨h_81, k_80, -⟩ := hw
  replace hE := hE.trans (Lt_in k_80)
  rw [← hQ]
  have hP9 := hP.sub (ws' := [(cc_O m0 12 [m_0, m_1, m_2, .ref w0, m_4, m_5, m_6, m_7, m_8, m_9, m_10, m_11, m_12, m_13, m_14, m_15, m_16, m_17, m_18, m_19, .int 0, m_21, m_22, m_23, m_24, m_25, m_26, m_27, m_28, m_29, m_30, m_31, m_32, m_33, .int (u_76.2.2.2.1 0), .ref e0, m_36, .ref q0, .int (u_76.2.2.2.1 1), .long (u_76.2.2.2.2.1 0), .long (u_76.2.2.2.2.1 1), m_41, m_42, m_43, m_44, m_45, m_46, m_47, m_48, m_49, m_50, m_51, m_52, m_53, m_54, m_55, m_56, m_57, m_58, m_59]), (cc_l w0 (K 0) 5500 fw), (cc_rl e0 (K 2) 13 (u_76.2.2.1 0)), (cc_rl q0 (K 2) 400 (u_76.2.2.1 1))]) [0, 1, 2, 3] rfl
  have hD9 := sub_D hP9 hD [0, 1, 2, 3] (by decide +kernel) rfl
  exact W.iret (v := r_79) hx hb hr (fun t ht hW => ⟨⟨r_79, ((fun _ => 0, fun _ => fun _ => 0, fun i => match i with | 0 => (u_76.2.2.1 0) | _ => (u_76.2.2.1 1), fun i => match i with | 0 => (u_76.2.2.2.1 0) | _ => (u_76.2.2.2.1 1), fun i => match i with | 0 => (u_76.2.2.2.2.1 0) | _ => (u_76.2.2.2.2.1 1), fun _ => fun _ => none) : Su), rfl, ⟨(show 0 ≤ r_79.toInt ∧ r_79.toInt ≤ 20 by omega), (show 0 ≤ ((u_76.2.2.2.1 1) : Int32).toInt ∧ ((u_76.2.2.2.1 1) : Int32).toInt ≤ 1 by omega), hE.symm, trivial⟩, (⟨by rw [ht]; exact hP9, hD9⟩ : Wd D A _ t)⟩, hS.F ht⟩) hS.2.2 dX12_burnsOf_15
set_option maxRecDepth 100000 in
noncomputable def E_v_flaresOf (x : Int32) (y : Int32) (lw : Int32) (bro : Int32) (val : Int64) (sm : Int64) (fw : Nat → Int32) (fe : Nat → Int64) (frs : Nat → Int64) : Int32 × Int32 × Int32 × Int64 × Int64 × (Nat → Int64) × (Nat → Int64) :=
  Lt2 (E_v_tells x 1 y (-1) 4 lw bro val sm fw fe frs) (fun r_75 q0_r_75 => Lt2 q0_r_75 (fun u_76_2_2_2_1_0 q1_u_76_2_2_2_1_0 => Lt2 q1_u_76_2_2_2_1_0 (fun u_76_2_2_2_1_1 q2_u_76_2_2_2_1_1 => Lt2 q2_u_76_2_2_2_1_1 (fun u_76_2_2_2_2_1_0 q3_u_76_2_2_2_2_1_0 => Lt2 q3_u_76_2_2_2_2_1_0 (fun u_76_2_2_2_2_1_1 q4_u_76_2_2_2_2_1_1 => Lt2 q4_u_76_2_2_2_2_1_1 (fun u_76_2_2_1_0 u_76_2_2_1_1 => Lt (E_v_within_20 r_75) (fun r_79 => ((r_79, u_76_2_2_2_1_0, u_76_2_2_2_1_1, u_76_2_2_2_2_1_0, u_76_2_2_2_2_1_1, u_76_2_2_1_0, u_76_2_2_1_1) : Int32 × Int32 × Int32 × Int64 × Int64 × (Nat → Int64) × (Nat → Int64)))))))))
set_option maxHeartbeats 4000000 in
set_option maxRecDepth 100000 in
theorem v_flaresOf (l : Launch) (D : va_G) (K : Nat → ClassId) (m0 : Nat) (x : Int32) (y : Int32) (m_0 : Value) (m_1 : Value) (m_2 : Value) (w0 : Nat) (m_4 : Value) (m_5 : Value) (m_6 : Value) (m_7 : Value) (m_8 : Value) (m_9 : Value) (m_10 : Value) (m_11 : Value) (m_12 : Value) (m_13 : Value) (m_14 : Value) (m_15 : Value) (m_16 : Value) (m_17 : Value) (m_18 : Value) (m_19 : Value) (m_21 : Value) (m_22 : Value) (m_23 : Value) (m_24 : Value) (m_25 : Value) (m_26 : Value) (m_27 : Value) (m_28 : Value) (m_29 : Value) (m_30 : Value) (m_31 : Value) (m_32 : Value) (m_33 : Value) (lw : Int32) (e0 : Nat) (m_36 : Value) (q0 : Nat) (bro : Int32) (val : Int64) (sm : Int64) (m_41 : Value) (m_42 : Value) (m_43 : Value) (m_44 : Value) (m_45 : Value) (m_46 : Value) (m_47 : Value) (m_48 : Value) (m_49 : Value) (m_50 : Value) (m_51 : Value) (m_52 : Value) (m_53 : Value) (m_54 : Value) (m_55 : Value) (m_56 : Value) (m_57 : Value) (m_58 : Value) (m_59 : Value) (fw : Nat → Int32) (gr : Nat → Int32) (fe : Nat → Int64) (frs : Nat → Int64) (sz : Nat) (zbro : 0 ≤ bro.toInt ∧ bro.toInt ≤ 1) (zx : (-1) ≤ x.toInt ∧ x.toInt ≤ 5) (zy : 0 ≤ y.toInt ∧ y.toInt ≤ 7) (zfw : RwOK fw) (zgr : FzM gr fw) : Met l yX12_flaresOf wsX12_flaresOf ({ frames := 4, cells := 0, slots := 0, locals := 102 }) (va_Pc [.ref m0, .int x, .int y] (Pre D K [(cc_O m0 12 [m_0, m_1, m_2, .ref w0, m_4, m_5, m_6, m_7, m_8, m_9, m_10, m_11, m_12, m_13, m_14, m_15, m_16, m_17, m_18, m_19, .int 0, m_21, m_22, m_23, m_24, m_25, m_26, m_27, m_28, m_29, m_30, m_31, m_32, m_33, .int lw, .ref e0, m_36, .ref q0, .int bro, .long val, .long sm, m_41, m_42, m_43, m_44, m_45, m_46, m_47, m_48, m_49, m_50, m_51, m_52, m_53, m_54, m_55, m_56, m_57, m_58, m_59]), (cc_l w0 (K 0) 5500 fw), (cc_rl e0 (K 2) 13 fe), (cc_rl q0 (K 2) 400 frs)] sz)) (va_Qi (S := Su) (fun (r : Int32) (u : Su) => (0 ≤ r.toInt ∧ r.toInt ≤ 20) ∧ (0 ≤ (u.2.2.2.1 1).toInt ∧ (u.2.2.2.1 1).toInt ≤ 1) ∧ ((r, (u.2.2.2.1 0), (u.2.2.2.1 1), (u.2.2.2.2.1 0), (u.2.2.2.2.1 1), (u.2.2.1 0), (u.2.2.1 1)) = E_v_flaresOf x y lw bro val sm fw fe frs) ∧ True) (fun u t => Wd D (va_A [(cc_O m0 12 [m_0, m_1, m_2, .ref w0, m_4, m_5, m_6, m_7, m_8, m_9, m_10, m_11, m_12, m_13, m_14, m_15, m_16, m_17, m_18, m_19, .int 0, m_21, m_22, m_23, m_24, m_25, m_26, m_27, m_28, m_29, m_30, m_31, m_32, m_33, .int lw, .ref e0, m_36, .ref q0, .int bro, .long val, .long sm, m_41, m_42, m_43, m_44, m_45, m_46, m_47, m_48, m_49, m_50, m_51, m_52, m_53, m_54, m_55, m_56, m_57, m_58, m_59]), (cc_l w0 (K 0) 5500 fw), (cc_rl e0 (K 2) 13 fe), (cc_rl q0 (K 2) 400 frs)] sz) ((fun u => [(cc_O m0 12 [m_0, m_1, m_2, .ref w0, m_4, m_5, m_6, m_7, m_8, m_9, m_10, m_11, m_12, m_13, m_14, m_15, m_16, m_17, m_18, m_19, .int 0, m_21, m_22, m_23, m_24, m_25, m_26, m_27, m_28, m_29, m_30, m_31, m_32, m_33, .int (u.2.2.2.1 0), .ref e0, m_36, .ref q0, .int (u.2.2.2.1 1), .long (u.2.2.2.2.1 0), .long (u.2.2.2.2.1 1), m_41, m_42, m_43, m_44, m_45, m_46, m_47, m_48, m_49, m_50, m_51, m_52, m_53, m_54, m_55, m_56, m_57, m_58, m_59]), (cc_l w0 (K 0) 5500 fw), (cc_rl e0 (K 2) 13 (u.2.2.1 0)), (cc_rl q0 (K 2) 400 (u.2.2.1 1))]) u) t) (va_A [(cc_O m0 12 [m_0, m_1, m_2, .ref w0, m_4, m_5, m_6, m_7, m_8, m_9, m_10, m_11, m_12, m_13, m_14, m_15, m_16, m_17, m_18, m_19, .int 0, m_21, m_22, m_23, m_24, m_25, m_26, m_27, m_28, m_29, m_30, m_31, m_32, m_33, .int lw, .ref e0, m_36, .ref q0, .int bro, .long val, .long sm, m_41, m_42, m_43, m_44, m_45, m_46, m_47, m_48, m_49, m_50, m_51, m_52, m_53, m_54, m_55, m_56, m_57, m_58, m_59]), (cc_l w0 (K 0) 5500 fw), (cc_rl e0 (K 2) 13 fe), (cc_rl q0 (K 2) 400 frs)] sz)) 0 0 (va_A [(cc_O m0 12 [m_0, m_1, m_2, .ref w0, m_4, m_5, m_6, m_7, m_8, m_9, m_10, m_11, m_12, m_13, m_14, m_15, m_16, m_17, m_18, m_19, .int 0, m_21, m_22, m_23, m_24, m_25, m_26, m_27, m_28, m_29, m_30, m_31, m_32, m_33, .int lw, .ref e0, m_36, .ref q0, .int bro, .long val, .long sm, m_41, m_42, m_43, m_44, m_45, m_46, m_47, m_48, m_49, m_50, m_51, m_52, m_53, m_54, m_55, m_56, m_57, m_58, m_59]), (cc_l w0 (K 0) 5500 fw), (cc_rl e0 (K 2) 13 fe), (cc_rl q0 (K 2) 400 frs)] sz) := by
  refine Met.ofW (cc := cX12_flaresOf) (maxL := 3) (ret := (some .int)) (by decide +kernel) rfl ?_
  intro p e s m args below meth c s₁ B hml hv
  obtain ⟨rfl, hsz, hP, hK, hD0, hN⟩ := hv
  have hx := B.exec
  have hb := B.bytes
  have hr := B.returns
  have hts := atoms_spec (ws := wsX12_flaresOf) B.pre
  have hown : s.vm.findClass RX12 = some m.cls := findClass_of_methodNamed B.named
  have hlocks := B.notSynchronized
  subst hsz
  have hD := hD0.self (sz := s.heap.size)
  generalize hAe : va_A [(cc_O m0 12 [m_0, m_1, m_2, .ref w0, m_4, m_5, m_6, m_7, m_8, m_9, m_10, m_11, m_12, m_13, m_14, m_15, m_16, m_17, m_18, m_19, .int 0, m_21, m_22, m_23, m_24, m_25, m_26, m_27, m_28, m_29, m_30, m_31, m_32, m_33, .int lw, .ref e0, m_36, .ref q0, .int bro, .long val, .long sm, m_41, m_42, m_43, m_44, m_45, m_46, m_47, m_48, m_49, m_50, m_51, m_52, m_53, m_54, m_55, m_56, m_57, m_58, m_59]), (cc_l w0 (K 0) 5500 fw), (cc_rl e0 (K 2) 13 fe), (cc_rl q0 (K 2) 400 frs)] s.heap.size = A at hD ⊢
  have hA : ∀ q : Nat, s.heap.size ≤ q → A q := fun q h => by rw [← hAe]; exact Or.inr h
  clear hAe
  have hS : va_S A s.heap s.heap [] := va_S.rf
  replace hP : va_P D vwCl [(cc_O m0 12 [m_0, m_1, m_2, .ref w0, m_4, m_5, m_6, m_7, m_8, m_9, m_10, m_11, m_12, m_13, m_14, m_15, m_16, m_17, m_18, m_19, .int 0, m_21, m_22, m_23, m_24, m_25, m_26, m_27, m_28, m_29, m_30, m_31, m_32, m_33, .int lw, .ref e0, m_36, .ref q0, .int bro, .long val, .long sm, m_41, m_42, m_43, m_44, m_45, m_46, m_47, m_48, m_49, m_50, m_51, m_52, m_53, m_54, m_55, m_56, m_57, m_58, m_59]), (cc_l w0 (K 0) 5500 fw), (cc_rl e0 (K 2) 13 fe), (cc_rl q0 (K 2) 400 frs)] s.heap := hP
  have hl := lv_entry [.ref m0, .int x, .int y] (n := 3) (Nat.le_of_ble_eq_true rfl)
  rw [lg_entry_eq]
  generalize (lg_sl [.ref m0, .int x, .int y] ++ List.replicate (3 - (lg_sl [.ref m0, .int x, .int y]).length) Slot.unset).toArray = ls at hl ⊢
  have hl : lv_has ls 3 [(0, .ref m0), (1, .int x), (2, .int y)] := hl
  have hw12 : ∀ w ∈ wsX120, w ∈ wsX12_flaresOf := fun w h => (List.mem_cons_of_mem _ (List.mem_append_right _ h))
  generalize hQ : MQ below _ _ s _ _ _ = Q
  have hE := E_v_flaresOf.eq_def x y lw bro val sm fw fe frs
  refine lv_aload_n hx hb dX12_flaresOf_0 rfl (lv_at hl 0 rfl) (lv_iload_n hx hb dX12_flaresOf_1 rfl (lv_at hl 1 rfl) (lv_iconst (v := 1) hx hb dX12_flaresOf_2 (by decide +kernel) (lv_iload_n hx hb dX12_flaresOf_3 rfl (lv_at hl 2 rfl) (lv_iconst (v := (-1)) hx hb dX12_flaresOf_4 (by decide +kernel) (lv_ldc2 (v := 4) hx hb hown (hts _ mm_X12_flaresOf_1020) dX12_flaresOf_5 (kcl (S := Su) (wr := []) (va_runV (As := [.int x, .int 1, .int y, .int (-1), .long 4]) (rest := []) ⟨hx, hb, hml, hown, hts⟩ (v_tells l D K m0 x 1 y (-1) 4 m_0 m_1 m_2 w0 m_4 m_5 m_6 m_7 m_8 m_9 m_10 m_11 m_12 m_13 m_14 m_15 m_16 m_17 m_18 m_19 m_21 m_22 m_23 m_24 m_25 m_26 m_27 m_28 m_29 m_30 m_31 m_32 m_33 lw e0 m_36 q0 bro val sm m_41 m_42 m_43 m_44 m_45 m_46 m_47 m_48 m_49 m_50 m_51 m_52 m_53 m_54 m_55 m_56 m_57 m_58 m_59 fw gr fe frs s.heap.size (by first | omega | decide) (by first | omega | decide) (by first | omega | decide) zfw zgr) (cwV 5 hts gX12_flaresOf_X12_tells rfl rfl rfl (by decide +kernel) ⟨Nat.le_of_ble_eq_true rfl, Nat.le_of_ble_eq_true rfl⟩) (mkV hK hN (hP.sub [0, 1, 2, 3] rfl) (hD.sub [0, 1, 2, 3] (by decide +kernel) rfl) (ci := 12) (q0 := 0) rfl rfl) rfl rfl hl.1 rfl (lv_room (Nat.le_of_ble_eq_true rfl)) dX12_flaresOf_8 ⟨Nat.le_of_ble_eq_true rfl, Nat.le_of_ble_eq_true rfl⟩) hP hD hS hA [0, 1, 2, 3] [] rfl rfl (by decide +kernel) (by decide +kernel) (fun r_75 u_76 H locs hw hP0 hD0 hS0 => ?_)))))))
  replace hP : va_P D vwCl [(cc_O m0 12 [m_0, m_1, m_2, .ref w0, m_4, m_5, m_6, m_7, m_8, m_9, m_10, m_11, m_12, m_13, m_14, m_15, m_16, m_17, m_18, m_19, .int 0, m_21, m_22, m_23, m_24, m_25, m_26, m_27, m_28, m_29, m_30, m_31, m_32, m_33, .int (u_76.2.2.2.1 0), .ref e0, m_36, .ref q0, .int (u_76.2.2.2.1 1), .long (u_76.2.2.2.2.1 0), .long (u_76.2.2.2.2.1 1), m_41, m_42, m_43, m_44, m_45, m_46, m_47, m_48, m_49, m_50, m_51, m_52, m_53, m_54, m_55, m_56, m_57, m_58, m_59]), (cc_l w0 (K 0) 5500 fw), (cc_rl e0 (K 2) 13 (u_76.2.2.1 0)), (cc_rl q0 (K 2) 400 (u_76.2.2.1 1))] H := hP0
  replace hD := as_D hP hD0 rfl
  replace hS := hS0
  clear hP0 hD0 hS0
  obtain ⟨k_77, k_78, -⟩ := hw
  replace hE := (((((hE.trans (Lt2_in k_78)).trans (Lt2_in rfl)).trans (Lt2_in rfl)).trans (Lt2_in rfl)).trans (Lt2_in rfl)).trans (Lt2_in rfl)
  refine lv_iconst (v := 0) hx hb dX12_flaresOf_11 (by decide +kernel) (lv_bipush (v := 20) hx hb dX12_flaresOf_12 (by decide +kernel) (pci (va_runS (As := [.long r_75, .int 0, .int 20]) (rest := []) ⟨hx, hb, hml, hown, hts⟩ (v_within_20 l D K r_75 H.size) (va_cwS 3 hts gX12_flaresOf_X12_within rfl rfl rfl (by decide +kernel) ⟨Nat.le_of_ble_eq_true rfl, Nat.le_of_ble_eq_true rfl⟩) (mkS hK hN (va_P.nil) (va_D.nil (A := fun _ => True))) rfl rfl hl.1 rfl (lv_room (Nat.le_of_ble_eq_true rfl)) dX12_flaresOf_14 ⟨Nat.le_of_ble_eq_true rfl, Nat.le_of_ble_eq_true rfl⟩) (fun r_79 hw => ?_)))
  obtain ⟨h_81, k_80, -⟩ := hw
  replace hE := hE.trans (Lt_in k_80)
  rw [← hQ]
  have hP9 := hP.sub (ws' := [(cc_O m0 12 [m_0, m_1, m_2, .ref w0, m_4, m_5, m_6, m_7, m_8, m_9, m_10, m_11, m_12, m_13, m_14, m_15, m_16, m_17, m_18, m_19, .int 0, m_21, m_22, m_23, m_24, m_25, m_26, m_27, m_28, m_29, m_30, m_31, m_32, m_33, .int (u_76.2.2.2.1 0), .ref e0, m_36, .ref q0, .int (u_76.2.2.2.1 1), .long (u_76.2.2.2.2.1 0), .long (u_76.2.2.2.2.1 1), m_41, m_42, m_43, m_44, m_45, m_46, m_47, m_48, m_49, m_50, m_51, m_52, m_53, m_54, m_55, m_56, m_57, m_58, m_59]), (cc_l w0 (K 0) 5500 fw), (cc_rl e0 (K 2) 13 (u_76.2.2.1 0)), (cc_rl q0 (K 2) 400 (u_76.2.2.1 1))]) [0, 1, 2, 3] rfl
  have hD9 := sub_D hP9 hD [0, 1, 2, 3] (by decide +kernel) rfl
  exact W.iret (v := r_79) hx hb hr (fun t ht hW => ⟨⟨r_79, ((fun _ => 0, fun _ => fun _ => 0, fun i => match i with | 0 => (u_76.2.2.1 0) | _ => (u_76.2.2.1 1), fun i => match i with | 0 => (u_76.2.2.2.1 0) | _ => (u_76.2.2.2.1 1), fun i => match i with | 0 => (u_76.2.2.2.2.1 0) | _ => (u_76.2.2.2.2.1 1), fun _ => fun _ => none) : Su), rfl, ⟨(show 0 ≤ r_79.toInt ∧ r_79.toInt ≤ 20 by omega), (show 0 ≤ ((u_76.2.2.2.1 1) : Int32).toInt ∧ ((u_76.2.2.2.1 1) : Int32).toInt ≤ 1 by omega), hE.symm, trivial⟩, (⟨by rw [ht]; exact hP9, hD9⟩ : Wd D A _ t)⟩, hS.F ht⟩) hS.2.2 dX12_flaresOf_17
set_option maxRecDepth 100000 in
noncomputable def E_v_isBarred (x : Int32) (lw : Int32) (bro : Int32) (val : Int64) (sm : Int64) (fw : Nat → Int32) (fe : Nat → Int64) (frs : Nat → Int64) : Int32 × Int32 × Int32 × Int64 × Int64 × (Nat → Int64) × (Nat → Int64) :=
  Lt (fw (3 : Int32).toNatClampNeg : Int32) (fun x_73 => Lt2 (E_v_tells x_73 3 x (-1) 0 lw bro val sm fw fe frs) (fun r_74 q0_r_74 => Lt2 q0_r_74 (fun u_75_2_2_2_1_0 q1_u_75_2_2_2_1_0 => Lt2 q1_u_75_2_2_2_1_0 (fun u_75_2_2_2_1_1 q2_u_75_2_2_2_1_1 => Lt2 q2_u_75_2_2_2_1_1 (fun u_75_2_2_2_2_1_0 q3_u_75_2_2_2_2_1_0 => Lt2 q3_u_75_2_2_2_2_1_0 (fun u_75_2_2_2_2_1_1 q4_u_75_2_2_2_2_1_1 => Lt2 q4_u_75_2_2_2_2_1_1 (fun u_75_2_2_1_0 u_75_2_2_1_1 => if (lg_cmp r_74 1) = 0 then (((1, u_75_2_2_2_1_0, u_75_2_2_2_1_1, u_75_2_2_2_2_1_0, u_75_2_2_2_2_1_1, u_75_2_2_1_0, u_75_2_2_1_1) : Int32 × Int32 × Int32 × Int64 × Int64 × (Nat → Int64) × (Nat → Int64))) else (((0, u_75_2_2_2_1_0, u_75_2_2_2_1_1, u_75_2_2_2_2_1_0, u_75_2_2_2_2_1_1, u_75_2_2_1_0, u_75_2_2_1_1) : Int32 × Int32 × Int32 × Int64 × Int64 × (Nat → Int64) × (Nat → Int64))))))))))
set_option maxHeartbeats 4000000 in
set_option maxRecDepth 100000 in
theorem v_isBarred (l : Launch) (D : va_G) (K : Nat → ClassId) (m0 : Nat) (x : Int32) (m_0 : Value) (m_1 : Value) (m_2 : Value) (w0 : Nat) (m_4 : Value) (m_5 : Value) (m_6 : Value) (m_7 : Value) (m_8 : Value) (m_9 : Value) (m_10 : Value) (m_11 : Value) (m_12 : Value) (m_13 : Value) (m_14 : Value) (m_15 : Value) (m_16 : Value) (m_17 : Value) (m_18 : Value) (m_19 : Value) (m_21 : Value) (m_22 : Value) (m_23 : Value) (m_24 : Value) (m_25 : Value) (m_26 : Value) (m_27 : Value) (m_28 : Value) (m_29 : Value) (m_30 : Value) (m_31 : Value) (m_32 : Value) (m_33 : Value) (lw : Int32) (e0 : Nat) (m_36 : Value) (q0 : Nat) (bro : Int32) (val : Int64) (sm : Int64) (m_41 : Value) (m_42 : Value) (m_43 : Value) (m_44 : Value) (m_45 : Value) (m_46 : Value) (m_47 : Value) (m_48 : Value) (m_49 : Value) (m_50 : Value) (m_51 : Value) (m_52 : Value) (m_53 : Value) (m_54 : Value) (m_55 : Value) (m_56 : Value) (m_57 : Value) (m_58 : Value) (m_59 : Value) (fw : Nat → Int32) (gr : Nat → Int32) (fe : Nat → Int64) (frs : Nat → Int64) (sz : Nat) (zbro : 0 ≤ bro.toInt ∧ bro.toInt ≤ 1) (zx : 0 ≤ x.toInt ∧ x.toInt ≤ 7) (zfw : RwOK fw) (zgr : FzM gr fw) : Met l yX12_isBarred wsX12_isBarred ({ frames := 4, cells := 0, slots := 0, locals := 102 }) (va_Pc [.ref m0, .int x] (Pre D K [(cc_O m0 12 [m_0, m_1, m_2, .ref w0, m_4, m_5, m_6, m_7, m_8, m_9, m_10, m_11, m_12, m_13, m_14, m_15, m_16, m_17, m_18, m_19, .int 0, m_21, m_22, m_23, m_24, m_25, m_26, m_27, m_28, m_29, m_30, m_31, m_32, m_33, .int lw, .ref e0, m_36, .ref q0, .int bro, .long val, .long sm, m_41, m_42, m_43, m_44, m_45, m_46, m_47, m_48, m_49, m_50, m_51, m_52, m_53, m_54, m_55, m_56, m_57, m_58, m_59]), (cc_l w0 (K 0) 5500 fw), (cc_rl e0 (K 2) 13 fe), (cc_rl q0 (K 2) 400 frs)] sz)) (va_Qi (S := Su) (fun (r : Int32) (u : Su) => (0 ≤ r.toInt ∧ r.toInt ≤ 1) ∧ (0 ≤ (u.2.2.2.1 1).toInt ∧ (u.2.2.2.1 1).toInt ≤ 1) ∧ ((r, (u.2.2.2.1 0), (u.2.2.2.1 1), (u.2.2.2.2.1 0), (u.2.2.2.2.1 1), (u.2.2.1 0), (u.2.2.1 1)) = E_v_isBarred x lw bro val sm fw fe frs) ∧ True) (fun u t => Wd D (va_A [(cc_O m0 12 [m_0, m_1, m_2, .ref w0, m_4, m_5, m_6, m_7, m_8, m_9, m_10, m_11, m_12, m_13, m_14, m_15, m_16, m_17, m_18, m_19, .int 0, m_21, m_22, m_23, m_24, m_25, m_26, m_27, m_28, m_29, m_30, m_31, m_32, m_33, .int lw, .ref e0, m_36, .ref q0, .int bro, .long val, .long sm, m_41, m_42, m_43, m_44, m_45, m_46, m_47, m_48, m_49, m_50, m_51, m_52, m_53, m_54, m_55, m_56, m_57, m_58, m_59]), (cc_l w0 (K 0) 5500 fw), (cc_rl e0 (K 2) 13 fe), (cc_rl q0 (K 2) 400 frs)] sz) ((fun u => [(cc_O m0 12 [m_0, m_1, m_2, .ref w0, m_4, m_5, m_6, m_7, m_8, m_9, m_10, m_11, m_12, m_13, m_14, m_15, m_16, m_17, m_18, m_19, .int 0, m_21, m_22, m_23, m_24, m_25, m_26, m_27, m_28, m_29, m_30, m_31, m_32, m_33, .int (u.2.2.2.1 0), .ref e0, m_36, .ref q0, .int (u.2.2.2.1 1), .long (u.2.2.2.2.1 0), .long (u.2.2.2.2.1 1), m_41, m_42, m_43, m_44, m_45, m_46, m_47, m_48, m_49, m_50, m_51, m_52, m_53, m_54, m_55, m_56, m_57, m_58, m_59]), (cc_l w0 (K 0) 5500 fw), (cc_rl e0 (K 2) 13 (u.2.2.1 0)), (cc_rl q0 (K 2) 400 (u.2.2.1 1))]) u) t) (va_A [(cc_O m0 12 [m_0, m_1, m_2, .ref w0, m_4, m_5, m_6, m_7, m_8, m_9, m_10, m_11, m_12, m_13, m_14, m_15, m_16, m_17, m_18, m_19, .int 0, m_21, m_22, m_23, m_24, m_25, m_26, m_27, m_28, m_29, m_30, m_31, m_32, m_33, .int lw, .ref e0, m_36, .ref q0, .int bro, .long val, .long sm, m_41, m_42, m_43, m_44, m_45, m_46, m_47, m_48, m_49, m_50, m_51, m_52, m_53, m_54, m_55, m_56, m_57, m_58, m_59]), (cc_l w0 (K 0) 5500 fw), (cc_rl e0 (K 2) 13 fe), (cc_rl q0 (K 2) 400 frs)] sz)) 0 0 (va_A [(cc_O m0 12 [m_0, m_1, m_2, .ref w0, m_4, m_5, m_6, m_7, m_8, m_9, m_10, m_11, m_12, m_13, m_14, m_15, m_16, m_17, m_18, m_19, .int 0, m_21, m_22, m_23, m_24, m_25, m_26, m_27, m_28, m_29, m_30, m_31, m_32, m_33, .int lw, .ref e0, m_36, .ref q0, .int bro, .long val, .long sm, m_41, m_42, m_43, m_44, m_45, m_46, m_47, m_48, m_49, m_50, m_51, m_52, m_53, m_54, m_55, m_56, m_57, m_58, m_59]), (cc_l w0 (K 0) 5500 fw), (cc_rl e0 (K 2) 13 fe), (cc_rl q0 (K 2) 400 frs)] sz) := by
  refine Met.ofW (cc := cX12_isBarred) (maxL := 2) (ret := (some .boolean)) (by decide +kernel) rfl ?_
  intro p e s m args below meth c s₁ B hml hv
  obtain ⟨rfl, hsz, hP, hK, hD0, hN⟩ := hv
  have hx := B.exec
  have hb := B.bytes
  have hr := B.returns
  have hts := atoms_spec (ws := wsX12_isBarred) B.pre
  have hown : s.vm.findClass RX12 = some m.cls := findClass_of_methodNamed B.named
  have hlocks := B.notSynchronized
  subst hsz
  have hD := hD0.self (sz := s.heap.size)
  generalize hAe : va_A [(cc_O m0 12 [m_0, m_1, m_2, .ref w0, m_4, m_5, m_6, m_7, m_8, m_9, m_10, m_11, m_12, m_13, m_14, m_15, m_16, m_17, m_18, m_19, .int 0, m_21, m_22, m_23, m_24, m_25, m_26, m_27, m_28, m_29, m_30, m_31, m_32, m_33, .int lw, .ref e0, m_36, .ref q0, .int bro, .long val, .long sm, m_41, m_42, m_43, m_44, m_45, m_46, m_47, m_48, m_49, m_50, m_51, m_52, m_53, m_54, m_55, m_56, m_57, m_58, m_59]), (cc_l w0 (K 0) 5500 fw), (cc_rl e0 (K 2) 13 fe), (cc_rl q0 (K 2) 400 frs)] s.heap.size = A at hD ⊢
  have hA : ∀ q : Nat, s.heap.size ≤ q → A q := fun q h => by rw [← hAe]; exact Or.inr h
  clear hAe
  have hS : va_S A s.heap s.heap [] := va_S.rf
  replace hP : va_P D vwCl [(cc_O m0 12 [m_0, m_1, m_2, .ref w0, m_4, m_5, m_6, m_7, m_8, m_9, m_10, m_11, m_12, m_13, m_14, m_15, m_16, m_17, m_18, m_19, .int 0, m_21, m_22, m_23, m_24, m_25, m_26, m_27, m_28, m_29, m_30, m_31, m_32, m_33, .int lw, .ref e0, m_36, .ref q0, .int bro, .long val, .long sm, m_41, m_42, m_43, m_44, m_45, m_46, m_47, m_48, m_49, m_50, m_51, m_52, m_53, m_54, m_55, m_56, m_57, m_58, m_59]), (cc_l w0 (K 0) 5500 fw), (cc_rl e0 (K 2) 13 fe), (cc_rl q0 (K 2) 400 frs)] s.heap := hP
  have hl := lv_entry [.ref m0, .int x] (n := 2) (Nat.le_of_ble_eq_true rfl)
  rw [lg_entry_eq]
  generalize (lg_sl [.ref m0, .int x] ++ List.replicate (2 - (lg_sl [.ref m0, .int x]).length) Slot.unset).toArray = ls at hl ⊢
  have hl : lv_has ls 2 [(0, .ref m0), (1, .int x)] := hl
  have hw12 : ∀ w ∈ wsX120, w ∈ wsX12_isBarred := fun w h => (List.mem_cons_of_mem _ (List.mem_append_right _ h))
  generalize hQ : MQ below _ _ s _ _ _ = Q
  have hE := E_v_isBarred.eq_def x lw bro val sm fw fe frs
  refine lv_aload_n hx hb dX12_isBarred_0 rfl (lv_at hl 0 rfl) (lv_aload_n hx hb dX12_isBarred_1 rfl (lv_at hl 0 rfl) (va_get (ci := 12) (v := .ref w0) (C := RX12) (T := TX12) (N := 60) hx hb hts hw12 hown hK hP 0 rfl rfl 3 (by decide +kernel) (hts _ mm_X12_isBarred_833) (fun _ h9 => h9) rfl dX12_isBarred_2 (lv_iconst (v := 3) hx hb dX12_isBarred_5 (by decide +kernel) (va_iald hx hb hK hP 1 0 rfl rfl (i_in (x := 3) rfl (by omega)) dX12_isBarred_6 (lv_topi (fun x_73 ex_73 => ?_))))))
  replace hE := hE.trans (Lt_in ex_73)
  have px_73 := RwOK.at zfw (show (3 : Int32).toInt = 3 from rfl) (show 0 ≤ 3 ∧ 3 < 100 by omega)
  rw [← ex_73] at px_73
  have hx_73 := PR.r_3 px_73 (by omega)
  refine lv_iconst (v := 3) hx hb dX12_isBarred_7 (by decide +kernel) (lv_iload_n hx hb dX12_isBarred_8 rfl (lv_at hl 1 rfl) (lv_iconst (v := (-1)) hx hb dX12_isBarred_9 (by decide +kernel) (lv_lconst (v := 0) hx hb dX12_isBarred_10 (by decide +kernel) (kcl (S := Su) (wr := []) (va_runV (As := [.int x_73, .int 3, .int x, .int (-1), .long 0]) (rest := []) ⟨hx, hb, hml, hown, hts⟩ (v_tells l D K m0 x_73 3 x (-1) 0 m_0 m_1 m_2 w0 m_4 m_5 m_6 m_7 m_8 m_9 m_10 m_11 m_12 m_13 m_14 m_15 m_16 m_17 m_18 m_19 m_21 m_22 m_23 m_24 m_25 m_26 m_27 m_28 m_29 m_30 m_31 m_32 m_33 lw e0 m_36 q0 bro val sm m_41 m_42 m_43 m_44 m_45 m_46 m_47 m_48 m_49 m_50 m_51 m_52 m_53 m_54 m_55 m_56 m_57 m_58 m_59 fw gr fe frs s.heap.size (by first | omega | decide) (by first | omega | decide) (by first | omega | decide) zfw zgr) (cwV 5 hts gX12_isBarred_X12_tells rfl rfl rfl (by decide +kernel) ⟨Nat.le_of_ble_eq_true rfl, Nat.le_of_ble_eq_true rfl⟩) (mkV hK hN (hP.sub [0, 1, 2, 3] rfl) (hD.sub [0, 1, 2, 3] (by decide +kernel) rfl) (ci := 12) (q0 := 0) rfl rfl) rfl rfl hl.1 rfl (lv_room (Nat.le_of_ble_eq_true rfl)) dX12_isBarred_11 ⟨Nat.le_of_ble_eq_true rfl, Nat.le_of_ble_eq_true rfl⟩) hP hD hS hA [0, 1, 2, 3] [] rfl rfl (by decide +kernel) (by decide +kernel) (fun r_74 u_75 H locs hw hP0 hD0 hS0 => ?_)))))
  replace hP : va_P D vwCl [(cc_O m0 12 [m_0, m_1, m_2, .ref w0, m_4, m_5, m_6, m_7, m_8, m_9, m_10, m_11, m_12, m_13, m_14, m_15, m_16, m_17, m_18, m_19, .int 0, m_21, m_22, m_23, m_24, m_25, m_26, m_27, m_28, m_29, m_30, m_31, m_32, m_33, .int (u_75.2.2.2.1 0), .ref e0, m_36, .ref q0, .int (u_75.2.2.2.1 1), .long (u_75.2.2.2.2.1 0), .long (u_75.2.2.2.2.1 1), m_41, m_42, m_43, m_44, m_45, m_46, m_47, m_48, m_49, m_50, m_51, m_52, m_53, m_54, m_55, m_56, m_57, m_58, m_59]), (cc_l w0 (K 0) 5500 fw), (cc_rl e0 (K 2) 13 (u_75.2.2.1 0)), (cc_rl q0 (K 2) 400 (u_75.2.2.1 1))] H := hP0
  replace hD := as_D hP hD0 rfl
  replace hS := hS0
  clear hP0 hD0 hS0
  obtain ⟨k_76, k_77, -⟩ := hw
  replace hE := (((((hE.trans (Lt2_in k_77)).trans (Lt2_in rfl)).trans (Lt2_in rfl)).trans (Lt2_in rfl)).trans (Lt2_in rfl)).trans (Lt2_in rfl)
  refine lv_lconst (v := 1) hx hb dX12_isBarred_14 (by decide +kernel) ?_
  refine W.lcmp hx hb dX12_isBarred_15 ?_
  refine lv_if_ne (tgt := 23) hx hb dX12_isBarred_16 (by decide +kernel) (fun c_78 => ?_) (fun c_78 => ?_)
  · have c_78i := l_ne (x := r_74.toInt) (y := 1) rfl rfl (fun q => c_78 ((lg_cmp_eq r_74 1).mpr q))
    replace hE := hE.trans (if_neg c_78)
    refine lv_iconst (v := 0) hx hb dX12_isBarred_23 (by decide +kernel) ?_
    rw [← hQ]
    have hP9 := hP.sub (ws' := [(cc_O m0 12 [m_0, m_1, m_2, .ref w0, m_4, m_5, m_6, m_7, m_8, m_9, m_10, m_11, m_12, m_13, m_14, m_15, m_16, m_17, m_18, m_19, .int 0, m_21, m_22, m_23, m_24, m_25, m_26, m_27, m_28, m_29, m_30, m_31, m_32, m_33, .int (u_75.2.2.2.1 0), .ref e0, m_36, .ref q0, .int (u_75.2.2.2.1 1), .long (u_75.2.2.2.2.1 0), .long (u_75.2.2.2.2.1 1), m_41, m_42, m_43, m_44, m_45, m_46, m_47, m_48, m_49, m_50, m_51, m_52, m_53, m_54, m_55, m_56, m_57, m_58, m_59]), (cc_l w0 (K 0) 5500 fw), (cc_rl e0 (K 2) 13 (u_75.2.2.1 0)), (cc_rl q0 (K 2) 400 (u_75.2.2.1 1))]) [0, 1, 2, 3] rfl
    have hD9 := sub_D hP9 hD [0, 1, 2, 3] (by decide +kernel) rfl
    exact W.zret (v := 0) hx hb hr (by decide +kernel) (fun t ht hW => ⟨⟨0, ((fun _ => 0, fun _ => fun _ => 0, fun i => match i with | 0 => (u_75.2.2.1 0) | _ => (u_75.2.2.1 1), fun i => match i with | 0 => (u_75.2.2.2.1 0) | _ => (u_75.2.2.2.1 1), fun i => match i with | 0 => (u_75.2.2.2.2.1 0) | _ => (u_75.2.2.2.2.1 1), fun _ => fun _ => none) : Su), rfl, ⟨(show 0 ≤ (0 : Int32).toInt ∧ (0 : Int32).toInt ≤ 1 by decide), (show 0 ≤ ((u_75.2.2.2.1 1) : Int32).toInt ∧ ((u_75.2.2.2.1 1) : Int32).toInt ≤ 1 by omega), hE.symm, trivial⟩, (⟨by rw [ht]; exact hP9, hD9⟩ : Wd D A _ t)⟩, hS.F ht⟩) hS.2.2 dX12_isBarred_24
  · have c_78i := l_eq (x := r_74.toInt) (y := 1) rfl rfl ((lg_cmp_eq r_74 1).mp c_78)
    replace hE := hE.trans (if_pos c_78)
    refine lv_iconst (v := 1) hx hb dX12_isBarred_19 (by decide +kernel) (lv_goto (tgt := 24) hx hb dX12_isBarred_20 (by decide +kernel) ?_)
    rw [← hQ]
    have hP9 := hP.sub (ws' := [(cc_O m0 12 [m_0, m_1, m_2, .ref w0, m_4, m_5, m_6, m_7, m_8, m_9, m_10, m_11, m_12, m_13, m_14, m_15, m_16, m_17, m_18, m_19, .int 0, m_21, m_22, m_23, m_24, m_25, m_26, m_27, m_28, m_29, m_30, m_31, m_32, m_33, .int (u_75.2.2.2.1 0), .ref e0, m_36, .ref q0, .int (u_75.2.2.2.1 1), .long (u_75.2.2.2.2.1 0), .long (u_75.2.2.2.2.1 1), m_41, m_42, m_43, m_44, m_45, m_46, m_47, m_48, m_49, m_50, m_51, m_52, m_53, m_54, m_55, m_56, m_57, m_58, m_59]), (cc_l w0 (K 0) 5500 fw), (cc_rl e0 (K 2) 13 (u_75.2.2.1 0)), (cc_rl q0 (K 2) 400 (u_75.2.2.1 1))]) [0, 1, 2, 3] rfl
    have hD9 := sub_D hP9 hD [0, 1, 2, 3] (by decide +kernel) rfl
    exact W.zret (v := 1) hx hb hr (by decide +kernel) (fun t ht hW => ⟨⟨1, ((fun _ => 0, fun _ => fun _ => 0, fun i => match i with | 0 => (u_75.2.2.1 0) | _ => (u_75.2.2.1 1), fun i => match i with | 0 => (u_75.2.2.2.1 0) | _ => (u_75.2.2.2.1 1), fun i => match i with | 0 => (u_75.2.2.2.2.1 0) | _ => (u_75.2.2.2.2.1 1), fun _ => fun _ => none) : Su), rfl, ⟨(show 0 ≤ (1 : Int32).toInt ∧ (1 : Int32).toInt ≤ 1 by decide), (show 0 ≤ ((u_75.2.2.2.1 1) : Int32).toInt ∧ ((u_75.2.2.2.1 1) : Int32).toInt ≤ 1 by omega), hE.symm, trivial⟩, (⟨by rw [ht]; exact hP9, hD9⟩ : Wd D A _ t)⟩, hS.F ht⟩) hS.2.2 dX12_isBarred_24
set_option maxRecDepth 100000 in
noncomputable def E_v_of (x : Int32) (y : Int32) (thr : Int32) (lw : Int32) (bro : Int32) (val : Int64) (sm : Int64) (fw : Nat → Int32) (fe : Nat → Int64) (frs : Nat → Int64) : Int32 × Int32 × Int32 × Int64 × Int64 × (Nat → Int64) × (Nat → Int64) :=
  Lt (E_v_isHouse x fw) (fun r_147 => if r_147 = 1 then (if (y : Int32).toInt = 0 then (Lt (35 + x : Int32) (fun x_153 => Lt (fw (x_153 : Int32).toNatClampNeg : Int32) (fun x_154 => ((x_154, lw, bro, val, sm, fe, frs) : Int32 × Int32 × Int32 × Int64 × Int64 × (Nat → Int64) × (Nat → Int64))))) else (if (y : Int32).toInt = 1 then (Lt (43 + x : Int32) (fun x_155 => Lt (fw (x_155 : Int32).toNatClampNeg : Int32) (fun x_156 => ((x_156, lw, bro, val, sm, fe, frs) : Int32 × Int32 × Int32 × Int64 × Int64 × (Nat → Int64) × (Nat → Int64))))) else (if (y : Int32).toInt = 2 then (Lt (19 + x : Int32) (fun x_157 => Lt (fw (x_157 : Int32).toNatClampNeg : Int32) (fun x_158 => ((x_158, lw, bro, val, sm, fe, frs) : Int32 × Int32 × Int32 × Int64 × Int64 × (Nat → Int64) × (Nat → Int64))))) else (if (y : Int32).toInt = 3 then (Lt (51 + x : Int32) (fun x_159 => Lt (fw (x_159 : Int32).toNatClampNeg : Int32) (fun x_160 => ((x_160, lw, bro, val, sm, fe, frs) : Int32 × Int32 × Int32 × Int64 × Int64 × (Nat → Int64) × (Nat → Int64))))) else (if (y : Int32).toInt = 4 then (Lt (59 + x : Int32) (fun x_161 => Lt (fw (x_161 : Int32).toNatClampNeg : Int32) (fun x_162 => ((x_162, lw, bro, val, sm, fe, frs) : Int32 × Int32 × Int32 × Int64 × Int64 × (Nat → Int64) × (Nat → Int64))))) else (if (y : Int32).toInt = 5 then (Lt (11 + x : Int32) (fun x_163 => Lt (fw (x_163 : Int32).toNatClampNeg : Int32) (fun x_164 => ((x_164, lw, bro, val, sm, fe, frs) : Int32 × Int32 × Int32 × Int64 × Int64 × (Nat → Int64) × (Nat → Int64))))) else (if (y : Int32).toInt = 6 then (Lt (27 + x : Int32) (fun x_165 => Lt (fw (x_165 : Int32).toNatClampNeg : Int32) (fun x_166 => ((x_166, lw, bro, val, sm, fe, frs) : Int32 × Int32 × Int32 × Int64 × Int64 × (Nat → Int64) × (Nat → Int64))))) else (if (y : Int32).toInt = 7 then (Lt (E_v_isSounding x fw) (fun r_167 => if r_167 = 0 then (((0, lw, bro, val, sm, fe, frs) : Int32 × Int32 × Int32 × Int64 × Int64 × (Nat → Int64) × (Nat → Int64))) else (((1, lw, bro, val, sm, fe, frs) : Int32 × Int32 × Int32 × Int64 × Int64 × (Nat → Int64) × (Nat → Int64))))) else (if (y : Int32).toInt = 8 then (Lt (fw (3 : Int32).toNatClampNeg : Int32) (fun x_171 => Lt2 (E_v_burnsOf x_171 x lw bro val sm fw fe frs) (fun r_172 q0_r_172 => Lt2 q0_r_172 (fun u_173_2_2_2_1_0 q1_u_173_2_2_2_1_0 => Lt2 q1_u_173_2_2_2_1_0 (fun u_173_2_2_2_1_1 q2_u_173_2_2_2_1_1 => Lt2 q2_u_173_2_2_2_1_1 (fun u_173_2_2_2_2_1_0 q3_u_173_2_2_2_2_1_0 => Lt2 q3_u_173_2_2_2_2_1_0 (fun u_173_2_2_2_2_1_1 q4_u_173_2_2_2_2_1_1 => Lt2 q4_u_173_2_2_2_2_1_1 (fun u_173_2_2_1_0 u_173_2_2_1_1 => ((r_172, u_173_2_2_2_1_0, u_173_2_2_2_1_1, u_173_2_2_2_2_1_0, u_173_2_2_2_2_1_1, u_173_2_2_1_0, u_173_2_2_1_1) : Int32 × Int32 × Int32 × Int64 × Int64 × (Nat → Int64) × (Nat → Int64)))))))))) else (if (y : Int32).toInt = 9 then (Lt (fw (3 : Int32).toNatClampNeg : Int32) (fun x_177 => Lt2 (E_v_flaresOf x_177 x lw bro val sm fw fe frs) (fun r_178 q0_r_178 => Lt2 q0_r_178 (fun u_179_2_2_2_1_0 q1_u_179_2_2_2_1_0 => Lt2 q1_u_179_2_2_2_1_0 (fun u_179_2_2_2_1_1 q2_u_179_2_2_2_1_1 => Lt2 q2_u_179_2_2_2_1_1 (fun u_179_2_2_2_2_1_0 q3_u_179_2_2_2_2_1_0 => Lt2 q3_u_179_2_2_2_2_1_0 (fun u_179_2_2_2_2_1_1 q4_u_179_2_2_2_2_1_1 => Lt2 q4_u_179_2_2_2_2_1_1 (fun u_179_2_2_1_0 u_179_2_2_1_1 => ((r_178, u_179_2_2_2_1_0, u_179_2_2_2_1_1, u_179_2_2_2_2_1_0, u_179_2_2_2_2_1_1, u_179_2_2_1_0, u_179_2_2_1_1) : Int32 × Int32 × Int32 × Int64 × Int64 × (Nat → Int64) × (Nat → Int64)))))))))) else (if (y : Int32).toInt = 10 then (Lt2 (E_v_isBarred x lw bro val sm fw fe frs) (fun r_183 q0_r_183 => Lt2 q0_r_183 (fun u_184_2_2_2_1_0 q1_u_184_2_2_2_1_0 => Lt2 q1_u_184_2_2_2_1_0 (fun u_184_2_2_2_1_1 q2_u_184_2_2_2_1_1 => Lt2 q2_u_184_2_2_2_1_1 (fun u_184_2_2_2_2_1_0 q3_u_184_2_2_2_2_1_0 => Lt2 q3_u_184_2_2_2_2_1_0 (fun u_184_2_2_2_2_1_1 q4_u_184_2_2_2_2_1_1 => Lt2 q4_u_184_2_2_2_2_1_1 (fun u_184_2_2_1_0 u_184_2_2_1_1 => if r_183 = 0 then (((0, u_184_2_2_2_1_0, u_184_2_2_2_1_1, u_184_2_2_2_2_1_0, u_184_2_2_2_2_1_1, u_184_2_2_1_0, u_184_2_2_1_1) : Int32 × Int32 × Int32 × Int64 × Int64 × (Nat → Int64) × (Nat → Int64))) else (((1, u_184_2_2_2_1_0, u_184_2_2_2_1_1, u_184_2_2_2_2_1_0, u_184_2_2_2_2_1_1, u_184_2_2_1_0, u_184_2_2_1_1) : Int32 × Int32 × Int32 × Int64 × Int64 × (Nat → Int64) × (Nat → Int64)))))))))) else ((((-1), lw, bro, val, sm, fe, frs) : Int32 × Int32 × Int32 × Int64 × Int64 × (Nat → Int64) × (Nat → Int64)))))))))))))) else ((((-1), lw, bro, val, sm, fe, frs) : Int32 × Int32 × Int32 × Int64 × Int64 × (Nat → Int64) × (Nat → Int64))))
set_option maxHeartbeats 4000000 in
set_option maxRecDepth 100000 in
theorem v_of (l : Launch) (D : va_G) (K : Nat → ClassId) (m0 : Nat) (x : Int32) (y : Int32) (thr : Int32) (m_1 : Value) (m_2 : Value) (w0 : Nat) (m_4 : Value) (m_5 : Value) (m_6 : Value) (m_7 : Value) (m_8 : Value) (m_9 : Value) (m_10 : Value) (m_11 : Value) (m_12 : Value) (m_13 : Value) (m_14 : Value) (m_15 : Value) (m_16 : Value) (m_17 : Value) (m_18 : Value) (m_19 : Value) (m_21 : Value) (m_22 : Value) (m_23 : Value) (m_24 : Value) (m_25 : Value) (m_26 : Value) (m_27 : Value) (m_28 : Value) (m_29 : Value) (m_30 : Value) (m_31 : Value) (m_32 : Value) (m_33 : Value) (lw : Int32) (e0 : Nat) (m_36 : Value) (q0 : Nat) (bro : Int32) (val : Int64) (sm : Int64) (m_41 : Value) (m_42 : Value) (m_43 : Value) (m_44 : Value) (m_45 : Value) (m_46 : Value) (m_47 : Value) (m_48 : Value) (m_49 : Value) (m_50 : Value) (m_51 : Value) (m_52 : Value) (m_53 : Value) (m_54 : Value) (m_55 : Value) (m_56 : Value) (m_57 : Value) (m_58 : Value) (m_59 : Value) (fw : Nat → Int32) (gr : Nat → Int32) (fe : Nat → Int64) (frs : Nat → Int64) (sz : Nat) (zbro : 0 ≤ bro.toInt ∧ bro.toInt ≤ 1) (zfw : RwOK fw) (zgr : FzM gr fw) : Met l yX12_of wsX12_of ({ frames := 5, cells := 0, slots := 0, locals := 124 }) (va_Pc [.ref m0, .int x, .int y] (Pre D K [(cc_O m0 12 [.int thr, m_1, m_2, .ref w0, m_4, m_5, m_6, m_7, m_8, m_9, m_10, m_11, m_12, m_13, m_14, m_15, m_16, m_17, m_18, m_19, .int 0, m_21, m_22, m_23, m_24, m_25, m_26, m_27, m_28, m_29, m_30, m_31, m_32, m_33, .int lw, .ref e0, m_36, .ref q0, .int bro, .long val, .long sm, m_41, m_42, m_43, m_44, m_45, m_46, m_47, m_48, m_49, m_50, m_51, m_52, m_53, m_54, m_55, m_56, m_57, m_58, m_59]), (cc_l w0 (K 0) 5500 fw), (cc_rl e0 (K 2) 13 fe), (cc_rl q0 (K 2) 400 frs)] sz)) (va_Qi (S := Su) (fun (r : Int32) (u : Su) => (0 ≤ (u.2.2.2.1 1).toInt ∧ (u.2.2.2.1 1).toInt ≤ 1) ∧ ((r, (u.2.2.2.1 0), (u.2.2.2.1 1), (u.2.2.2.2.1 0), (u.2.2.2.2.1 1), (u.2.2.1 0), (u.2.2.1 1)) = E_v_of x y thr lw bro val sm fw fe frs) ∧ True) (fun u t => Wd D (va_A [(cc_O m0 12 [.int thr, m_1, m_2, .ref w0, m_4, m_5, m_6, m_7, m_8, m_9, m_10, m_11, m_12, m_13, m_14, m_15, m_16, m_17, m_18, m_19, .int 0, m_21, m_22, m_23, m_24, m_25, m_26, m_27, m_28, m_29, m_30, m_31, m_32, m_33, .int lw, .ref e0, m_36, .ref q0, .int bro, .long val, .long sm, m_41, m_42, m_43, m_44, m_45, m_46, m_47, m_48, m_49, m_50, m_51, m_52, m_53, m_54, m_55, m_56, m_57, m_58, m_59]), (cc_l w0 (K 0) 5500 fw), (cc_rl e0 (K 2) 13 fe), (cc_rl q0 (K 2) 400 frs)] sz) ((fun u => [(cc_O m0 12 [.int 0, m_1, m_2, .ref w0, m_4, m_5, m_6, m_7, m_8, m_9, m_10, m_11, m_12, m_13, m_14, m_15, m_16, m_17, m_18, m_19, .int 0, m_21, m_22, m_23, m_24, m_25, m_26, m_27, m_28, m_29, m_30, m_31, m_32, m_33, .int (u.2.2.2.1 0), .ref e0, m_36, .ref q0, .int (u.2.2.2.1 1), .long (u.2.2.2.2.1 0), .long (u.2.2.2.2.1 1), m_41, m_42, m_43, m_44, m_45, m_46, m_47, m_48, m_49, m_50, m_51, m_52, m_53, m_54, m_55, m_56, m_57, m_58, m_59]), (cc_l w0 (K 0) 5500 fw), (cc_rl e0 (K 2) 13 (u.2.2.1 0)), (cc_rl q0 (K 2) 400 (u.2.2.1 1))]) u) t) (va_A [(cc_O m0 12 [.int thr, m_1, m_2, .ref w0, m_4, m_5, m_6, m_7, m_8, m_9, m_10, m_11, m_12, m_13, m_14, m_15, m_16, m_17, m_18, m_19, .int 0, m_21, m_22, m_23, m_24, m_25, m_26, m_27, m_28, m_29, m_30, m_31, m_32, m_33, .int lw, .ref e0, m_36, .ref q0, .int bro, .long val, .long sm, m_41, m_42, m_43, m_44, m_45, m_46, m_47, m_48, m_49, m_50, m_51, m_52, m_53, m_54, m_55, m_56, m_57, m_58, m_59]), (cc_l w0 (K 0) 5500 fw), (cc_rl e0 (K 2) 13 fe), (cc_rl q0 (K 2) 400 frs)] sz)) 0 0 (va_A [(cc_O m0 12 [.int thr, m_1, m_2, .ref w0, m_4, m_5, m_6, m_7, m_8, m_9, m_10, m_11, m_12, m_13, m_14, m_15, m_16, m_17, m_18, m_19, .int 0, m_21, m_22, m_23, m_24, m_25, m_26, m_27, m_28, m_29, m_30, m_31, m_32, m_33, .int lw, .ref e0, m_36, .ref q0, .int bro, .long val, .long sm, m_41, m_42, m_43, m_44, m_45, m_46, m_47, m_48, m_49, m_50, m_51, m_52, m_53, m_54, m_55, m_56, m_57, m_58, m_59]), (cc_l w0 (K 0) 5500 fw), (cc_rl e0 (K 2) 13 fe), (cc_rl q0 (K 2) 400 frs)] sz) := by
  refine Met.ofW (cc := cX12_of) (maxL := 3) (ret := (some .int)) (by decide +kernel) rfl ?_
  intro p e s m args below meth c s₁ B hml hv
  obtain ⟨rfl, hsz, hP, hK, hD0, hN⟩ := hv
  have hx := B.exec
  have hb := B.bytes
  have hr := B.returns
  have hts := atoms_spec (ws := wsX12_of) B.pre
  have hown : s.vm.findClass RX12 = some m.cls := findClass_of_methodNamed B.named
  have hlocks := B.notSynchronized
  subst hsz
  have hD := hD0.self (sz := s.heap.size)
  generalize hAe : va_A [(cc_O m0 12 [.int thr, m_1, m_2, .ref w0, m_4, m_5, m_6, m_7, m_8, m_9, m_10, m_11, m_12, m_13, m_14, m_15, m_16, m_17, m_18, m_19, .int 0, m_21, m_22, m_23, m_24, m_25, m_26, m_27, m_28, m_29, m_30, m_31, m_32, m_33, .int lw, .ref e0, m_36, .ref q0, .int bro, .long val, .long sm, m_41, m_42, m_43, m_44, m_45, m_46, m_47, m_48, m_49, m_50, m_51, m_52, m_53, m_54, m_55, m_56, m_57, m_58, m_59]), (cc_l w0 (K 0) 5500 fw), (cc_rl e0 (K 2) 13 fe), (cc_rl q0 (K 2) 400 frs)] s.heap.size = A at hD ⊢
  have hA : ∀ q : Nat, s.heap.size ≤ q → A q := fun q h => by rw [← hAe]; exact Or.inr h
  clear hAe
  have hS : va_S A s.heap s.heap [] := va_S.rf
  replace hP : va_P D vwCl [(cc_O m0 12 [.int thr, m_1, m_2, .ref w0, m_4, m_5, m_6, m_7, m_8, m_9, m_10, m_11, m_12, m_13, m_14, m_15, m_16, m_17, m_18, m_19, .int 0, m_21, m_22, m_23, m_24, m_25, m_26, m_27, m_28, m_29, m_30, m_31, m_32, m_33, .int lw, .ref e0, m_36, .ref q0, .int bro, .long val, .long sm, m_41, m_42, m_43, m_44, m_45, m_46, m_47, m_48, m_49, m_50, m_51, m_52, m_53, m_54, m_55, m_56, m_57, m_58, m_59]), (cc_l w0 (K 0) 5500 fw), (cc_rl e0 (K 2) 13 fe), (cc_rl q0 (K 2) 400 frs)] s.heap := hP
  have hl := lv_entry [.ref m0, .int x, .int y] (n := 3) (Nat.le_of_ble_eq_true rfl)
  rw [lg_entry_eq]
  generalize (lg_sl [.ref m0, .int x, .int y] ++ List.replicate (3 - (lg_sl [.ref m0, .int x, .int y]).length) Slot.unset).toArray = ls at hl ⊢
  have hl : lv_has ls 3 [(0, .ref m0), (1, .int x), (2, .int y)] := hl
  have hw12 : ∀ w ∈ wsX120, w ∈ wsX12_of := fun w h => (List.mem_cons_of_mem _ (List.mem_append_right _ h))
  generalize hQ : MQ below _ _ s _ _ _ = Q
  have hE := E_v_of.eq_def x y thr lw bro val sm fw fe frs
  refine lv_aload_n hx hb dX12_of_0 rfl (lv_at hl 0 rfl) (lv_iconst (v := 0) hx hb dX12_of_1 (by decide +kernel) (va_put (ci := 12) (v := .int 0) (ty := .int) (C := RX12) (T := TX12) (N := 60) hx hb hts hw12 tyX12 tyX12_ok nmX12 hown hK hP hD hS 0 rfl rfl 0 (by decide +kernel) (hts _ mm_X12_of_830) (fun _ h9 => h9) rfl (by decide +kernel) (by first | rfl | decide) (by first | rfl | decide) (Nat.le_of_ble_eq_true rfl) dX12_of_2 (fun H locs hP0 hD0 hS0 => ?_)))
  replace hP : va_P D vwCl [(cc_O m0 12 [.int 0, m_1, m_2, .ref w0, m_4, m_5, m_6, m_7, m_8, m_9, m_10, m_11, m_12, m_13, m_14, m_15, m_16, m_17, m_18, m_19, .int 0, m_21, m_22, m_23, m_24, m_25, m_26, m_27, m_28, m_29, m_30, m_31, m_32, m_33, .int lw, .ref e0, m_36, .ref q0, .int bro, .long val, .long sm, m_41, m_42, m_43, m_44, m_45, m_46, m_47, m_48, m_49, m_50, m_51, m_52, m_53, m_54, m_55, m_56, m_57, m_58, m_59]), (cc_l w0 (K 0) 5500 fw), (cc_rl e0 (K 2) 13 fe), (cc_rl q0 (K 2) 400 frs)] H := hP0
  replace hD := as_D hP hD0 rfl
  replace hS := hS0
  clear hP0 hD0 hS0
  refine lv_aload_n hx hb dX12_of_5 rfl (lv_at hl 0 rfl) (lv_iload_n hx hb dX12_of_6 rfl (lv_at hl 1 rfl) (pci (va_runV (As := [.int x]) (rest := []) ⟨hx, hb, hml, hown, hts⟩ (v_isHouse l D K x.toInt m0 x (.int 0) m_1 m_2 w0 m_4 m_5 m_6 m_7 m_8 m_9 m_10 m_11 m_12 m_13 m_14 m_15 m_16 m_17 m_18 m_19 (.int 0) m_21 m_22 m_23 m_24 m_25 m_26 m_27 m_28 m_29 m_30 m_31 m_32 m_33 (.int lw) (.ref e0) m_36 (.ref q0) (.int bro) (.long val) (.long sm) m_41 m_42 m_43 m_44 m_45 m_46 m_47 m_48 m_49 m_50 m_51 m_52 m_53 m_54 m_55 m_56 m_57 m_58 m_59 fw H.size rfl zfw) (cwV 1 hts gX12_of_X12_isHouse rfl rfl rfl (by decide +kernel) ⟨Nat.le_of_ble_eq_true rfl, Nat.le_of_ble_eq_true rfl⟩) (mkV hK hN (hP.sub [0, 1] rfl) (hD.sub [0, 1] (by decide +kernel) rfl) (ci := 12) (q0 := 0) rfl rfl) rfl rfl hl.1 rfl (lv_room (Nat.le_of_ble_eq_true rfl)) dX12_of_7 ⟨Nat.le_of_ble_eq_true rfl, Nat.le_of_ble_eq_true rfl⟩) (fun r_147 hw => ?_)))
  obtain ⟨hw, k_148, -⟩ := hw
  replace hE := hE.trans (Lt_in k_148)
  rcases hw with ⟨rfl, h_149, h_150⟩ | rfl
  · replace hE := (hE).trans (if_pos rfl)
    refine lv_if_ne (tgt := 15) hx hb dX12_of_10 (by decide +kernel) (fun c_151 => ?_) (fun c_151 => absurd c_151 (by decide +kernel))
    refine lv_iload_n hx hb dX12_of_15 rfl (lv_at hl 2 rfl) ?_
    have w_152 : y.toInt = 0 ∨ y.toInt = 1 ∨ y.toInt = 2 ∨ y.toInt = 3 ∨ y.toInt = 4 ∨ y.toInt = 5 ∨ y.toInt = 6 ∨ y.toInt = 7 ∨ y.toInt = 8 ∨ y.toInt = 9 ∨ y.toInt = 10 ∨ (y.toInt < 0 ∨ 10 < y.toInt) := by omega
    rcases w_152 with w_152 | w_152 | w_152 | w_152 | w_152 | w_152 | w_152 | w_152 | w_152 | w_152 | w_152 | w_152
    · replace hE := (hE).trans (if_pos (by first | omega | (rw [rfl]; omega)))
      refine lv_tableIn (tgt := 76) hx hb dX12_of_16 (by omega) (by omega) (by rw [w_152]; rfl) (by decide +kernel) (lv_aload_n hx hb dX12_of_76 rfl (lv_at hl 0 rfl) (va_get (ci := 12) (v := .ref w0) (C := RX12) (T := TX12) (N := 60) hx hb hts hw12 hown hK hP 0 rfl rfl 3 (by decide +kernel) (hts _ mm_X12_of_833) (fun _ h9 => h9) rfl dX12_of_77 (lv_bipush (v := 35) hx hb dX12_of_80 (by decide +kernel) (lv_iload_n hx hb dX12_of_82 rfl (lv_at hl 1 rfl) (lv_iadd hx hb dX12_of_83 (lv_topi (fun x_153 ex_153 => ?_)))))))
      replace hE := hE.trans (Lt_in ex_153)
      have hx_153 : x_153.toInt = (35 + x.toInt) := by rw [ex_153]; exact i_add (show (35 : Int32).toInt = 35 from rfl) rfl (by omega)
      refine va_iald hx hb hK hP 1 0 rfl rfl (i_in hx_153 (by omega)) dX12_of_84 (lv_topi (fun x_154 ex_154 => ?_))
      replace hE := hE.trans (Lt_in ex_154)
      have px_154 := RwOK.at zfw hx_153 (show 0 ≤ (35 + x.toInt) ∧ (35 + x.toInt) < 100 by omega)
      rw [← ex_154] at px_154
      have hx_154 := PR.r_35 px_154 (by omega)
      rw [← hQ]
      have hP9 := hP.sub (ws' := [(cc_O m0 12 [.int 0, m_1, m_2, .ref w0, m_4, m_5, m_6, m_7, m_8, m_9, m_10, m_11, m_12, m_13, m_14, m_15, m_16, m_17, m_18, m_19, .int 0, m_21, m_22, m_23, m_24, m_25, m_26, m_27, m_28, m_29, m_30, m_31, m_32, m_33, .int lw, .ref e0, m_36, .ref q0, .int bro, .long val, .long sm, m_41, m_42, m_43, m_44, m_45, m_46, m_47, m_48, m_49, m_50, m_51, m_52, m_53, m_54, m_55, m_56, m_57, m_58, m_59]), (cc_l w0 (K 0) 5500 fw), (cc_rl e0 (K 2) 13 fe), (cc_rl q0 (K 2) 400 frs)]) [0, 1, 2, 3] rfl
      have hD9 := sub_D hP9 hD [0, 1, 2, 3] (by decide +kernel) rfl
      exact W.iret (v := x_154) hx hb hr (fun t ht hW => ⟨⟨x_154, ((fun _ => 0, fun _ => fun _ => 0, fun i => match i with | 0 => fe | _ => frs, fun i => match i with | 0 => lw | _ => bro, fun i => match i with | 0 => val | _ => sm, fun _ => fun _ => none) : Su), rfl, ⟨(show 0 ≤ (bro : Int32).toInt ∧ (bro : Int32).toInt ≤ 1 by omega), hE.symm, trivial⟩, (⟨by rw [ht]; exact hP9, hD9⟩ : Wd D A _ t)⟩, hS.F ht⟩) hS.2.2 dX12_of_85
    · replace hE := ((hE).trans (if_neg (by first | omega | (rw [rfl]; omega)))).trans (if_pos (by first | omega | (rw [rfl]; omega)))
      refine lv_tableIn (tgt := 86) hx hb dX12_of_16 (by omega) (by omega) (by rw [w_152]; rfl) (by decide +kernel) (lv_aload_n hx hb dX12_of_86 rfl (lv_at hl 0 rfl) (va_get (ci := 12) (v := .ref w0) (C := RX12) (T := TX12) (N := 60) hx hb hts hw12 hown hK hP 0 rfl rfl 3 (by decide +kernel) (hts _ mm_X12_of_833) (fun _ h9 => h9) rfl dX12_of_87 (lv_bipush (v := 43) hx hb dX12_of_90 (by decide +kernel) (lv_iload_n hx hb dX12_of_92 rfl (lv_at hl 1 rfl) (lv_iadd hx hb dX12_of_93 (lv_topi (fun x_155 ex_155 => ?_)))))))
      replace hE := hE.trans (Lt_in ex_155)
      have hx_155 : x_155.toInt = (43 + x.toInt) := by rw [ex_155]; exact i_add (show (43 : Int32).toInt = 43 from rfl) rfl (by omega)
      refine va_iald hx hb hK hP 1 0 rfl rfl (i_in hx_155 (by omega)) dX12_of_94 (lv_topi (fun x_156 ex_156 => ?_))
      replace hE := hE.trans (Lt_in ex_156)
      have px_156 := RwOK.at zfw hx_155 (show 0 ≤ (43 + x.toInt) ∧ (43 + x.toInt) < 100 by omega)
      rw [← ex_156] at px_156
      rw [← hQ]
      have hP9 := hP.sub (ws' := [(cc_O m0 12 [.int 0, m_1, m_2, .ref w0, m_4, m_5, m_6, m_7, m_8, m_9, m_10, m_11, m_12, m_13, m_14, m_15, m_16, m_17, m_18, m_19, .int 0, m_21, m_22, m_23, m_24, m_25, m_26, m_27, m_28, m_29, m_30, m_31, m_32, m_33, .int lw, .ref e0, m_36, .ref q0, .int bro, .long val, .long sm, m_41, m_42, m_43, m_44, m_45, m_46, m_47, m_48, m_49, m_50, m_51, m_52, m_53, m_54, m_55, m_56, m_57, m_58, m_59]), (cc_l w0 (K 0) 5500 fw), (cc_rl e0 (K 2) 13 fe), (cc_rl q0 (K 2) 400 frs)]) [0, 1, 2, 3] rfl
      have hD9 := sub_D hP9 hD [0, 1, 2, 3] (by decide +kernel) rfl
      exact W.iret (v := x_156) hx hb hr (fun t ht hW => ⟨⟨x_156, ((fun _ => 0, fun _ => fun _ => 0, fun i => match i with | 0 => fe | _ => frs, fun i => match i with | 0 => lw | _ => bro, fun i => match i with | 0 => val | _ => sm, fun _ => fun _ => none) : Su), rfl, ⟨(show 0 ≤ (bro : Int32).toInt ∧ (bro : Int32).toInt ≤ 1 by omega), hE.symm, trivial⟩, (⟨by rw [ht]; exact hP9, hD9⟩ : Wd D A _ t)⟩, hS.F ht⟩) hS.2.2 dX12_of_95
    · replace hE := (((hE).trans (if_neg (by first | omega | (rw [rfl]; omega)))).trans (if_neg (by first | omega | (rw [rfl]; omega)))).trans (if_pos (by first | omega | (rw [rfl]; omega)))
      refine lv_tableIn (tgt := 96) hx hb dX12_of_16 (by omega) (by omega) (by rw [w_152]; rfl) (by decide +kernel) (lv_aload_n hx hb dX12_of_96 rfl (lv_at hl 0 rfl) (va_get (ci := 12) (v := .ref w0) (C := RX12) (T := TX12) (N := 60) hx hb hts hw12 hown hK hP 0 rfl rfl 3 (by decide +kernel) (hts _ mm_X12_of_833) (fun _ h9 => h9) rfl dX12_of_97 (lv_bipush (v := 19) hx hb dX12_of_100 (by decide +kernel) (lv_iload_n hx hb dX12_of_102 rfl (lv_at hl 1 rfl) (lv_iadd hx hb dX12_of_103 (lv_topi (fun x_157 ex_157 => ?_)))))))
      replace hE := hE.trans (Lt_in ex_157)
      have hx_157 : x_157.toInt = (19 + x.toInt) := by rw [ex_157]; exact i_add (show (19 : Int32).toInt = 19 from rfl) rfl (by omega)
      refine va_iald hx hb hK hP 1 0 rfl rfl (i_in hx_157 (by omega)) dX12_of_104 (lv_topi (fun x_158 ex_158 => ?_))
      replace hE := hE.trans (Lt_in ex_158)
      have px_158 := RwOK.at zfw hx_157 (show 0 ≤ (19 + x.toInt) ∧ (19 + x.toInt) < 100 by omega)
      rw [← ex_158] at px_158
      rw [← hQ]
      have hP9 := hP.sub (ws' := [(cc_O m0 12 [.int 0, m_1, m_2, .ref w0, m_4, m_5, m_6, m_7, m_8, m_9, m_10, m_11, m_12, m_13, m_14, m_15, m_16, m_17, m_18, m_19, .int 0, m_21, m_22, m_23, m_24, m_25, m_26, m_27, m_28, m_29, m_30, m_31, m_32, m_33, .int lw, .ref e0, m_36, .ref q0, .int bro, .long val, .long sm, m_41, m_42, m_43, m_44, m_45, m_46, m_47, m_48, m_49, m_50, m_51, m_52, m_53, m_54, m_55, m_56, m_57, m_58, m_59]), (cc_l w0 (K 0) 5500 fw), (cc_rl e0 (K 2) 13 fe), (cc_rl q0 (K 2) 400 frs)]) [0, 1, 2, 3] rfl
      have hD9 := sub_D hP9 hD [0, 1, 2, 3] (by decide +kernel) rfl
      exact W.iret (v := x_158) hx hb hr (fun t ht hW => ⟨⟨x_158, ((fun _ => 0, fun _ => fun _ => 0, fun i => match i with | 0 => fe | _ => frs, fun i => match i with | 0 => lw | _ => bro, fun i => match i with | 0 => val | _ => sm, fun _ => fun _ => none) : Su), rfl, ⟨(show 0 ≤ (bro : Int32).toInt ∧ (bro : Int32).toInt ≤ 1 by omega), hE.symm, trivial⟩, (⟨by rw [ht]; exact hP9, hD9⟩ : Wd D A _ t)⟩, hS.F ht⟩) hS.2.2 dX12_of_105
    · replace hE := ((((hE).trans (if_neg (by first | omega | (rw [rfl]; omega)))).trans (if_neg (by first | omega | (rw [rfl]; omega)))).trans (if_neg (by first | omega | (rw [rfl]; omega)))).trans (if_pos (by first | omega | (rw [rfl]; omega)))
      refine lv_tableIn (tgt := 106) hx hb dX12_of_16 (by omega) (by omega) (by rw [w_152]; rfl) (by decide +kernel) (lv_aload_n hx hb dX12_of_106 rfl (lv_at hl 0 rfl) (va_get (ci := 12) (v := .ref w0) (C := RX12) (T := TX12) (N := 60) hx hb hts hw12 hown hK hP 0 rfl rfl 3 (by decide +kernel) (hts _ mm_X12_of_833) (fun _ h9 => h9) rfl dX12_of_107 (lv_bipush (v := 51) hx hb dX12_of_110 (by decide +kernel) (lv_iload_n hx hb dX12_of_112 rfl (lv_at hl 1 rfl) (lv_iadd hx hb dX12_of_113 (lv_topi (fun x_159 ex_159 => ?_)))))))
      replace hE := hE.trans (Lt_in ex_159)
      have hx_159 : x_159.toInt = (51 + x.toInt) := by rw [ex_159]; exact i_add (show (51 : Int32).toInt = 51 from rfl) rfl (by omega)
      refine va_iald hx hb hK hP 1 0 rfl rfl (i_in hx_159 (by omega)) dX12_of_114 (lv_topi (fun x_160 ex_160 => ?_))
      replace hE := hE.trans (Lt_in ex_160)
      have px_160 := RwOK.at zfw hx_159 (show 0 ≤ (51 + x.toInt) ∧ (51 + x.toInt) < 100 by omega)
      rw [← ex_160] at px_160
      rw [← hQ]
      have hP9 := hP.sub (ws' := [(cc_O m0 12 [.int 0, m_1, m_2, .ref w0, m_4, m_5, m_6, m_7, m_8, m_9, m_10, m_11, m_12, m_13, m_14, m_15, m_16, m_17, m_18, m_19, .int 0, m_21, m_22, m_23, m_24, m_25, m_26, m_27, m_28, m_29, m_30, m_31, m_32, m_33, .int lw, .ref e0, m_36, .ref q0, .int bro, .long val, .long sm, m_41, m_42, m_43, m_44, m_45, m_46, m_47, m_48, m_49, m_50, m_51, m_52, m_53, m_54, m_55, m_56, m_57, m_58, m_59]), (cc_l w0 (K 0) 5500 fw), (cc_rl e0 (K 2) 13 fe), (cc_rl q0 (K 2) 400 frs)]) [0, 1, 2, 3] rfl
      have hD9 := sub_D hP9 hD [0, 1, 2, 3] (by decide +kernel) rfl
      exact W.iret (v := x_160) hx hb hr (fun t ht hW => ⟨⟨x_160, ((fun _ => 0, fun _ => fun _ => 0, fun i => match i with | 0 => fe | _ => frs, fun i => match i with | 0 => lw | _ => bro, fun i => match i with | 0 => val | _ => sm, fun _ => fun _ => none) : Su), rfl, ⟨(show 0 ≤ (bro : Int32).toInt ∧ (bro : Int32).toInt ≤ 1 by omega), hE.symm, trivial⟩, (⟨by rw [ht]; exact hP9, hD9⟩ : Wd D A _ t)⟩, hS.F ht⟩) hS.2.2 dX12_of_115
    · replace hE := (((((hE).trans (if_neg (by first | omega | (rw [rfl]; omega)))).trans (if_neg (by first | omega | (rw [rfl]; omega)))).trans (if_neg (by first | omega | (rw [rfl]; omega)))).trans (if_neg (by first | omega | (rw [rfl]; omega)))).trans (if_pos (by first | omega | (rw [rfl]; omega)))
      refine lv_tableIn (tgt := 116) hx hb dX12_of_16 (by omega) (by omega) (by rw [w_152]; rfl) (by decide +kernel) (lv_aload_n hx hb dX12_of_116 rfl (lv_at hl 0 rfl) (va_get (ci := 12) (v := .ref w0) (C := RX12) (T := TX12) (N := 60) hx hb hts hw12 hown hK hP 0 rfl rfl 3 (by decide +kernel) (hts _ mm_X12_of_833) (fun _ h9 => h9) rfl dX12_of_117 (lv_bipush (v := 59) hx hb dX12_of_120 (by decide +kernel) (lv_iload_n hx hb dX12_of_122 rfl (lv_at hl 1 rfl) (lv_iadd hx hb dX12_of_123 (lv_topi (fun x_161 ex_161 => ?_)))))))
      replace hE := hE.trans (Lt_in ex_161)
      have hx_161 : x_161.toInt = (59 + x.toInt) := by rw [ex_161]; exact i_add (show (59 : Int32).toInt = 59 from rfl) rfl (by omega)
      refine va_iald hx hb hK hP 1 0 rfl rfl (i_in hx_161 (by omega)) dX12_of_124 (lv_topi (fun x_162 ex_162 => ?_))
      replace hE := hE.trans (Lt_in ex_162)
      have px_162 := RwOK.at zfw hx_161 (show 0 ≤ (59 + x.toInt) ∧ (59 + x.toInt) < 100 by omega)
      rw [← ex_162] at px_162
      rw [← hQ]
      have hP9 := hP.sub (ws' := [(cc_O m0 12 [.int 0, m_1, m_2, .ref w0, m_4, m_5, m_6, m_7, m_8, m_9, m_10, m_11, m_12, m_13, m_14, m_15, m_16, m_17, m_18, m_19, .int 0, m_21, m_22, m_23, m_24, m_25, m_26, m_27, m_28, m_29, m_30, m_31, m_32, m_33, .int lw, .ref e0, m_36, .ref q0, .int bro, .long val, .long sm, m_41, m_42, m_43, m_44, m_45, m_46, m_47, m_48, m_49, m_50, m_51, m_52, m_53, m_54, m_55, m_56, m_57, m_58, m_59]), (cc_l w0 (K 0) 5500 fw), (cc_rl e0 (K 2) 13 fe), (cc_rl q0 (K 2) 400 frs)]) [0, 1, 2, 3] rfl
      have hD9 := sub_D hP9 hD [0, 1, 2, 3] (by decide +kernel) rfl
      exact W.iret (v := x_162) hx hb hr (fun t ht hW => ⟨⟨x_162, ((fun _ => 0, fun _ => fun _ => 0, fun i => match i with | 0 => fe | _ => frs, fun i => match i with | 0 => lw | _ => bro, fun i => match i with | 0 => val | _ => sm, fun _ => fun _ => none) : Su), rfl, ⟨(show 0 ≤ (bro : Int32).toInt ∧ (bro : Int32).toInt ≤ 1 by omega), hE.symm, trivial⟩, (⟨by rw [ht]; exact hP9, hD9⟩ : Wd D A _ t)⟩, hS.F ht⟩) hS.2.2 dX12_of_125
    · replace hE := ((((((hE).trans (if_neg (by first | omega | (rw [rfl]; omega)))).trans (if_neg (by first | omega | (rw [rfl]; omega)))).trans (if_neg (by first | omega | (rw [rfl]; omega)))).trans (if_neg (by first | omega | (rw [rfl]; omega)))).trans (if_neg (by first | omega | (rw [rfl]; omega)))).trans (if_pos (by first | omega | (rw [rfl]; omega)))
      refine lv_tableIn (tgt := 126) hx hb dX12_of_16 (by omega) (by omega) (by rw [w_152]; rfl) (by decide +kernel) (lv_aload_n hx hb dX12_of_126 rfl (lv_at hl 0 rfl) (va_get (ci := 12) (v := .ref w0) (C := RX12) (T := TX12) (N := 60) hx hb hts hw12 hown hK hP 0 rfl rfl 3 (by decide +kernel) (hts _ mm_X12_of_833) (fun _ h9 => h9) rfl dX12_of_127 (lv_bipush (v := 11) hx hb dX12_of_130 (by decide +kernel) (lv_iload_n hx hb dX12_of_132 rfl (lv_at hl 1 rfl) (lv_iadd hx hb dX12_of_133 (lv_topi (fun x_163 ex_163 => ?_)))))))
      replace hE := hE.trans (Lt_in ex_163)
      have hx_163 : x_163.toInt = (11 + x.toInt) := by rw [ex_163]; exact i_add (show (11 : Int32).toInt = 11 from rfl) rfl (by omega)
      refine va_iald hx hb hK hP 1 0 rfl rfl (i_in hx_163 (by omega)) dX12_of_134 (lv_topi (fun x_164 ex_164 => ?_))
      replace hE := hE.trans (Lt_in ex_164)
      have px_164 := RwOK.at zfw hx_163 (show 0 ≤ (11 + x.toInt) ∧ (11 + x.toInt) < 100 by omega)
      rw [← ex_164] at px_164
      have hx_164 := PR.r_11 px_164 (by omega)
      rw [← hQ]
      have hP9 := hP.sub (ws' := [(cc_O m0 12 [.int 0, m_1, m_2, .ref w0, m_4, m_5, m_6, m_7, m_8, m_9, m_10, m_11, m_12, m_13, m_14, m_15, m_16, m_17, m_18, m_19, .int 0, m_21, m_22, m_23, m_24, m_25, m_26, m_27, m_28, m_29, m_30, m_31, m_32, m_33, .int lw, .ref e0, m_36, .ref q0, .int bro, .long val, .long sm, m_41, m_42, m_43, m_44, m_45, m_46, m_47, m_48, m_49, m_50, m_51, m_52, m_53, m_54, m_55, m_56, m_57, m_58, m_59]), (cc_l w0 (K 0) 5500 fw), (cc_rl e0 (K 2) 13 fe), (cc_rl q0 (K 2) 400 frs)]) [0, 1, 2, 3] rfl
      have hD9 := sub_D hP9 hD [0, 1, 2, 3] (by decide +kernel) rfl
      exact W.iret (v := x_164) hx hb hr (fun t ht hW => ⟨⟨x_164, ((fun _ => 0, fun _ => fun _ => 0, fun i => match i with | 0 => fe | _ => frs, fun i => match i with | 0 => lw | _ => bro, fun i => match i with | 0 => val | _ => sm, fun _ => fun _ => none) : Su), rfl, ⟨(show 0 ≤ (bro : Int32).toInt ∧ (bro : Int32).toInt ≤ 1 by omega), hE.symm, trivial⟩, (⟨by rw [ht]; exact hP9, hD9⟩ : Wd D A _ t)⟩, hS.F ht⟩) hS.2.2 dX12_of_135
    · replace hE := (((((((hE).trans (if_neg (by first | omega | (rw [rfl]; omega)))).trans (if_neg (by first | omega | (rw [rfl]; omega)))).trans (if_neg (by first | omega | (rw [rfl]; omega)))).trans (if_neg (by first | omega | (rw [rfl]; omega)))).trans (if_neg (by first | omega | (rw [rfl]; omega)))).trans (if_neg (by first | omega | (rw [rfl]; omega)))).trans (if_pos (by first | omega | (rw [rfl]; omega)))
      refine lv_tableIn (tgt := 136) hx hb dX12_of_16 (by omega) (by omega) (by rw [w_152]; rfl) (by decide +kernel) (lv_aload_n hx hb dX12_of_136 rfl (lv_at hl 0 rfl) (va_get (ci := 12) (v := .ref w0) (C := RX12) (T := TX12) (N := 60) hx hb hts hw12 hown hK hP 0 rfl rfl 3 (by decide +kernel) (hts _ mm_X12_of_833) (fun _ h9 => h9) rfl dX12_of_137 (lv_bipush (v := 27) hx hb dX12_of_140 (by decide +kernel) (lv_iload_n hx hb dX12_of_142 rfl (lv_at hl 1 rfl) (lv_iadd hx hb dX12_of_143 (lv_topi (fun x_165 ex_165 => ?_)))))))
      replace hE := hE.trans (Lt_in ex_165)
      have hx_165 : x_165.toInt = (27 + x.toInt) := by rw [ex_165]; exact i_add (show (27 : Int32).toInt = 27 from rfl) rfl (by omega)
      refine va_iald hx hb hK hP 1 0 rfl rfl (i_in hx_165 (by omega)) dX12_of_144 (lv_topi (fun x_166 ex_166 => ?_))
      replace hE := hE.trans (Lt_in ex_166)
      have px_166 := RwOK.at zfw hx_165 (show 0 ≤ (27 + x.toInt) ∧ (27 + x.toInt) < 100 by omega)
      rw [← ex_166] at px_166
      rw [← hQ]
      have hP9 := hP.sub (ws' := [(cc_O m0 12 [.int 0, m_1, m_2, .ref w0, m_4, m_5, m_6, m_7, m_8, m_9, m_10, m_11, m_12, m_13, m_14, m_15, m_16, m_17, m_18, m_19, .int 0, m_21, m_22, m_23, m_24, m_25, m_26, m_27, m_28, m_29, m_30, m_31, m_32, m_33, .int lw, .ref e0, m_36, .ref q0, .int bro, .long val, .long sm, m_41, m_42, m_43, m_44, m_45, m_46, m_47, m_48, m_49, m_50, m_51, m_52, m_53, m_54, m_55, m_56, m_57, m_58, m_59]), (cc_l w0 (K 0) 5500 fw), (cc_rl e0 (K 2) 13 fe), (cc_rl q0 (K 2) 400 frs)]) [0, 1, 2, 3] rfl
      have hD9 := sub_D hP9 hD [0, 1, 2, 3] (by decide +kernel) rfl
      exact W.iret (v := x_166) hx hb hr (fun t ht hW => ⟨⟨x_166, ((fun _ => 0, fun _ => fun _ => 0, fun i => match i with | 0 => fe | _ => frs, fun i => match i with | 0 => lw | _ => bro, fun i => match i with | 0 => val | _ => sm, fun _ => fun _ => none) : Su), rfl, ⟨(show 0 ≤ (bro : Int32).toInt ∧ (bro : Int32).toInt ≤ 1 by omega), hE.symm, trivial⟩, (⟨by rw [ht]; exact hP9, hD9⟩ : Wd D A _ t)⟩, hS.F ht⟩) hS.2.2 dX12_of_145
    · replace hE := ((((((((hE).trans (if_neg (by first | omega | (rw [rfl]; omega)))).trans (if_neg (by first | omega | (rw [rfl]; omega)))).trans (if_neg (by first | omega | (rw [rfl]; omega)))).trans (if_neg (by first | omega | (rw [rfl]; omega)))).trans (if_neg (by first | omega | (rw [rfl]; omega)))).trans (if_neg (by first | omega | (rw [rfl]; omega)))).trans (if_neg (by first | omega | (rw [rfl]; omega)))).trans (if_pos (by first | omega | (rw [rfl]; omega)))
      refine lv_tableIn (tgt := 146) hx hb dX12_of_16 (by omega) (by omega) (by rw [w_152]; rfl) (by decide +kernel) (lv_aload_n hx hb dX12_of_146 rfl (lv_at hl 0 rfl) (lv_iload_n hx hb dX12_of_147 rfl (lv_at hl 1 rfl) (pci (va_runV (As := [.int x]) (rest := []) ⟨hx, hb, hml, hown, hts⟩ (v_isSounding l D K m0 x (.int 0) m_1 m_2 w0 m_4 m_5 m_6 m_7 m_8 m_9 m_10 m_11 m_12 m_13 m_14 m_15 m_16 m_17 m_18 m_19 (.int 0) m_21 m_22 m_23 m_24 m_25 m_26 m_27 m_28 m_29 m_30 m_31 m_32 m_33 (.int lw) (.ref e0) m_36 (.ref q0) (.int bro) (.long val) (.long sm) m_41 m_42 m_43 m_44 m_45 m_46 m_47 m_48 m_49 m_50 m_51 m_52 m_53 m_54 m_55 m_56 m_57 m_58 m_59 fw H.size (by first | omega | decide) zfw) (cwV 1 hts gX12_of_X12_isSounding rfl rfl rfl (by decide +kernel) ⟨Nat.le_of_ble_eq_true rfl, Nat.le_of_ble_eq_true rfl⟩) (mkV hK hN (hP.sub [0, 1] rfl) (hD.sub [0, 1] (by decide +kernel) rfl) (ci := 12) (q0 := 0) rfl rfl) rfl rfl hl.1 rfl (lv_room (Nat.le_of_ble_eq_true rfl)) dX12_of_148 ⟨Nat.le_of_ble_eq_true rfl, Nat.le_of_ble_eq_true rfl⟩) (fun r_167 hw => ?_))))
      obtain ⟨h_169, k_168, -⟩ := hw
      replace hE := hE.trans (Lt_in k_168)
      refine lv_if_eq (tgt := 158) hx hb dX12_of_151 (by decide +kernel) (fun c_170 => ?_) (fun c_170 => ?_)
      · have c_170i := i_eq (x := r_167.toInt) (y := 0) rfl rfl c_170
        replace hE := hE.trans (if_pos c_170)
        refine lv_iconst (v := 0) hx hb dX12_of_158 (by decide +kernel) ?_
        rw [← hQ]
        have hP9 := hP.sub (ws' := [(cc_O m0 12 [.int 0, m_1, m_2, .ref w0, m_4, m_5, m_6, m_7, m_8, m_9, m_10, m_11, m_12, m_13, m_14, m_15, m_16, m_17, m_18, m_19, .int 0, m_21, m_22, m_23, m_24, m_25, m_26, m_27, m_28, m_29, m_30, m_31, m_32, m_33, .int lw, .ref e0, m_36, .ref q0, .int bro, .long val, .long sm, m_41, m_42, m_43, m_44, m_45, m_46, m_47, m_48, m_49, m_50, m_51, m_52, m_53, m_54, m_55, m_56, m_57, m_58, m_59]), (cc_l w0 (K 0) 5500 fw), (cc_rl e0 (K 2) 13 fe), (cc_rl q0 (K 2) 400 frs)]) [0, 1, 2, 3] rfl
        have hD9 := sub_D hP9 hD [0, 1, 2, 3] (by decide +kernel) rfl
        exact W.iret (v := 0) hx hb hr (fun t ht hW => ⟨⟨0, ((fun _ => 0, fun _ => fun _ => 0, fun i => match i with | 0 => fe | _ => frs, fun i => match i with | 0 => lw | _ => bro, fun i => match i with | 0 => val | _ => sm, fun _ => fun _ => none) : Su), rfl, ⟨(show 0 ≤ (bro : Int32).toInt ∧ (bro : Int32).toInt ≤ 1 by omega), hE.symm, trivial⟩, (⟨by rw [ht]; exact hP9, hD9⟩ : Wd D A _ t)⟩, hS.F ht⟩) hS.2.2 dX12_of_159
      · have c_170i := i_ne (x := r_167.toInt) (y := 0) rfl rfl c_170
        replace hE := hE.trans (if_neg c_170)
        refine lv_iconst (v := 1) hx hb dX12_of_154 (by decide +kernel) (lv_goto (tgt := 159) hx hb dX12_of_155 (by decide +kernel) ?_)
        rw [← hQ]
        have hP9 := hP.sub (ws' := [(cc_O m0 12 [.int 0, m_1, m_2, .ref w0, m_4, m_5, m_6, m_7, m_8, m_9, m_10, m_11, m_12, m_13, m_14, m_15, m_16, m_17, m_18, m_19, .int 0, m_21, m_22, m_23, m_24, m_25, m_26, m_27, m_28, m_29, m_30, m_31, m_32, m_33, .int lw, .ref e0, m_36, .ref q0, .int bro, .long val, .long sm, m_41, m_42, m_43, m_44, m_45, m_46, m_47, m_48, m_49, m_50, m_51, m_52, m_53, m_54, m_55, m_56, m_57, m_58, m_59]), (cc_l w0 (K 0) 5500 fw), (cc_rl e0 (K 2) 13 fe), (cc_rl q0 (K 2) 400 frs)]) [0, 1, 2, 3] rfl
        have hD9 := sub_D hP9 hD [0, 1, 2, 3] (by decide +kernel) rfl
        exact W.iret (v := 1) hx hb hr (fun t ht hW => ⟨⟨1, ((fun _ => 0, fun _ => fun _ => 0, fun i => match i with | 0 => fe | _ => frs, fun i => match i with | 0 => lw | _ => bro, fun i => match i with | 0 => val | _ => sm, fun _ => fun _ => none) : Su), rfl, ⟨(show 0 ≤ (bro : Int32).toInt ∧ (bro : Int32).toInt ≤ 1 by omega), hE.symm, trivial⟩, (⟨by rw [ht]; exact hP9, hD9⟩ : Wd D A _ t)⟩, hS.F ht⟩) hS.2.2 dX12_of_159
    · replace hE := (((((((((hE).trans (if_neg (by first | omega | (rw [rfl]; omega)))).trans (if_neg (by first | omega | (rw [rfl]; omega)))).trans (if_neg (by first | omega | (rw [rfl]; omega)))).trans (if_neg (by first | omega | (rw [rfl]; omega)))).trans (if_neg (by first | omega | (rw [rfl]; omega)))).trans (if_neg (by first | omega | (rw [rfl]; omega)))).trans (if_neg (by first | omega | (rw [rfl]; omega)))).trans (if_neg (by first | omega | (rw [rfl]; omega)))).trans (if_pos (by first | omega | (rw [rfl]; omega)))
      refine lv_tableIn (tgt := 160) hx hb dX12_of_16 (by omega) (by omega) (by rw [w_152]; rfl) (by decide +kernel) (lv_aload_n hx hb dX12_of_160 rfl (lv_at hl 0 rfl) (lv_aload_n hx hb dX12_of_161 rfl (lv_at hl 0 rfl) (va_get (ci := 12) (v := .ref w0) (C := RX12) (T := TX12) (N := 60) hx hb hts hw12 hown hK hP 0 rfl rfl 3 (by decide +kernel) (hts _ mm_X12_of_833) (fun _ h9 => h9) rfl dX12_of_162 (lv_iconst (v := 3) hx hb dX12_of_165 (by decide +kernel) (va_iald hx hb hK hP 1 0 rfl rfl (i_in (x := 3) rfl (by omega)) dX12_of_166 (lv_topi (fun x_171 ex_171 => ?_)))))))
      replace hE := hE.trans (Lt_in ex_171)
      have px_171 := RwOK.at zfw (show (3 : Int32).toInt = 3 from rfl) (show 0 ≤ 3 ∧ 3 < 100 by omega)
      rw [← ex_171] at px_171
      have hx_171 := PR.r_3 px_171 (by omega)
      refine lv_iload_n hx hb dX12_of_167 rfl (lv_at hl 1 rfl) (kci (S := Su) (wr := []) (va_runV (As := [.int x_171, .int x]) (rest := []) ⟨hx, hb, hml, hown, hts⟩ (v_burnsOf l D K m0 x_171 x (.int 0) m_1 m_2 w0 m_4 m_5 m_6 m_7 m_8 m_9 m_10 m_11 m_12 m_13 m_14 m_15 m_16 m_17 m_18 m_19 m_21 m_22 m_23 m_24 m_25 m_26 m_27 m_28 m_29 m_30 m_31 m_32 m_33 lw e0 m_36 q0 bro val sm m_41 m_42 m_43 m_44 m_45 m_46 m_47 m_48 m_49 m_50 m_51 m_52 m_53 m_54 m_55 m_56 m_57 m_58 m_59 fw gr fe frs H.size (by first | omega | decide) (by first | omega | decide) (by first | omega | decide) zfw zgr) (cwV 2 hts gX12_of_X12_burnsOf rfl rfl rfl (by decide +kernel) ⟨Nat.le_of_ble_eq_true rfl, Nat.le_of_ble_eq_true rfl⟩) (mkV hK hN (hP.sub [0, 1, 2, 3] rfl) (hD.sub [0, 1, 2, 3] (by decide +kernel) rfl) (ci := 12) (q0 := 0) rfl rfl) rfl rfl hl.1 rfl (lv_room (Nat.le_of_ble_eq_true rfl)) dX12_of_168 ⟨Nat.le_of_ble_eq_true rfl, Nat.le_of_ble_eq_true rfl⟩) hP hD hS hA [0, 1, 2, 3] [] rfl rfl (by decide +kernel) (by decide +kernel) (fun r_172 u_173 H locs hw hP0 hD0 hS0 => ?_))
      replace hP : va_P D vwCl [(cc_O m0 12 [.int 0, m_1, m_2, .ref w0, m_4, m_5, m_6, m_7, m_8, m_9, m_10, m_11, m_12, m_13, m_14, m_15, m_16, m_17, m_18, m_19, .int 0, m_21, m_22, m_23, m_24, m_25, m_26, m_27, m_28, m_29, m_30, m_31, m_32, m_33, .int (u_173.2.2.2.1 0), .ref e0, m_36, .ref q0, .int (u_173.2.2.2.1 1), .long (u_173.2.2.2.2.1 0), .long (u_173.2.2.2.2.1 1), m_41, m_42, m_43, m_44, m_45, m_46, m_47, m_48, m_49, m_50, m_51, m_52, m_53, m_54, m_55, m_56, m_57, m_58, m_59]), (cc_l w0 (K 0) 5500 fw), (cc_rl e0 (K 2) 13 (u_173.2.2.1 0)), (cc_rl q0 (K 2) 400 (u_173.2.2.1 1))] H := hP0
      replace hD := as_D hP hD0 rfl
      replace hS := hS0
      clear hP0 hD0 hS0
      obtain ⟨h_176, k_174, k_175, -⟩ := hw
      replace hE := (((((hE.trans (Lt2_in k_175)).trans (Lt2_in rfl)).trans (Lt2_in rfl)).trans (Lt2_in rfl)).trans (Lt2_in rfl)).trans (Lt2_in rfl)
      rw [← hQ]
      have hP9 := hP.sub (ws' := [(cc_O m0 12 [.int 0, m_1, m_2, .ref w0, m_4, m_5, m_6, m_7, m_8, m_9, m_10, m_11, m_12, m_13, m_14, m_15, m_16, m_17, m_18, m_19, .int 0, m_21, m_22, m_23, m_24, m_25, m_26, m_27, m_28, m_29, m_30, m_31, m_32, m_33, .int (u_173.2.2.2.1 0), .ref e0, m_36, .ref q0, .int (u_173.2.2.2.1 1), .long (u_173.2.2.2.2.1 0), .long (u_173.2.2.2.2.1 1), m_41, m_42, m_43, m_44, m_45, m_46, m_47, m_48, m_49, m_50, m_51, m_52, m_53, m_54, m_55, m_56, m_57, m_58, m_59]), (cc_l w0 (K 0) 5500 fw), (cc_rl e0 (K 2) 13 (u_173.2.2.1 0)), (cc_rl q0 (K 2) 400 (u_173.2.2.1 1))]) [0, 1, 2, 3] rfl
      have hD9 := sub_D hP9 hD [0, 1, 2, 3] (by decide +kernel) rfl
      exact W.iret (v := r_172) hx hb hr (fun t ht hW => ⟨⟨r_172, ((fun _ => 0, fun _ => fun _ => 0, fun i => match i with | 0 => (u_173.2.2.1 0) | _ => (u_173.2.2.1 1), fun i => match i with | 0 => (u_173.2.2.2.1 0) | _ => (u_173.2.2.2.1 1), fun i => match i with | 0 => (u_173.2.2.2.2.1 0) | _ => (u_173.2.2.2.2.1 1), fun _ => fun _ => none) : Su), rfl, ⟨(show 0 ≤ ((u_173.2.2.2.1 1) : Int32).toInt ∧ ((u_173.2.2.2.1 1) : Int32).toInt ≤ 1 by omega), hE.symm, trivial⟩, (⟨by rw [ht]; exact hP9, hD9⟩ : Wd D A _ t)⟩, hS.F ht⟩) hS.2.2 dX12_of_171
    · replace hE := ((((((((((hE).trans (if_neg (by first | omega | (rw [rfl]; omega)))).trans (if_neg (by first | omega | (rw [rfl]; omega)))).trans (if_neg (by first | omega | (rw [rfl]; omega)))).trans (if_neg (by first | omega | (rw [rfl]; omega)))).trans (if_neg (by first | omega | (rw [rfl]; omega)))).trans (if_neg (by first | omega | (rw [rfl]; omega)))).trans (if_neg (by first | omega | (rw [rfl]; omega)))).trans (if_neg (by first | omega | (rw [rfl]; omega)))).trans (if_neg (by first | omega | (rw [rfl]; omega)))).trans (if_pos (by first | omega | (rw [rfl]; omega)))
      refine lv_tableIn (tgt := 172) hx hb dX12_of_16 (by omega) (by omega) (by rw [w_152]; rfl) (by decide +kernel) (lv_aload_n hx hb dX12_of_172 rfl (lv_at hl 0 rfl) (lv_aload_n hx hb dX12_of_173 rfl (lv_at hl 0 rfl) (va_get (ci := 12) (v := .ref w0) (C := RX12) (T := TX12) (N := 60) hx hb hts hw12 hown hK hP 0 rfl rfl 3 (by decide +kernel) (hts _ mm_X12_of_833) (fun _ h9 => h9) rfl dX12_of_174 (lv_iconst (v := 3) hx hb dX12_of_177 (by decide +kernel) (va_iald hx hb hK hP 1 0 rfl rfl (i_in (x := 3) rfl (by omega)) dX12_of_178 (lv_topi (fun x_177 ex_177 => ?_)))))))
      replace hE := hE.trans (Lt_in ex_177)
      have px_177 := RwOK.at zfw (show (3 : Int32).toInt = 3 from rfl) (show 0 ≤ 3 ∧ 3 < 100 by omega)
      rw [← ex_177] at px_177
      have hx_177 := PR.r_3 px_177 (by omega)
      refine lv_iload_n hx hb dX12_of_179 rfl (lv_at hl 1 rfl) (kci (S := Su) (wr := []) (va_runV (As := [.int x_177, .int x]) (rest := []) ⟨hx, hb, hml, hown, hts⟩ (v_flaresOf l D K m0 x_177 x (.int 0) m_1 m_2 w0 m_4 m_5 m_6 m_7 m_8 m_9 m_10 m_11 m_12 m_13 m_14 m_15 m_16 m_17 m_18 m_19 m_21 m_22 m_23 m_24 m_25 m_26 m_27 m_28 m_29 m_30 m_31 m_32 m_33 lw e0 m_36 q0 bro val sm m_41 m_42 m_43 m_44 m_45 m_46 m_47 m_48 m_49 m_50 m_51 m_52 m_53 m_54 m_55 m_56 m_57 m_58 m_59 fw gr fe frs H.size (by first | omega | decide) (by first | omega | decide) (by first | omega | decide) zfw zgr) (cwV 2 hts gX12_of_X12_flaresOf rfl rfl rfl (by decide +kernel) ⟨Nat.le_of_ble_eq_true rfl, Nat.le_of_ble_eq_true rfl⟩) (mkV hK hN (hP.sub [0, 1, 2, 3] rfl) (hD.sub [0, 1, 2, 3] (by decide +kernel) rfl) (ci := 12) (q0 := 0) rfl rfl) rfl rfl hl.1 rfl (lv_room (Nat.le_of_ble_eq_true rfl)) dX12_of_180 ⟨Nat.le_of_ble_eq_true rfl, Nat.le_of_ble_eq_true rfl⟩) hP hD hS hA [0, 1, 2, 3] [] rfl rfl (by decide +kernel) (by decide +kernel) (fun r_178 u_179 H locs hw hP0 hD0 hS0 => ?_))
      replace hP : va_P D vwCl [(cc_O m0 12 [.int 0, m_1, m_2, .ref w0, m_4, m_5, m_6, m_7, m_8, m_9, m_10, m_11, m_12, m_13, m_14, m_15, m_16, m_17, m_18, m_19, .int 0, m_21, m_22, m_23, m_24, m_25, m_26, m_27, m_28, m_29, m_30, m_31, m_32, m_33, .int (u_179.2.2.2.1 0), .ref e0, m_36, .ref q0, .int (u_179.2.2.2.1 1), .long (u_179.2.2.2.2.1 0), .long (u_179.2.2.2.2.1 1), m_41, m_42, m_43, m_44, m_45, m_46, m_47, m_48, m_49, m_50, m_51, m_52, m_53, m_54, m_55, m_56, m_57, m_58, m_59]), (cc_l w0 (K 0) 5500 fw), (cc_rl e0 (K 2) 13 (u_179.2.2.1 0)), (cc_rl q0 (K 2) 400 (u_179.2.2.1 1))] H := hP0
      replace hD := as_D hP hD0 rfl
      replace hS := hS0
      clear hP0 hD0 hS0
      obtain ⟨h_182, k_180, k_181, -⟩ := hw
      replace hE := (((((hE.trans (Lt2_in k_181)).trans (Lt2_in rfl)).trans (Lt2_in rfl)).trans (Lt2_in rfl)).trans (Lt2_in rfl)).trans (Lt2_in rfl)
      rw [← hQ]
      have hP9 := hP.sub (ws' := [(cc_O m0 12 [.int 0, m_1, m_2, .ref w0, m_4, m_5, m_6, m_7, m_8, m_9, m_10, m_11, m_12, m_13, m_14, m_15, m_16, m_17, m_18, m_19, .int 0, m_21, m_22, m_23, m_24, m_25, m_26, m_27, m_28, m_29, m_30, m_31, m_32, m_33, .int (u_179.2.2.2.1 0), .ref e0, m_36, .ref q0, .int (u_179.2.2.2.1 1), .long (u_179.2.2.2.2.1 0), .long (u_179.2.2.2.2.1 1), m_41, m_42, m_43, m_44, m_45, m_46, m_47, m_48, m_49, m_50, m_51, m_52, m_53, m_54, m_55, m_56, m_57, m_58, m_59]), (cc_l w0 (K 0) 5500 fw), (cc_rl e0 (K 2) 13 (u_179.2.2.1 0)), (cc_rl q0 (K 2) 400 (u_179.2.2.1 1))]) [0, 1, 2, 3] rfl
      have hD9 := sub_D hP9 hD [0, 1, 2, 3] (by decide +kernel) rfl
      exact W.iret (v := r_178) hx hb hr (fun t ht hW => ⟨⟨r_178, ((fun _ => 0, fun _ => fun _ => 0, fun i => match i with | 0 => (u_179.2.2.1 0) | _ => (u_179.2.2.1 1), fun i => match i with | 0 => (u_179.2.2.2.1 0) | _ => (u_179.2.2.2.1 1), fun i => match i with | 0 => (u_179.2.2.2.2.1 0) | _ => (u_179.2.2.2.2.1 1), fun _ => fun _ => none) : Su), rfl, ⟨(show 0 ≤ ((u_179.2.2.2.1 1) : Int32).toInt ∧ ((u_179.2.2.2.1 1) : Int32).toInt ≤ 1 by omega), hE.symm, trivial⟩, (⟨by rw [ht]; exact hP9, hD9⟩ : Wd D A _ t)⟩, hS.F ht⟩) hS.2.2 dX12_of_183
    · replace hE := (((((((((((hE).trans (if_neg (by first | omega | (rw [rfl]; omega)))).trans (if_neg (by first | omega | (rw [rfl]; omega)))).trans (if_neg (by first | omega | (rw [rfl]; omega)))).trans (if_neg (by first | omega | (rw [rfl]; omega)))).trans (if_neg (by first | omega | (rw [rfl]; omega)))).trans (if_neg (by first | omega | (rw [rfl]; omega)))).trans (if_neg (by first | omega | (rw [rfl]; omega)))).trans (if_neg (by first | omega | (rw [rfl]; omega)))).trans (if_neg (by first | omega | (rw [rfl]; omega)))).trans (if_neg (by first | omega | (rw [rfl]; omega)))).trans (if_pos (by first | omega | (rw [rfl]; omega)))
      refine lv_tableIn (tgt := 184) hx hb dX12_of_16 (by omega) (by omega) (by rw [w_152]; rfl) (by decide +kernel) (lv_aload_n hx hb dX12_of_184 rfl (lv_at hl 0 rfl) (lv_iload_n hx hb dX12_of_185 rfl (lv_at hl 1 rfl) (kci (S := Su) (wr := []) (va_runV (As := [.int x]) (rest := []) ⟨hx, hb, hml, hown, hts⟩ (v_isBarred l D K m0 x (.int 0) m_1 m_2 w0 m_4 m_5 m_6 m_7 m_8 m_9 m_10 m_11 m_12 m_13 m_14 m_15 m_16 m_17 m_18 m_19 m_21 m_22 m_23 m_24 m_25 m_26 m_27 m_28 m_29 m_30 m_31 m_32 m_33 lw e0 m_36 q0 bro val sm m_41 m_42 m_43 m_44 m_45 m_46 m_47 m_48 m_49 m_50 m_51 m_52 m_53 m_54 m_55 m_56 m_57 m_58 m_59 fw gr fe frs H.size (by first | omega | decide) (by first | omega | decide) zfw zgr) (cwV 1 hts gX12_of_X12_isBarred rfl rfl rfl (by decide +kernel) ⟨Nat.le_of_ble_eq_true rfl, Nat.le_of_ble_eq_true rfl⟩) (mkV hK hN (hP.sub [0, 1, 2, 3] rfl) (hD.sub [0, 1, 2, 3] (by decide +kernel) rfl) (ci := 12) (q0 := 0) rfl rfl) rfl rfl hl.1 rfl (lv_room (Nat.le_of_ble_eq_true rfl)) dX12_of_186 ⟨Nat.le_of_ble_eq_true rfl, Nat.le_of_ble_eq_true rfl⟩) hP hD hS hA [0, 1, 2, 3] [] rfl rfl (by decide +kernel) (by decide +kernel) (fun r_183 u_184 H locs hw hP0 hD0 hS0 => ?_))))
      replace hP : va_P D vwCl [(cc_O m0 12 [.int 0, m_1, m_2, .ref w0, m_4, m_5, m_6, m_7, m_8, m_9, m_10, m_11, m_12, m_13, m_14, m_15, m_16, m_17, m_18, m_19, .int 0, m_21, m_22, m_23, m_24, m_25, m_26, m_27, m_28, m_29, m_30, m_31, m_32, m_33, .int (u_184.2.2.2.1 0), .ref e0, m_36, .ref q0, .int (u_184.2.2.2.1 1), .long (u_184.2.2.2.2.1 0), .long (u_184.2.2.2.2.1 1), m_41, m_42, m_43, m_44, m_45, m_46, m_47, m_48, m_49, m_50, m_51, m_52, m_53, m_54, m_55, m_56, m_57, m_58, m_59]), (cc_l w0 (K 0) 5500 fw), (cc_rl e0 (K 2) 13 (u_184.2.2.1 0)), (cc_rl q0 (K 2) 400 (u_184.2.2.1 1))] H := hP0
      replace hD := as_D hP hD0 rfl
      replace hS := hS0
      clear hP0 hD0 hS0
      obtain ⟨h_187, k_185, k_186, -⟩ := hw
      replace hE := (((((hE.trans (Lt2_in k_186)).trans (Lt2_in rfl)).trans (Lt2_in rfl)).trans (Lt2_in rfl)).trans (Lt2_in rfl)).trans (Lt2_in rfl)
      refine lv_if_eq (tgt := 196) hx hb dX12_of_189 (by decide +kernel) (fun c_188 => ?_) (fun c_188 => ?_)
      · have c_188i := i_eq (x := r_183.toInt) (y := 0) rfl rfl c_188
        replace hE := hE.trans (if_pos c_188)
        refine lv_iconst (v := 0) hx hb dX12_of_196 (by decide +kernel) ?_
        rw [← hQ]
        have hP9 := hP.sub (ws' := [(cc_O m0 12 [.int 0, m_1, m_2, .ref w0, m_4, m_5, m_6, m_7, m_8, m_9, m_10, m_11, m_12, m_13, m_14, m_15, m_16, m_17, m_18, m_19, .int 0, m_21, m_22, m_23, m_24, m_25, m_26, m_27, m_28, m_29, m_30, m_31, m_32, m_33, .int (u_184.2.2.2.1 0), .ref e0, m_36, .ref q0, .int (u_184.2.2.2.1 1), .long (u_184.2.2.2.2.1 0), .long (u_184.2.2.2.2.1 1), m_41, m_42, m_43, m_44, m_45, m_46, m_47, m_48, m_49, m_50, m_51, m_52, m_53, m_54, m_55, m_56, m_57, m_58, m_59]), (cc_l w0 (K 0) 5500 fw), (cc_rl e0 (K 2) 13 (u_184.2.2.1 0)), (cc_rl q0 (K 2) 400 (u_184.2.2.1 1))]) [0, 1, 2, 3] rfl
        have hD9 := sub_D hP9 hD [0, 1, 2, 3] (by decide +kernel) rfl
        exact W.iret (v := 0) hx hb hr (fun t ht hW => ⟨⟨0, ((fun _ => 0, fun _ => fun _ => 0, fun i => match i with | 0 => (u_184.2.2.1 0) | _ => (u_184.2.2.1 1), fun i => match i with | 0 => (u_184.2.2.2.1 0) | _ => (u_184.2.2.2.1 1), fun i => match i with | 0 => (u_184.2.2.2.2.1 0) | _ => (u_184.2.2.2.2.1 1), fun _ => fun _ => none) : Su), rfl, ⟨(show 0 ≤ ((u_184.2.2.2.1 1) : Int32).toInt ∧ ((u_184.2.2.2.1 1) : Int32).toInt ≤ 1 by omega), hE.symm, trivial⟩, (⟨by rw [ht]; exact hP9, hD9⟩ : Wd D A _ t)⟩, hS.F ht⟩) hS.2.2 dX12_of_197
      · have c_188i := i_ne (x := r_183.toInt) (y := 0) rfl rfl c_188
        replace hE := hE.trans (if_neg c_188)
        refine lv_iconst (v := 1) hx hb dX12_of_192 (by decide +kernel) (lv_goto (tgt := 197) hx hb dX12_of_193 (by decide +kernel) ?_)
        rw [← hQ]
        have hP9 := hP.sub (ws' := [(cc_O m0 12 [.int 0, m_1, m_2, .ref w0, m_4, m_5, m_6, m_7, m_8, m_9, m_10, m_11, m_12, m_13, m_14, m_15, m_16, m_17, m_18, m_19, .int 0, m_21, m_22, m_23, m_24, m_25, m_26, m_27, m_28, m_29, m_30, m_31, m_32, m_33, .int (u_184.2.2.2.1 0), .ref e0, m_36, .ref q0, .int (u_184.2.2.2.1 1), .long (u_184.2.2.2.2.1 0), .long (u_184.2.2.2.2.1 1), m_41, m_42, m_43, m_44, m_45, m_46, m_47, m_48, m_49, m_50, m_51, m_52, m_53, m_54, m_55, m_56, m_57, m_58, m_59]), (cc_l w0 (K 0) 5500 fw), (cc_rl e0 (K 2) 13 (u_184.2.2.1 0)), (cc_rl q0 (K 2) 400 (u_184.2.2.1 1))]) [0, 1, 2, 3] rfl
        have hD9 := sub_D hP9 hD [0, 1, 2, 3] (by decide +kernel) rfl
        exact W.iret (v := 1) hx hb hr (fun t ht hW => ⟨⟨1, ((fun _ => 0, fun _ => fun _ => 0, fun i => match i with | 0 => (u_184.2.2.1 0) | _ => (u_184.2.2.1 1), fun i => match i with | 0 => (u_184.2.2.2.1 0) | _ => (u_184.2.2.2.1 1), fun i => match i with | 0 => (u_184.2.2.2.2.1 0) | _ => (u_184.2.2.2.2.1 1), fun _ => fun _ => none) : Su), rfl, ⟨(show 0 ≤ ((u_184.2.2.2.1 1) : Int32).toInt ∧ ((u_184.2.2.2.1 1) : Int32).toInt ≤ 1 by omega), hE.symm, trivial⟩, (⟨by rw [ht]; exact hP9, hD9⟩ : Wd D A _ t)⟩, hS.F ht⟩) hS.2.2 dX12_of_197
    · replace hE := (((((((((((hE).trans (if_neg (by first | omega | (rw [rfl]; omega)))).trans (if_neg (by first | omega | (rw [rfl]; omega)))).trans (if_neg (by first | omega | (rw [rfl]; omega)))).trans (if_neg (by first | omega | (rw [rfl]; omega)))).trans (if_neg (by first | omega | (rw [rfl]; omega)))).trans (if_neg (by first | omega | (rw [rfl]; omega)))).trans (if_neg (by first | omega | (rw [rfl]; omega)))).trans (if_neg (by first | omega | (rw [rfl]; omega)))).trans (if_neg (by first | omega | (rw [rfl]; omega)))).trans (if_neg (by first | omega | (rw [rfl]; omega)))).trans (if_neg (by first | omega | (rw [rfl]; omega)))
      refine lv_tableOut (tgt := 198) hx hb dX12_of_16 (by omega) (by decide +kernel) (lv_iconst (v := (-1)) hx hb dX12_of_198 (by decide +kernel) ?_)
      rw [← hQ]
      have hP9 := hP.sub (ws' := [(cc_O m0 12 [.int 0, m_1, m_2, .ref w0, m_4, m_5, m_6, m_7, m_8, m_9, m_10, m_11, m_12, m_13, m_14, m_15, m_16, m_17, m_18, m_19, .int 0, m_21, m_22, m_23, m_24, m_25, m_26, m_27, m_28, m_29, m_30, m_31, m_32, m_33, .int lw, .ref e0, m_36, .ref q0, .int bro, .long val, .long sm, m_41, m_42, m_43, m_44, m_45, m_46, m_47, m_48, m_49, m_50, m_51, m_52, m_53, m_54, m_55, m_56, m_57, m_58, m_59]), (cc_l w0 (K 0) 5500 fw), (cc_rl e0 (K 2) 13 fe), (cc_rl q0 (K 2) 400 frs)]) [0, 1, 2, 3] rfl
      have hD9 := sub_D hP9 hD [0, 1, 2, 3] (by decide +kernel) rfl
      exact W.iret (v := (-1)) hx hb hr (fun t ht hW => ⟨⟨(-1), ((fun _ => 0, fun _ => fun _ => 0, fun i => match i with | 0 => fe | _ => frs, fun i => match i with | 0 => lw | _ => bro, fun i => match i with | 0 => val | _ => sm, fun _ => fun _ => none) : Su), rfl, ⟨(show 0 ≤ (bro : Int32).toInt ∧ (bro : Int32).toInt ≤ 1 by omega), hE.symm, trivial⟩, (⟨by rw [ht]; exact hP9, hD9⟩ : Wd D A _ t)⟩, hS.F ht⟩) hS.2.2 dX12_of_199
  · replace hE := (hE).trans (if_neg (by first | decide | (intro h9; have h8 := congrArg Int32.toInt h9; omega)))
    refine lv_if_ne (tgt := 15) hx hb dX12_of_10 (by decide +kernel) (fun c_189 => absurd (by decide +kernel) c_189) (fun c_189 => ?_)
    refine lv_iconst (v := (-1)) hx hb dX12_of_13 (by decide +kernel) ?_
    rw [← hQ]
    have hP9 := hP.sub (ws' := [(cc_O m0 12 [.int 0, m_1, m_2, .ref w0, m_4, m_5, m_6, m_7, m_8, m_9, m_10, m_11, m_12, m_13, m_14, m_15, m_16, m_17, m_18, m_19, .int 0, m_21, m_22, m_23, m_24, m_25, m_26, m_27, m_28, m_29, m_30, m_31, m_32, m_33, .int lw, .ref e0, m_36, .ref q0, .int bro, .long val, .long sm, m_41, m_42, m_43, m_44, m_45, m_46, m_47, m_48, m_49, m_50, m_51, m_52, m_53, m_54, m_55, m_56, m_57, m_58, m_59]), (cc_l w0 (K 0) 5500 fw), (cc_rl e0 (K 2) 13 fe), (cc_rl q0 (K 2) 400 frs)]) [0, 1, 2, 3] rfl
    have hD9 := sub_D hP9 hD [0, 1, 2, 3] (by decide +kernel) rfl
    exact W.iret (v := (-1)) hx hb hr (fun t ht hW => ⟨⟨(-1), ((fun _ => 0, fun _ => fun _ => 0, fun i => match i with | 0 => fe | _ => frs, fun i => match i with | 0 => lw | _ => bro, fun i => match i with | 0 => val | _ => sm, fun _ => fun _ => none) : Su), rfl, ⟨(show 0 ≤ (bro : Int32).toInt ∧ (bro : Int32).toInt ≤ 1 by omega), hE.symm, trivial⟩, (⟨by rw [ht]; exact hP9, hD9⟩ : Wd D A _ t)⟩, hS.F ht⟩) hS.2.2 dX12_of_14
set_option maxRecDepth 100000 in
noncomputable def E_v_discords_j121 (v_9450 : Int32) (rec_9612 : Int32 → Int32 → Int32 → Int32 → Int64 → Int64 → (Nat → Int64) → (Nat → Int64) → (Int32 × Int32 × Int32 × Int64 × Int64 × (Nat → Int64) × (Nat → Int64))) (v_9649 : Int32) (v_9650 : Int32) (v_9651 : Int32) (v_9652 : Int64) (v_9653 : Int64) (f_9654 : Nat → Int64) (f_9655 : Nat → Int64) : Int32 × Int32 × Int32 × Int64 × Int64 × (Nat → Int64) × (Nat → Int64) :=
  Lt (v_9450 + Int32.ofInt 1 : Int32) (fun x_9658 => rec_9612 x_9658 v_9649 v_9650 v_9651 v_9652 v_9653 f_9654 f_9655)
set_option maxRecDepth 100000 in
noncomputable def E_v_discords_l18 (fw : Nat → Int32) (v_8485 : Int32) (rec_9291 : Int32 → Int32 → Int32 → Int32 → Int64 → Int64 → (Nat → Int64) → (Nat → Int64) → (Int32 × Int32 × Int32 × Int64 × Int64 × (Nat → Int64) × (Nat → Int64))) (rec_9612 : Int32 → Int32 → Int32 → Int32 → Int64 → Int64 → (Nat → Int64) → (Nat → Int64) → (Int32 × Int32 × Int32 × Int64 × Int64 × (Nat → Int64) × (Nat → Int64))) (v_9450 : Int32) (v_9451 : Int32) (v_9452 : Int32) (v_9453 : Int32) (v_9454 : Int64) (v_9455 : Int64) (f_9456 : Nat → Int64) (f_9457 : Nat → Int64) : Int32 × Int32 × Int32 × Int64 × Int64 × (Nat → Int64) × (Nat → Int64) :=
  Lt (fw (0 : Int32).toNatClampNeg : Int32) (fun x_9614 => if x_9614 ≤ v_9450 then (Lt (v_8485 + Int32.ofInt 1 : Int32) (fun x_9616 => rec_9291 x_9616 v_9451 v_9452 v_9453 v_9454 v_9455 f_9456 f_9457)) else (Lt (E_v_isSounding v_8485 fw) (fun r_9617 => if r_9617 = 0 then (E_v_discords_j121 v_9450 rec_9612 v_9451 v_9452 v_9453 v_9454 v_9455 f_9456 f_9457) else (Lt (E_v_isSounding v_9450 fw) (fun r_9660 => if r_9660 = 0 then (E_v_discords_j121 v_9450 rec_9612 v_9451 v_9452 v_9453 v_9454 v_9455 f_9456 f_9457) else (Lt (43 + v_8485 : Int32) (fun x_9664 => Lt (fw (x_9664 : Int32).toNatClampNeg : Int32) (fun x_9665 => Lt (43 + v_9450 : Int32) (fun x_9666 => Lt (fw (x_9666 : Int32).toNatClampNeg : Int32) (fun x_9667 => if x_9665 = x_9667 then (Lt (35 + v_8485 : Int32) (fun x_9669 => Lt (fw (x_9669 : Int32).toNatClampNeg : Int32) (fun x_9670 => Lt (35 + v_9450 : Int32) (fun x_9671 => Lt (fw (x_9671 : Int32).toNatClampNeg : Int32) (fun x_9672 => Lt (E_v_areBeside x_9670 x_9672) (fun r_9673 => if r_9673 = 0 then (E_v_discords_j121 v_9450 rec_9612 v_9451 v_9452 v_9453 v_9454 v_9455 f_9456 f_9457) else (Lt (fw (3 : Int32).toNatClampNeg : Int32) (fun x_9677 => Lt (35 + v_9450 : Int32) (fun x_9678 => Lt (fw (x_9678 : Int32).toNatClampNeg : Int32) (fun x_9679 => Lt2 (E_v_tells x_9677 2 v_8485 x_9679 1 v_9452 v_9453 v_9454 v_9455 fw f_9456 f_9457) (fun r_9680 q0_r_9680 => Lt2 q0_r_9680 (fun u_9681_2_2_2_1_0 q1_u_9681_2_2_2_1_0 => Lt2 q1_u_9681_2_2_2_1_0 (fun u_9681_2_2_2_1_1 q2_u_9681_2_2_2_1_1 => Lt2 q2_u_9681_2_2_2_1_1 (fun u_9681_2_2_2_2_1_0 q3_u_9681_2_2_2_2_1_0 => Lt2 q3_u_9681_2_2_2_2_1_0 (fun u_9681_2_2_2_2_1_1 q4_u_9681_2_2_2_2_1_1 => Lt2 q4_u_9681_2_2_2_2_1_1 (fun u_9681_2_2_1_0 u_9681_2_2_1_1 => Lt (E_v_within_999 r_9680) (fun r_9684 => Lt (v_9451 + r_9684 : Int32) (fun x_9687 => E_v_discords_j121 v_9450 rec_9612 x_9687 u_9681_2_2_2_1_0 u_9681_2_2_2_1_1 u_9681_2_2_2_2_1_0 u_9681_2_2_2_2_1_1 u_9681_2_2_1_0 u_9681_2_2_1_1)))))))))))))))))) else (E_v_discords_j121 v_9450 rec_9612 v_9451 v_9452 v_9453 v_9454 v_9455 f_9456 f_9457)))))))))))
set_option maxRecDepth 100000 in
noncomputable def E_v_discords_l4 (fw : Nat → Int32) (rec_9291 : Int32 → Int32 → Int32 → Int32 → Int64 → Int64 → (Nat → Int64) → (Nat → Int64) → (Int32 × Int32 × Int32 × Int64 × Int64 × (Nat → Int64) × (Nat → Int64))) (v_8485 : Int32) (v_8486 : Int32) (v_8487 : Int32) (v_8488 : Int32) (v_8489 : Int64) (v_8490 : Int64) (f_8491 : Nat → Int64) (f_8492 : Nat → Int64) : Int32 × Int32 × Int32 × Int64 × Int64 × (Nat → Int64) × (Nat → Int64) :=
  Lt (fw (0 : Int32).toNatClampNeg : Int32) (fun x_9293 => if x_9293 ≤ v_8485 then (((v_8486, v_8487, v_8488, v_8489, v_8490, f_8491, f_8492) : Int32 × Int32 × Int32 × Int64 × Int64 × (Nat → Int64) × (Nat → Int64))) else (Lt (v_8485 + 1 : Int32) (fun x_9295 => Lp (α := Int32 → Int32 → Int32 → Int32 → Int64 → Int64 → (Nat → Int64) → (Nat → Int64) → (Int32 × Int32 × Int32 × Int64 × Int64 × (Nat → Int64) × (Nat → Int64))) (E_v_discords_l18 fw v_8485 rec_9291) (fun _ _ _ _ _ _ _ _ => ((0, 0, 0, 0, 0, fun _ => 0, fun _ => 0) : Int32 × Int32 × Int32 × Int64 × Int64 × (Nat → Int64) × (Nat → Int64))) ((9 - (x_9295 : Int32).toInt : Int).toNat + 1) x_9295 v_8486 v_8487 v_8488 v_8489 v_8490 f_8491 f_8492)))
set_option maxRecDepth 100000 in
noncomputable def E_v_discords (lw : Int32) (bro : Int32) (val : Int64) (sm : Int64) (fw : Nat → Int32) (fe : Nat → Int64) (frs : Nat → Int64) : Int32 × Int32 × Int32 × Int64 × Int64 × (Nat → Int64) × (Nat → Int64) :=
  Lp (α := Int32 → Int32 → Int32 → Int32 → Int64 → Int64 → (Nat → Int64) → (Nat → Int64) → (Int32 × Int32 × Int32 × Int64 × Int64 × (Nat → Int64) × (Nat → Int64))) (E_v_discords_l4 fw) (fun _ _ _ _ _ _ _ _ => ((0, 0, 0, 0, 0, fun _ => 0, fun _ => 0) : Int32 × Int32 × Int32 × Int64 × Int64 × (Nat → Int64) × (Nat → Int64))) ((9 - (0 : Int32).toInt : Int).toNat + 1) 0 0 lw bro val sm fe frs
set_option maxHeartbeats 4000000 in
set_option maxRecDepth 100000 in
theorem v_discords (l : Launch) (D : va_G) (K : Nat → ClassId) (m0 : Nat) (m_0 : Value) (m_1 : Value) (m_2 : Value) (w0 : Nat) (m_4 : Value) (m_5 : Value) (m_6 : Value) (m_7 : Value) (m_8 : Value) (m_9 : Value) (m_10 : Value) (m_11 : Value) (m_12 : Value) (m_13 : Value) (m_14 : Value) (m_15 : Value) (m_16 : Value) (m_17 : Value) (m_18 : Value) (m_19 : Value) (m_21 : Value) (m_22 : Value) (m_23 : Value) (m_24 : Value) (m_25 : Value) (m_26 : Value) (m_27 : Value) (m_28 : Value) (m_29 : Value) (m_30 : Value) (m_31 : Value) (m_32 : Value) (m_33 : Value) (lw : Int32) (e0 : Nat) (m_36 : Value) (q0 : Nat) (bro : Int32) (val : Int64) (sm : Int64) (m_41 : Value) (m_42 : Value) (m_43 : Value) (m_44 : Value) (m_45 : Value) (m_46 : Value) (m_47 : Value) (m_48 : Value) (m_49 : Value) (m_50 : Value) (m_51 : Value) (m_52 : Value) (m_53 : Value) (m_54 : Value) (m_55 : Value) (m_56 : Value) (m_57 : Value) (m_58 : Value) (m_59 : Value) (fw : Nat → Int32) (gr : Nat → Int32) (fe : Nat → Int64) (frs : Nat → Int64) (sz : Nat) (zbro : 0 ≤ bro.toInt ∧ bro.toInt ≤ 1) (zfw : RwOK fw) (zgr : FzM gr fw) : Met l yX12_discords wsX12_discords ({ frames := 4, cells := 0, slots := 0, locals := 102 }) (va_Pc [.ref m0] (Pre D K [(cc_O m0 12 [m_0, m_1, m_2, .ref w0, m_4, m_5, m_6, m_7, m_8, m_9, m_10, m_11, m_12, m_13, m_14, m_15, m_16, m_17, m_18, m_19, .int 0, m_21, m_22, m_23, m_24, m_25, m_26, m_27, m_28, m_29, m_30, m_31, m_32, m_33, .int lw, .ref e0, m_36, .ref q0, .int bro, .long val, .long sm, m_41, m_42, m_43, m_44, m_45, m_46, m_47, m_48, m_49, m_50, m_51, m_52, m_53, m_54, m_55, m_56, m_57, m_58, m_59]), (cc_l w0 (K 0) 5500 fw), (cc_rl e0 (K 2) 13 fe), (cc_rl q0 (K 2) 400 frs)] sz)) (va_Qi (S := Su) (fun (r : Int32) (u : Su) => (0 ≤ (u.2.2.2.1 1).toInt ∧ (u.2.2.2.1 1).toInt ≤ 1) ∧ ((r, (u.2.2.2.1 0), (u.2.2.2.1 1), (u.2.2.2.2.1 0), (u.2.2.2.2.1 1), (u.2.2.1 0), (u.2.2.1 1)) = E_v_discords lw bro val sm fw fe frs) ∧ True) (fun u t => Wd D (va_A [(cc_O m0 12 [m_0, m_1, m_2, .ref w0, m_4, m_5, m_6, m_7, m_8, m_9, m_10, m_11, m_12, m_13, m_14, m_15, m_16, m_17, m_18, m_19, .int 0, m_21, m_22, m_23, m_24, m_25, m_26, m_27, m_28, m_29, m_30, m_31, m_32, m_33, .int lw, .ref e0, m_36, .ref q0, .int bro, .long val, .long sm, m_41, m_42, m_43, m_44, m_45, m_46, m_47, m_48, m_49, m_50, m_51, m_52, m_53, m_54, m_55, m_56, m_57, m_58, m_59]), (cc_l w0 (K 0) 5500 fw), (cc_rl e0 (K 2) 13 fe), (cc_rl q0 (K 2) 400 frs)] sz) ((fun u => [(cc_O m0 12 [m_0, m_1, m_2, .ref w0, m_4, m_5, m_6, m_7, m_8, m_9, m_10, m_11, m_12, m_13, m_14, m_15, m_16, m_17, m_18, m_19, .int 0, m_21, m_22, m_23, m_24, m_25, m_26, m_27, m_28, m_29, m_30, m_31, m_32, m_33, .int (u.2.2.2.1 0), .ref e0, m_36, .ref q0, .int (u.2.2.2.1 1), .long (u.2.2.2.2.1 0), .long (u.2.2.2.2.1 1), m_41, m_42, m_43, m_44, m_45, m_46, m_47, m_48, m_49, m_50, m_51, m_52, m_53, m_54, m_55, m_56, m_57, m_58, m_59]), (cc_l w0 (K 0) 5500 fw), (cc_rl e0 (K 2) 13 (u.2.2.1 0)), (cc_rl q0 (K 2) 400 (u.2.2.1 1))]) u) t) (va_A [(cc_O m0 12 [m_0, m_1, m_2, .ref w0, m_4, m_5, m_6, m_7, m_8, m_9, m_10, m_11, m_12, m_13, m_14, m_15, m_16, m_17, m_18, m_19, .int 0, m_21, m_22, m_23, m_24, m_25, m_26, m_27, m_28, m_29, m_30, m_31, m_32, m_33, .int lw, .ref e0, m_36, .ref q0, .int bro, .long val, .long sm, m_41, m_42, m_43, m_44, m_45, m_46, m_47, m_48, m_49, m_50, m_51, m_52, m_53, m_54, m_55, m_56, m_57, m_58, m_59]), (cc_l w0 (K 0) 5500 fw), (cc_rl e0 (K 2) 13 fe), (cc_rl q0 (K 2) 400 frs)] sz)) 0 0 (va_A [(cc_O m0 12 [m_0, m_1, m_2, .ref w0, m_4, m_5, m_6, m_7, m_8, m_9, m_10, m_11, m_12, m_13, m_14, m_15, m_16, m_17, m_18, m_19, .int 0, m_21, m_22, m_23, m_24, m_25, m_26, m_27, m_28, m_29, m_30, m_31, m_32, m_33, .int lw, .ref e0, m_36, .ref q0, .int bro, .long val, .long sm, m_41, m_42, m_43, m_44, m_45, m_46, m_47, m_48, m_49, m_50, m_51, m_52, m_53, m_54, m_55, m_56, m_57, m_58, m_59]), (cc_l w0 (K 0) 5500 fw), (cc_rl e0 (K 2) 13 fe), (cc_rl q0 (K 2) 400 frs)] sz) := by
  refine Met.ofW (cc := cX12_discords) (maxL := 4) (ret := (some .int)) (by decide +kernel) rfl ?_
  intro p e s m args below meth c s₁ B hml hv
  obtain ⟨rfl, hsz, hP, hK, hD0, hN⟩ := hv
  have hx := B.exec
  have hb := B.bytes
  have hr := B.returns
  have hts := atoms_spec (ws := wsX12_discords) B.pre
  have hown : s.vm.findClass RX12 = some m.cls := findClass_of_methodNamed B.named
  have hlocks := B.notSynchronized
  subst hsz
  have hD := hD0.self (sz := s.heap.size)
  generalize hAe : va_A [(cc_O m0 12 [m_0, m_1, m_2, .ref w0, m_4, m_5, m_6, m_7, m_8, m_9, m_10, m_11, m_12, m_13, m_14, m_15, m_16, m_17, m_18, m_19, .int 0, m_21, m_22, m_23, m_24, m_25, m_26, m_27, m_28, m_29, m_30, m_31, m_32, m_33, .int lw, .ref e0, m_36, .ref q0, .int bro, .long val, .long sm, m_41, m_42, m_43, m_44, m_45, m_46, m_47, m_48, m_49, m_50, m_51, m_52, m_53, m_54, m_55, m_56, m_57, m_58, m_59]), (cc_l w0 (K 0) 5500 fw), (cc_rl e0 (K 2) 13 fe), (cc_rl q0 (K 2) 400 frs)] s.heap.size = A at hD ⊢
  have hA : ∀ q : Nat, s.heap.size ≤ q → A q := fun q h => by rw [← hAe]; exact Or.inr h
  clear hAe
  have hS : va_S A s.heap s.heap [] := va_S.rf
  replace hP : va_P D vwCl [(cc_O m0 12 [m_0, m_1, m_2, .ref w0, m_4, m_5, m_6, m_7, m_8, m_9, m_10, m_11, m_12, m_13, m_14, m_15, m_16, m_17, m_18, m_19, .int 0, m_21, m_22, m_23, m_24, m_25, m_26, m_27, m_28, m_29, m_30, m_31, m_32, m_33, .int lw, .ref e0, m_36, .ref q0, .int bro, .long val, .long sm, m_41, m_42, m_43, m_44, m_45, m_46, m_47, m_48, m_49, m_50, m_51, m_52, m_53, m_54, m_55, m_56, m_57, m_58, m_59]), (cc_l w0 (K 0) 5500 fw), (cc_rl e0 (K 2) 13 fe), (cc_rl q0 (K 2) 400 frs)] s.heap := hP
  have hl := lv_entry [.ref m0] (n := 4) (Nat.le_of_ble_eq_true rfl)
  rw [lg_entry_eq]
  generalize (lg_sl [.ref m0] ++ List.replicate (4 - (lg_sl [.ref m0]).length) Slot.unset).toArray = ls at hl ⊢
  have hl : lv_has ls 4 [(0, .ref m0)] := hl
  have hw12 : ∀ w ∈ wsX120, w ∈ wsX12_discords := fun w h => (List.mem_cons_of_mem _ (List.mem_append_right _ h))
  generalize hQ : MQ below _ _ s _ _ _ = Q
  have hE := E_v_discords.eq_def lw bro val sm fw fe frs
  refine lv_iconst (v := 0) hx hb dX12_discords_0 (by decide +kernel) (lv_istore_n (lv' := [(1, .int 0), (0, .ref m0)]) hx hb dX12_discords_1 rfl hl (by decide +kernel) rfl (fun ls hl => ?_))
  refine lv_iconst (v := 0) hx hb dX12_discords_2 (by decide +kernel) (lv_istore_n (lv' := [(2, .int 0), (1, .int 0), (0, .ref m0)]) hx hb dX12_discords_3 rfl hl (by decide +kernel) rfl (fun ls hl => ?_))
  have lp_9291 : ∀ (nn_ : Nat) (v_8485 : Int32) (v_8486 : Int32) (v_8487 : Int32) (v_8488 : Int32) (v_8489 : Int64) (v_8490 : Int64) (f_8491 : Nat → Int64) (f_8492 : Nat → Int64) (hv_8485 : 0 ≤ v_8485.toInt ∧ v_8485.toInt ≤ 8) (hv_8488 : 0 ≤ v_8488.toInt ∧ v_8488.toInt ≤ 1) (hn : (9 - v_8485.toInt : Int).toNat < nn_) (hE : E_v_discords lw bro val sm fw fe frs = Lp (α := Int32 → Int32 → Int32 → Int32 → Int64 → Int64 → (Nat → Int64) → (Nat → Int64) → (Int32 × Int32 × Int32 × Int64 × Int64 × (Nat → Int64) × (Nat → Int64))) (E_v_discords_l4 fw) (fun _ _ _ _ _ _ _ _ => ((0, 0, 0, 0, 0, fun _ => 0, fun _ => 0) : Int32 × Int32 × Int32 × Int64 × Int64 × (Nat → Int64) × (Nat → Int64))) nn_ v_8485 v_8486 v_8487 v_8488 v_8489 v_8490 f_8491 f_8492) (H : Heap) (locs : List Loc) (hP : va_P D vwCl [(cc_O m0 12 [m_0, m_1, m_2, .ref w0, m_4, m_5, m_6, m_7, m_8, m_9, m_10, m_11, m_12, m_13, m_14, m_15, m_16, m_17, m_18, m_19, .int 0, m_21, m_22, m_23, m_24, m_25, m_26, m_27, m_28, m_29, m_30, m_31, m_32, m_33, .int v_8487, .ref e0, m_36, .ref q0, .int v_8488, .long v_8489, .long v_8490, m_41, m_42, m_43, m_44, m_45, m_46, m_47, m_48, m_49, m_50, m_51, m_52, m_53, m_54, m_55, m_56, m_57, m_58, m_59]), (cc_l w0 (K 0) 5500 fw), (cc_rl e0 (K 2) 13 f_8491), (cc_rl q0 (K 2) 400 f_8492)] H) (hD : va_D A [(cc_O m0 12 [m_0, m_1, m_2, .ref w0, m_4, m_5, m_6, m_7, m_8, m_9, m_10, m_11, m_12, m_13, m_14, m_15, m_16, m_17, m_18, m_19, .int 0, m_21, m_22, m_23, m_24, m_25, m_26, m_27, m_28, m_29, m_30, m_31, m_32, m_33, .int v_8487, .ref e0, m_36, .ref q0, .int v_8488, .long v_8489, .long v_8490, m_41, m_42, m_43, m_44, m_45, m_46, m_47, m_48, m_49, m_50, m_51, m_52, m_53, m_54, m_55, m_56, m_57, m_58, m_59]), (cc_l w0 (K 0) 5500 fw), (cc_rl e0 (K 2) 13 f_8491), (cc_rl q0 (K 2) 400 f_8492)]) (hS : va_S A s.heap H locs) (ls : Array Slot) (hl : lv_has ls 4 [(2, .int v_8485), (1, .int v_8486), (0, .ref m0)]), W p l e ({ frames := 4, cells := 0, slots := 0, locals := 102 }) s m (([.ref m0] : List Value).toArray) below meth c H locs 0 0 Q (F0 m 4 ls []) := by
    clear hE hP hD hS hl
    intro nn_
    induction nn_ with
    | zero =>
      intro v_8485 v_8486 v_8487 v_8488 v_8489 v_8490 f_8491 f_8492 hv_8485 hv_8488 hn hE H locs hP hD hS ls hl
      exact absurd hn (Nat.not_lt_zero _)
    | succ nn_ ih_9292 =>
      intro v_8485 v_8486 v_8487 v_8488 v_8489 v_8490 f_8491 f_8492 hv_8485 hv_8488 hn hE H locs hP hD hS ls hl
      replace hE : E_v_discords lw bro val sm fw fe frs = E_v_discords_l4 fw (Lp (α := Int32 → Int32 → Int32 → Int32 → Int64 → Int64 → (Nat → Int64) → (Nat → Int64) → (Int32 × Int32 × Int32 × Int64 × Int64 × (Nat → Int64) × (Nat → Int64))) (E_v_discords_l4 fw) (fun _ _ _ _ _ _ _ _ => ((0, 0, 0, 0, 0, fun _ => 0, fun _ => 0) : Int32 × Int32 × Int32 × Int64 × Int64 × (Nat → Int64) × (Nat → Int64))) nn_) v_8485 v_8486 v_8487 v_8488 v_8489 v_8490 f_8491 f_8492 := hE
      obtain ⟨rec_9291, hrec_9291⟩ : ∃ z9, z9 = Lp (α := Int32 → Int32 → Int32 → Int32 → Int64 → Int64 → (Nat → Int64) → (Nat → Int64) → (Int32 × Int32 × Int32 × Int64 × Int64 × (Nat → Int64) × (Nat → Int64))) (E_v_discords_l4 fw) (fun _ _ _ _ _ _ _ _ => ((0, 0, 0, 0, 0, fun _ => 0, fun _ => 0) : Int32 × Int32 × Int32 × Int64 × Int64 × (Nat → Int64) × (Nat → Int64))) nn_ := ⟨_, rfl⟩
      rw [← hrec_9291] at hE
      replace hE := hE.trans (E_v_discords_l4.eq_def _ _ _ _ _ _ _ _ _ _)
      refine lv_iload_n hx hb dX12_discords_4 rfl (lv_at hl 0 rfl) (lv_aload_n hx hb dX12_discords_5 rfl (lv_at hl 2 rfl) (va_get (ci := 12) (v := .ref w0) (C := RX12) (T := TX12) (N := 60) hx hb hts hw12 hown hK hP 0 rfl rfl 3 (by decide +kernel) (hts _ mm_X12_discords_833) (fun _ h9 => h9) rfl dX12_discords_6 (lv_iconst (v := 0) hx hb dX12_discords_9 (by decide +kernel) (va_iald hx hb hK hP 1 0 rfl rfl (i_in (x := 0) rfl (by omega)) dX12_discords_10 (lv_topi (fun x_9293 ex_9293 => ?_))))))
      replace hE := hE.trans (Lt_in ex_9293)
      have px_9293 := RwOK.at zfw (show (0 : Int32).toInt = 0 from rfl) (show 0 ≤ 0 ∧ 0 < 100 by omega)
      rw [← ex_9293] at px_9293
      have hx_9293 := PR.r_0 px_9293 (by omega)
      refine lv_icmp_ge (tgt := 133) hx hb dX12_discords_11 (by decide +kernel) (fun c_9294 => ?_) (fun c_9294 => ?_)
      · have c_9294i := i_le (x := x_9293.toInt) (y := v_8485.toInt) rfl rfl c_9294
        replace hE := hE.trans (if_pos c_9294)
        refine lv_iload_n hx hb dX12_discords_133 rfl (lv_at hl 1 rfl) ?_
        rw [← hQ]
        have hP9 := hP.sub (ws' := [(cc_O m0 12 [m_0, m_1, m_2, .ref w0, m_4, m_5, m_6, m_7, m_8, m_9, m_10, m_11, m_12, m_13, m_14, m_15, m_16, m_17, m_18, m_19, .int 0, m_21, m_22, m_23, m_24, m_25, m_26, m_27, m_28, m_29, m_30, m_31, m_32, m_33, .int v_8487, .ref e0, m_36, .ref q0, .int v_8488, .long v_8489, .long v_8490, m_41, m_42, m_43, m_44, m_45, m_46, m_47, m_48, m_49, m_50, m_51, m_52, m_53, m_54, m_55, m_56, m_57, m_58, m_59]), (cc_l w0 (K 0) 5500 fw), (cc_rl e0 (K 2) 13 f_8491), (cc_rl q0 (K 2) 400 f_8492)]) [0, 1, 2, 3] rfl
        have hD9 := sub_D hP9 hD [0, 1, 2, 3] (by decide +kernel) rfl
        exact W.iret (v := v_8486) hx hb hr (fun t ht hW => ⟨⟨v_8486, ((fun _ => 0, fun _ => fun _ => 0, fun i => match i with | 0 => f_8491 | _ => f_8492, fun i => match i with | 0 => v_8487 | _ => v_8488, fun i => match i with | 0 => v_8489 | _ => v_8490, fun _ => fun _ => none) : Su), rfl, ⟨(show 0 ≤ (v_8488 : Int32).toInt ∧ (v_8488 : Int32).toInt ≤ 1 by omega), hE.symm, trivial⟩, (⟨by rw [ht]; exact hP9, hD9⟩ : Wd D A _ t)⟩, hS.F ht⟩) hS.2.2 dX12_discords_134
      · have c_9294i := i_nle (x := x_9293.toInt) (y := v_8485.toInt) rfl rfl c_9294
        replace hE := hE.trans (if_neg c_9294)
        refine lv_iload_n hx hb dX12_discords_14 rfl (lv_at hl 0 rfl) (lv_iconst (v := 1) hx hb dX12_discords_15 (by decide +kernel) (lv_iadd hx hb dX12_discords_16 (lv_topi (fun x_9295 ex_9295 => ?_))))
        replace hE := hE.trans (Lt_in ex_9295)
        have hx_9295 : x_9295.toInt = (v_8485.toInt + 1) := by rw [ex_9295]; exact i_add rfl (show (1 : Int32).toInt = 1 from rfl) (by omega)
        refine lv_istore_n (lv' := [(3, .int x_9295), (2, .int v_8485), (1, .int v_8486), (0, .ref m0)]) hx hb dX12_discords_17 rfl hl (by decide +kernel) rfl (fun ls hl => ?_)
        have lp_9612 : ∀ (nn_ : Nat) (v_9450 : Int32) (v_9451 : Int32) (v_9452 : Int32) (v_9453 : Int32) (v_9454 : Int64) (v_9455 : Int64) (f_9456 : Nat → Int64) (f_9457 : Nat → Int64) (hv_9450 : 1 ≤ v_9450.toInt ∧ v_9450.toInt ≤ 8) (hv_9453 : 0 ≤ v_9453.toInt ∧ v_9453.toInt ≤ 1) (hn : (9 - v_9450.toInt : Int).toNat < nn_) (hE : E_v_discords lw bro val sm fw fe frs = Lp (α := Int32 → Int32 → Int32 → Int32 → Int64 → Int64 → (Nat → Int64) → (Nat → Int64) → (Int32 × Int32 × Int32 × Int64 × Int64 × (Nat → Int64) × (Nat → Int64))) (E_v_discords_l18 fw v_8485 rec_9291) (fun _ _ _ _ _ _ _ _ => ((0, 0, 0, 0, 0, fun _ => 0, fun _ => 0) : Int32 × Int32 × Int32 × Int64 × Int64 × (Nat → Int64) × (Nat → Int64))) nn_ v_9450 v_9451 v_9452 v_9453 v_9454 v_9455 f_9456 f_9457) (H : Heap) (locs : List Loc) (hP : va_P D vwCl [(cc_O m0 12 [m_0, m_1, m_2, .ref w0, m_4, m_5, m_6, m_7, m_8, m_9, m_10, m_11, m_12, m_13, m_14, m_15, m_16, m_17, m_18, m_19, .int 0, m_21, m_22, m_23, m_24, m_25, m_26, m_27, m_28, m_29, m_30, m_31, m_32, m_33, .int v_9452, .ref e0, m_36, .ref q0, .int v_9453, .long v_9454, .long v_9455, m_41, m_42, m_43, m_44, m_45, m_46, m_47, m_48, m_49, m_50, m_51, m_52, m_53, m_54, m_55, m_56, m_57, m_58, m_59]), (cc_l w0 (K 0) 5500 fw), (cc_rl e0 (K 2) 13 f_9456), (cc_rl q0 (K 2) 400 f_9457)] H) (hD : va_D A [(cc_O m0 12 [m_0, m_1, m_2, .ref w0, m_4, m_5, m_6, m_7, m_8, m_9, m_10, m_11, m_12, m_13, m_14, m_15, m_16, m_17, m_18, m_19, .int 0, m_21, m_22, m_23, m_24, m_25, m_26, m_27, m_28, m_29, m_30, m_31, m_32, m_33, .int v_9452, .ref e0, m_36, .ref q0, .int v_9453, .long v_9454, .long v_9455, m_41, m_42, m_43, m_44, m_45, m_46, m_47, m_48, m_49, m_50, m_51, m_52, m_53, m_54, m_55, m_56, m_57, m_58, m_59]), (cc_l w0 (K 0) 5500 fw), (cc_rl e0 (K 2) 13 f_9456), (cc_rl q0 (K 2) 400 f_9457)]) (hS : va_S A s.heap H locs) (ls : Array Slot) (hl : lv_has ls 4 [(3, .int v_9450), (2, .int v_8485), (1, .int v_9451), (0, .ref m0)]), W p l e ({ frames := 4, cells := 0, slots := 0, locals := 102 }) s m (([.ref m0] : List Value).toArray) below meth c H locs 0 0 Q (F0 m 18 ls []) := by
          clear hE hP hD hS hl
          intro nn_
          induction nn_ with
          | zero =>
            intro v_9450 v_9451 v_9452 v_9453 v_9454 v_9455 f_9456 f_9457 hv_9450 hv_9453 hn hE H locs hP hD hS ls hl
            exact absurd hn (Nat.not_lt_zero _)
          | succ nn_ ih_9613 =>
            intro v_9450 v_9451 v_9452 v_9453 v_9454 v_9455 f_9456 f_9457 hv_9450 hv_9453 hn hE H locs hP hD hS ls hl
            replace hE : E_v_discords lw bro val sm fw fe frs = E_v_discords_l18 fw v_8485 rec_9291 (Lp (α := Int32 → Int32 → Int32 → Int32 → Int64 → Int64 → (Nat → Int64) → (Nat → Int64) → (Int32 × Int32 × Int32 × Int64 × Int64 × (Nat → Int64) × (Nat → Int64))) (E_v_discords_l18 fw v_8485 rec_9291) (fun _ _ _ _ _ _ _ _ => ((0, 0, 0, 0, 0, fun _ => 0, fun _ => 0) : Int32 × Int32 × Int32 × Int64 × Int64 × (Nat → Int64) × (Nat → Int64))) nn_) v_9450 v_9451 v_9452 v_9453 v_9454 v_9455 f_9456 f_9457 := hE
            obtain ⟨rec_9612, hrec_9612⟩ : ∃ z9, z9 = Lp (α := Int32 → Int32 → Int32 → Int32 → Int64 → Int64 → (Nat → Int64) → (Nat → Int64) → (Int32 × Int32 × Int32 × Int64 × Int64 × (Nat → Int64) × (Nat → Int64))) (E_v_discords_l18 fw v_8485 rec_9291) (fun _ _ _ _ _ _ _ _ => ((0, 0, 0, 0, 0, fun _ => 0, fun _ => 0) : Int32 × Int32 × Int32 × Int64 × Int64 × (Nat → Int64) × (Nat → Int64))) nn_ := ⟨_, rfl⟩
            rw [← hrec_9612] at hE
            replace hE := hE.trans (E_v_discords_l18.eq_def _ _ _ _ _ _ _ _ _ _ _ _)
            refine lv_iload_n hx hb dX12_discords_18 rfl (lv_at hl 0 rfl) (lv_aload_n hx hb dX12_discords_19 rfl (lv_at hl 3 rfl) (va_get (ci := 12) (v := .ref w0) (C := RX12) (T := TX12) (N := 60) hx hb hts hw12 hown hK hP 0 rfl rfl 3 (by decide +kernel) (hts _ mm_X12_discords_833) (fun _ h9 => h9) rfl dX12_discords_20 (lv_iconst (v := 0) hx hb dX12_discords_23 (by decide +kernel) (va_iald hx hb hK hP 1 0 rfl rfl (i_in (x := 0) rfl (by omega)) dX12_discords_24 (lv_topi (fun x_9614 ex_9614 => ?_))))))
            replace hE := hE.trans (Lt_in ex_9614)
            have px_9614 := RwOK.at zfw (show (0 : Int32).toInt = 0 from rfl) (show 0 ≤ 0 ∧ 0 < 100 by omega)
            rw [← ex_9614] at px_9614
            have hx_9614 := PR.r_0 px_9614 (by omega)
            refine lv_icmp_ge (tgt := 127) hx hb dX12_discords_25 (by decide +kernel) (fun c_9615 => ?_) (fun c_9615 => ?_)
            · have c_9615i := i_le (x := x_9614.toInt) (y := v_9450.toInt) rfl rfl c_9615
              replace hE := hE.trans (if_pos c_9615)
              obtain ⟨x_9616, ex_9616⟩ : ∃ y : Int32, y = v_8485 + Int32.ofInt 1 := ⟨_, rfl⟩
              replace hE := hE.trans (Lt_in ex_9616)
              have hx_9616 : x_9616.toInt = (v_8485.toInt + 1) := by rw [ex_9616]; exact i_add rfl (show (Int32.ofInt 1).toInt = 1 from rfl) (by omega)
              refine lv_iinc (v := x_9616) (lv' := [(2, .int x_9616), (3, .int v_9450), (1, .int v_9451), (0, .ref m0)]) hx hb dX12_discords_127 hl (k := 1) rfl (by rw [ex_9616]) (by decide +kernel) rfl (fun ls hl => ?_)
              refine lv_goto (tgt := 4) hx hb dX12_discords_130 (by decide +kernel) ?_
              exact ih_9292 x_9616 v_9451 v_9452 v_9453 v_9454 v_9455 f_9456 f_9457 (by rw [hx_9616]; omega) (by omega) (by omega) (hE.trans (by rw [hrec_9291])) _ _ hP hD hS ls (lv_sub hl [0, 2, 3] rfl)
            · have c_9615i := i_nle (x := x_9614.toInt) (y := v_9450.toInt) rfl rfl c_9615
              replace hE := hE.trans (if_neg c_9615)
              refine lv_aload_n hx hb dX12_discords_28 rfl (lv_at hl 3 rfl) (lv_iload_n hx hb dX12_discords_29 rfl (lv_at hl 1 rfl) (pci (va_runV (As := [.int v_8485]) (rest := []) ⟨hx, hb, hml, hown, hts⟩ (v_isSounding l D K m0 v_8485 m_0 m_1 m_2 w0 m_4 m_5 m_6 m_7 m_8 m_9 m_10 m_11 m_12 m_13 m_14 m_15 m_16 m_17 m_18 m_19 (.int 0) m_21 m_22 m_23 m_24 m_25 m_26 m_27 m_28 m_29 m_30 m_31 m_32 m_33 (.int v_9452) (.ref e0) m_36 (.ref q0) (.int v_9453) (.long v_9454) (.long v_9455) m_41 m_42 m_43 m_44 m_45 m_46 m_47 m_48 m_49 m_50 m_51 m_52 m_53 m_54 m_55 m_56 m_57 m_58 m_59 fw H.size (by first | omega | decide) zfw) (cwV 1 hts gX12_discords_X12_isSounding rfl rfl rfl (by decide +kernel) ⟨Nat.le_of_ble_eq_true rfl, Nat.le_of_ble_eq_true rfl⟩) (mkV hK hN (hP.sub [0, 1] rfl) (hD.sub [0, 1] (by decide +kernel) rfl) (ci := 12) (q0 := 0) rfl rfl) rfl rfl hl.1 rfl (lv_room (Nat.le_of_ble_eq_true rfl)) dX12_discords_30 ⟨Nat.le_of_ble_eq_true rfl, Nat.le_of_ble_eq_true rfl⟩) (fun r_9617 hw => ?_)))
              obtain ⟨h_9619, k_9618, -⟩ := hw
              replace hE := hE.trans (Lt_in k_9618)
              have j_9657 : ∀ (v_9649 : Int32) (v_9650 : Int32) (v_9651 : Int32) (v_9652 : Int64) (v_9653 : Int64) (f_9654 : Nat → Int64) (f_9655 : Nat → Int64) (hv_9651 : 0 ≤ v_9651.toInt ∧ v_9651.toInt ≤ 1) (hE : E_v_discords lw bro val sm fw fe frs = E_v_discords_j121 v_9450 rec_9612 v_9649 v_9650 v_9651 v_9652 v_9653 f_9654 f_9655) (H : Heap) (locs : List Loc) (hP : va_P D vwCl [(cc_O m0 12 [m_0, m_1, m_2, .ref w0, m_4, m_5, m_6, m_7, m_8, m_9, m_10, m_11, m_12, m_13, m_14, m_15, m_16, m_17, m_18, m_19, .int 0, m_21, m_22, m_23, m_24, m_25, m_26, m_27, m_28, m_29, m_30, m_31, m_32, m_33, .int v_9650, .ref e0, m_36, .ref q0, .int v_9651, .long v_9652, .long v_9653, m_41, m_42, m_43, m_44, m_45, m_46, m_47, m_48, m_49, m_50, m_51, m_52, m_53, m_54, m_55, m_56, m_57, m_58, m_59]), (cc_l w0 (K 0) 5500 fw), (cc_rl e0 (K 2) 13 f_9654), (cc_rl q0 (K 2) 400 f_9655)] H) (hD : va_D A [(cc_O m0 12 [m_0, m_1, m_2, .ref w0, m_4, m_5, m_6, m_7, m_8, m_9, m_10, m_11, m_12, m_13, m_14, m_15, m_16, m_17, m_18, m_19, .int 0, m_21, m_22, m_23, m_24, m_25, m_26, m_27, m_28, m_29, m_30, m_31, m_32, m_33, .int v_9650, .ref e0, m_36, .ref q0, .int v_9651, .long v_9652, .long v_9653, m_41, m_42, m_43, m_44, m_45, m_46, m_47, m_48, m_49, m_50, m_51, m_52, m_53, m_54, m_55, m_56, m_57, m_58, m_59]), (cc_l w0 (K 0) 5500 fw), (cc_rl e0 (K 2) 13 f_9654), (cc_rl q0 (K 2) 400 f_9655)]) (hS : va_S A s.heap H locs) (ls : Array Slot) (hl : lv_has ls 4 [(3, .int v_9450), (2, .int v_8485), (1, .int v_9649), (0, .ref m0)]), W p l e ({ frames := 4, cells := 0, slots := 0, locals := 102 }) s m (([.ref m0] : List Value).toArray) below meth c H locs 0 0 Q (F0 m 121 ls []) := by
                clear hE hP hD hS hl
                intro v_9649 v_9650 v_9651 v_9652 v_9653 f_9654 f_9655 hv_9651 hE H locs hP hD hS ls hl
                replace hE := hE.trans (E_v_discords_j121.eq_def _ _ _ _ _ _ _ _ _)
                obtain ⟨x_9658, ex_9658⟩ : ∃ y : Int32, y = v_9450 + Int32.ofInt 1 := ⟨_, rfl⟩
                replace hE := hE.trans (Lt_in ex_9658)
                have hx_9658 : x_9658.toInt = (v_9450.toInt + 1) := by rw [ex_9658]; exact i_add rfl (show (Int32.ofInt 1).toInt = 1 from rfl) (by omega)
                refine lv_iinc (v := x_9658) (lv' := [(3, .int x_9658), (2, .int v_8485), (1, .int v_9649), (0, .ref m0)]) hx hb dX12_discords_121 hl (k := 0) rfl (by rw [ex_9658]) (by decide +kernel) rfl (fun ls hl => ?_)
                refine lv_goto (tgt := 18) hx hb dX12_discords_124 (by decide +kernel) ?_
                exact ih_9613 x_9658 v_9649 v_9650 v_9651 v_9652 v_9653 f_9654 f_9655 (by rw [hx_9658]; omega) (by omega) (by omega) (hE.trans (by rw [hrec_9612])) _ _ hP hD hS ls (lv_sub hl [0, 1, 2, 3] rfl)
              refine lv_if_eq (tgt := 121) hx hb dX12_discords_33 (by decide +kernel) (fun c_9659 => ?_) (fun c_9659 => ?_)
              · have c_9659i := i_eq (x := r_9617.toInt) (y := 0) rfl rfl c_9659
                replace hE := hE.trans (if_pos c_9659)
                exact j_9657 v_9451 v_9452 v_9453 v_9454 v_9455 f_9456 f_9457 (by omega) hE _ _ hP hD hS ls (lv_sub hl [0, 1, 2, 3] rfl)
              · have c_9659i := i_ne (x := r_9617.toInt) (y := 0) rfl rfl c_9659
                replace hE := hE.trans (if_neg c_9659)
                refine lv_aload_n hx hb dX12_discords_36 rfl (lv_at hl 3 rfl) (lv_iload_n hx hb dX12_discords_37 rfl (lv_at hl 0 rfl) (pci (va_runV (As := [.int v_9450]) (rest := []) ⟨hx, hb, hml, hown, hts⟩ (v_isSounding l D K m0 v_9450 m_0 m_1 m_2 w0 m_4 m_5 m_6 m_7 m_8 m_9 m_10 m_11 m_12 m_13 m_14 m_15 m_16 m_17 m_18 m_19 (.int 0) m_21 m_22 m_23 m_24 m_25 m_26 m_27 m_28 m_29 m_30 m_31 m_32 m_33 (.int v_9452) (.ref e0) m_36 (.ref q0) (.int v_9453) (.long v_9454) (.long v_9455) m_41 m_42 m_43 m_44 m_45 m_46 m_47 m_48 m_49 m_50 m_51 m_52 m_53 m_54 m_55 m_56 m_57 m_58 m_59 fw H.size (by first | omega | decide) zfw) (cwV 1 hts gX12_discords_X12_isSounding rfl rfl rfl (by decide +kernel) ⟨Nat.le_of_ble_eq_true rfl, Nat.le_of_ble_eq_true rfl⟩) (mkV hK hN (hP.sub [0, 1] rfl) (hD.sub [0, 1] (by decide +kernel) rfl) (ci := 12) (q0 := 0) rfl rfl) rfl rfl hl.1 rfl (lv_room (Nat.le_of_ble_eq_true rfl)) dX12_discords_38 ⟨Nat.le_of_ble_eq_true rfl, Nat.le_of_ble_eq_true rfl⟩) (fun r_9660 hw => ?_)))
                obtain ⟨h_9662, k_9661, -⟩ := hw
                replace hE := hE.trans (Lt_in k_9661)
                refine lv_if_eq (tgt := 121) hx hb dX12_discords_41 (by decide +kernel) (fun c_9663 => ?_) (fun c_9663 => ?_)
                · have c_9663i := i_eq (x := r_9660.toInt) (y := 0) rfl rfl c_9663
                  replace hE := hE.trans (if_pos c_9663)
                  exact j_9657 v_9451 v_9452 v_9453 v_9454 v_9455 f_9456 f_9457 (by omega) hE _ _ hP hD hS ls (lv_sub hl [0, 1, 2, 3] rfl)
                · have c_9663i := i_ne (x := r_9660.toInt) (y := 0) rfl rfl c_9663
                  replace hE := hE.trans (if_neg c_9663)
                  refine lv_aload_n hx hb dX12_discords_44 rfl (lv_at hl 3 rfl) (va_get (ci := 12) (v := .ref w0) (C := RX12) (T := TX12) (N := 60) hx hb hts hw12 hown hK hP 0 rfl rfl 3 (by decide +kernel) (hts _ mm_X12_discords_833) (fun _ h9 => h9) rfl dX12_discords_45 (lv_bipush (v := 43) hx hb dX12_discords_48 (by decide +kernel) (lv_iload_n hx hb dX12_discords_50 rfl (lv_at hl 1 rfl) (lv_iadd hx hb dX12_discords_51 (lv_topi (fun x_9664 ex_9664 => ?_))))))
                  replace hE := hE.trans (Lt_in ex_9664)
                  have hx_9664 : x_9664.toInt = (43 + v_8485.toInt) := by rw [ex_9664]; exact i_add (show (43 : Int32).toInt = 43 from rfl) rfl (by omega)
                  refine va_iald hx hb hK hP 1 0 rfl rfl (i_in hx_9664 (by omega)) dX12_discords_52 (lv_topi (fun x_9665 ex_9665 => ?_))
                  replace hE := hE.trans (Lt_in ex_9665)
                  have px_9665 := RwOK.at zfw hx_9664 (show 0 ≤ (43 + v_8485.toInt) ∧ (43 + v_8485.toInt) < 100 by omega)
                  rw [← ex_9665] at px_9665
                  refine lv_aload_n hx hb dX12_discords_53 rfl (lv_at hl 3 rfl) (va_get (ci := 12) (v := .ref w0) (C := RX12) (T := TX12) (N := 60) hx hb hts hw12 hown hK hP 0 rfl rfl 3 (by decide +kernel) (hts _ mm_X12_discords_833) (fun _ h9 => h9) rfl dX12_discords_54 (lv_bipush (v := 43) hx hb dX12_discords_57 (by decide +kernel) (lv_iload_n hx hb dX12_discords_59 rfl (lv_at hl 0 rfl) (lv_iadd hx hb dX12_discords_60 (lv_topi (fun x_9666 ex_9666 => ?_))))))
                  replace hE := hE.trans (Lt_in ex_9666)
                  have hx_9666 : x_9666.toInt = (43 + v_9450.toInt) := by rw [ex_9666]; exact i_add (show (43 : Int32).toInt = 43 from rfl) rfl (by omega)
                  refine va_iald hx hb hK hP 1 0 rfl rfl (i_in hx_9666 (by omega)) dX12_discords_61 (lv_topi (fun x_9667 ex_9667 => ?_))
                  replace hE := hE.trans (Lt_in ex_9667)
                  have px_9667 := RwOK.at zfw hx_9666 (show 0 ≤ (43 + v_9450.toInt) ∧ (43 + v_9450.toInt) < 100 by omega)
                  rw [← ex_9667] at px_9667
                  refine lv_icmp_ne (tgt := 121) hx hb dX12_discords_62 (by decide +kernel) (fun c_9668 => ?_) (fun c_9668 => ?_)
                  · have c_9668i := i_ne (x := x_9665.toInt) (y := x_9667.toInt) rfl rfl c_9668
                    replace hE := hE.trans (if_neg c_9668)
                    exact j_9657 v_9451 v_9452 v_9453 v_9454 v_9455 f_9456 f_9457 (by omega) hE _ _ hP hD hS ls (lv_sub hl [0, 1, 2, 3] rfl)
                  · have c_9668i := i_eq (x := x_9665.toInt) (y := x_9667.toInt) rfl rfl c_9668
                    replace hE := hE.trans (if_pos c_9668)
                    refine lv_aload_n hx hb dX12_discords_65 rfl (lv_at hl 3 rfl) (va_get (ci := 12) (v := .ref w0) (C := RX12) (T := TX12) (N := 60) hx hb hts hw12 hown hK hP 0 rfl rfl 3 (by decide +kernel) (hts _ mm_X12_discords_833) (fun _ h9 => h9) rfl dX12_discords_66 (lv_bipush (v := 35) hx hb dX12_discords_69 (by decide +kernel) (lv_iload_n hx hb dX12_discords_71 rfl (lv_at hl 1 rfl) (lv_iadd hx hb dX12_discords_72 (lv_topi (fun x_9669 ex_9669 => ?_))))))
                    replace hE := hE.trans (Lt_in ex_9669)
                    have hx_9669 : x_9669.toInt = (35 + v_8485.toInt) := by rw [ex_9669]; exact i_add (show (35 : Int32).toInt = 35 from rfl) rfl (by omega)
                    refine va_iald hx hb hK hP 1 0 rfl rfl (i_in hx_9669 (by omega)) dX12_discords_73 (lv_topi (fun x_9670 ex_9670 => ?_))
                    replace hE := hE.trans (Lt_in ex_9670)
                    have px_9670 := RwOK.at zfw hx_9669 (show 0 ≤ (35 + v_8485.toInt) ∧ (35 + v_8485.toInt) < 100 by omega)
                    rw [← ex_9670] at px_9670
                    have hx_9670 := PR.r_35 px_9670 (by omega)
                    refine lv_aload_n hx hb dX12_discords_74 rfl (lv_at hl 3 rfl) (va_get (ci := 12) (v := .ref w0) (C := RX12) (T := TX12) (N := 60) hx hb hts hw12 hown hK hP 0 rfl rfl 3 (by decide +kernel) (hts _ mm_X12_discords_833) (fun _ h9 => h9) rfl dX12_discords_75 (lv_bipush (v := 35) hx hb dX12_discords_78 (by decide +kernel) (lv_iload_n hx hb dX12_discords_80 rfl (lv_at hl 0 rfl) (lv_iadd hx hb dX12_discords_81 (lv_topi (fun x_9671 ex_9671 => ?_))))))
                    replace hE := hE.trans (Lt_in ex_9671)
                    have hx_9671 : x_9671.toInt = (35 + v_9450.toInt) := by rw [ex_9671]; exact i_add (show (35 : Int32).toInt = 35 from rfl) rfl (by omega)
                    refine va_iald hx hb hK hP 1 0 rfl rfl (i_in hx_9671 (by omega)) dX12_discords_82 (lv_topi (fun x_9672 ex_9672 => ?_))
                    replace hE := hE.trans (Lt_in ex_9672)
                    have px_9672 := RwOK.at zfw hx_9671 (show 0 ≤ (35 + v_9450.toInt) ∧ (35 + v_9450.toInt) < 100 by omega)
                    rw [← ex_9672] at px_9672
                    have hx_9672 := PR.r_35 px_9672 (by omega)
                    refine pci (va_runS (As := [.int x_9670, .int x_9672]) (rest := []) ⟨hx, hb, hml, hown, hts⟩ (v_areBeside l D K x_9670 x_9672 H.size) (va_cwS 2 hts gX12_discords_X12_areBeside rfl rfl rfl (by decide +kernel) ⟨Nat.le_of_ble_eq_true rfl, Nat.le_of_ble_eq_true rfl⟩) (mkS hK hN (va_P.nil) (va_D.nil (A := fun _ => True))) rfl rfl hl.1 rfl (lv_room (Nat.le_of_ble_eq_true rfl)) dX12_discords_83 ⟨Nat.le_of_ble_eq_true rfl, Nat.le_of_ble_eq_true rfl⟩) (fun r_9673 hw => ?_)
                    obtain ⟨h_9675, k_9674, -⟩ := hw
                    replace hE := hE.trans (Lt_in k_9674)
                    refine lv_if_eq (tgt := 121) hx hb dX12_discords_86 (by decide +kernel) (fun c_9676 => ?_) (fun c_9676 => ?_)
                    · have c_9676i := i_eq (x := r_9673.toInt) (y := 0) rfl rfl c_9676
                      replace hE := hE.trans (if_pos c_9676)
                      exact j_9657 v_9451 v_9452 v_9453 v_9454 v_9455 f_9456 f_9457 (by omega) hE _ _ hP hD hS ls (lv_sub hl [0, 1, 2, 3] rfl)
                    · have c_9676i := i_ne (x := r_9673.toInt) (y := 0) rfl rfl c_9676
                      replace hE := hE.trans (if_neg c_9676)
                      refine lv_iload_n hx hb dX12_discords_89 rfl (lv_at hl 2 rfl) (lv_aload_n hx hb dX12_discords_90 rfl (lv_at hl 3 rfl) (lv_aload_n hx hb dX12_discords_91 rfl (lv_at hl 3 rfl) (va_get (ci := 12) (v := .ref w0) (C := RX12) (T := TX12) (N := 60) hx hb hts hw12 hown hK hP 0 rfl rfl 3 (by decide +kernel) (hts _ mm_X12_discords_833) (fun _ h9 => h9) rfl dX12_discords_92 (lv_iconst (v := 3) hx hb dX12_discords_95 (by decide +kernel) (va_iald hx hb hK hP 1 0 rfl rfl (i_in (x := 3) rfl (by omega)) dX12_discords_96 (lv_topi (fun x_9677 ex_9677 => ?_)))))))
                      replace hE := hE.trans (Lt_in ex_9677)
                      have px_9677 := RwOK.at zfw (show (3 : Int32).toInt = 3 from rfl) (show 0 ≤ 3 ∧ 3 < 100 by omega)
                      rw [← ex_9677] at px_9677
                      have hx_9677 := PR.r_3 px_9677 (by omega)
                      refine lv_iconst (v := 2) hx hb dX12_discords_97 (by decide +kernel) (lv_iload_n hx hb dX12_discords_98 rfl (lv_at hl 1 rfl) (lv_aload_n hx hb dX12_discords_99 rfl (lv_at hl 3 rfl) (va_get (ci := 12) (v := .ref w0) (C := RX12) (T := TX12) (N := 60) hx hb hts hw12 hown hK hP 0 rfl rfl 3 (by decide +kernel) (hts _ mm_X12_discords_833) (fun _ h9 => h9) rfl dX12_discords_100 (lv_bipush (v := 35) hx hb dX12_discords_103 (by decide +kernel) (lv_iload_n hx hb dX12_discords_105 rfl (lv_at hl 0 rfl) (lv_iadd hx hb dX12_discords_106 (lv_topi (fun x_9678 ex_9678 => ?_))))))))
                      replace hE := hE.trans (Lt_in ex_9678)
                      have hx_9678 : x_9678.toInt = (35 + v_9450.toInt) := by rw [ex_9678]; exact i_add (show (35 : Int32).toInt = 35 from rfl) rfl (by omega)
                      refine va_iald hx hb hK hP 1 0 rfl rfl (i_in hx_9678 (by omega)) dX12_discords_107 (lv_topi (fun x_9679 ex_9679 => ?_))
                      replace hE := hE.trans (Lt_in ex_9679)
                      have px_9679 := RwOK.at zfw hx_9678 (show 0 ≤ (35 + v_9450.toInt) ∧ (35 + v_9450.toInt) < 100 by omega)
                      rw [← ex_9679] at px_9679
                      have hx_9679 := PR.r_35 px_9679 (by omega)
                      refine lv_lconst (v := 1) hx hb dX12_discords_108 (by decide +kernel) (kcl (S := Su) (wr := []) (va_runV (As := [.int x_9677, .int 2, .int v_8485, .int x_9679, .long 1]) (rest := [.int v_9451]) ⟨hx, hb, hml, hown, hts⟩ (v_tells l D K m0 x_9677 2 v_8485 x_9679 1 m_0 m_1 m_2 w0 m_4 m_5 m_6 m_7 m_8 m_9 m_10 m_11 m_12 m_13 m_14 m_15 m_16 m_17 m_18 m_19 m_21 m_22 m_23 m_24 m_25 m_26 m_27 m_28 m_29 m_30 m_31 m_32 m_33 v_9452 e0 m_36 q0 v_9453 v_9454 v_9455 m_41 m_42 m_43 m_44 m_45 m_46 m_47 m_48 m_49 m_50 m_51 m_52 m_53 m_54 m_55 m_56 m_57 m_58 m_59 fw gr f_9456 f_9457 H.size (by first | omega | decide) (by first | omega | decide) (by first | omega | decide) zfw zgr) (cwV 5 hts gX12_discords_X12_tells rfl rfl rfl (by decide +kernel) ⟨Nat.le_of_ble_eq_true rfl, Nat.le_of_ble_eq_true rfl⟩) (mkV hK hN (hP.sub [0, 1, 2, 3] rfl) (hD.sub [0, 1, 2, 3] (by decide +kernel) rfl) (ci := 12) (q0 := 0) rfl rfl) rfl rfl hl.1 rfl (lv_room (Nat.le_of_ble_eq_true rfl)) dX12_discords_109 ⟨Nat.le_of_ble_eq_true rfl, Nat.le_of_ble_eq_true rfl⟩) hP hD hS hA [0, 1, 2, 3] [] rfl rfl (by decide +kernel) (by decide +kernel) (fun r_9680 u_9681 H locs hw hP0 hD0 hS0 => ?_))
                      replace hP : va_P D vwCl [(cc_O m0 12 [m_0, m_1, m_2, .ref w0, m_4, m_5, m_6, m_7, m_8, m_9, m_10, m_11, m_12, m_13, m_14, m_15, m_16, m_17, m_18, m_19, .int 0, m_21, m_22, m_23, m_24, m_25, m_26, m_27, m_28, m_29, m_30, m_31, m_32, m_33, .int (u_9681.2.2.2.1 0), .ref e0, m_36, .ref q0, .int (u_9681.2.2.2.1 1), .long (u_9681.2.2.2.2.1 0), .long (u_9681.2.2.2.2.1 1), m_41, m_42, m_43, m_44, m_45, m_46, m_47, m_48, m_49, m_50, m_51, m_52, m_53, m_54, m_55, m_56, m_57, m_58, m_59]), (cc_l w0 (K 0) 5500 fw), (cc_rl e0 (K 2) 13 (u_9681.2.2.1 0)), (cc_rl q0 (K 2) 400 (u_9681.2.2.1 1))] H := hP0
                      replace hD := as_D hP hD0 rfl
                      replace hS := hS0
                      clear hP0 hD0 hS0
                      obtain ⟨k_9682, k_9683, -⟩ := hw
                      replace hE := (((((hE.trans (Lt2_in k_9683)).trans (Lt2_in rfl)).trans (Lt2_in rfl)).trans (Lt2_in rfl)).trans (Lt2_in rfl)).trans (Lt2_in rfl)
                      refine lv_iconst (v := 0) hx hb dX12_discords_112 (by decide +kernel) (lv_sipush (v := 999) hx hb dX12_discords_113 (by decide +kernel) (pci (va_runS (As := [.long r_9680, .int 0, .int 999]) (rest := [.int v_9451]) ⟨hx, hb, hml, hown, hts⟩ (v_within_999 l D K r_9680 H.size) (va_cwS 3 hts gX12_discords_X12_within rfl rfl rfl (by decide +kernel) ⟨Nat.le_of_ble_eq_true rfl, Nat.le_of_ble_eq_true rfl⟩) (mkS hK hN (va_P.nil) (va_D.nil (A := fun _ => True))) rfl rfl hl.1 rfl (lv_room (Nat.le_of_ble_eq_true rfl)) dX12_discords_116 ⟨Nat.le_of_ble_eq_true rfl, Nat.le_of_ble_eq_true rfl⟩) (fun r_9684 hw => ?_)))
                      obtain ⟨h_9686, k_9685, -⟩ := hw
                      replace hE := hE.trans (Lt_in k_9685)
                      refine lv_iadd hx hb dX12_discords_119 (lv_topi (fun x_9687 ex_9687 => ?_))
                      replace hE := hE.trans (Lt_in ex_9687)
                      refine lv_istore_n (lv' := [(1, .int x_9687), (3, .int v_9450), (2, .int v_8485), (0, .ref m0)]) hx hb dX12_discords_120 rfl hl (by decide +kernel) rfl (fun ls hl => ?_)
                      exact j_9657 x_9687 (u_9681.2.2.2.1 0) (u_9681.2.2.2.1 1) (u_9681.2.2.2.2.1 0) (u_9681.2.2.2.2.1 1) (u_9681.2.2.1 0) (u_9681.2.2.1 1) (by omega) hE _ _ hP hD hS ls (lv_sub hl [1, 2, 0, 3] rfl)
        exact lp_9612 ((9 - (x_9295 : Int32).toInt : Int).toNat + 1) x_9295 v_8486 v_8487 v_8488 v_8489 v_8490 f_8491 f_8492 (by rw [hx_9295]; omega) (by omega) (Nat.lt_succ_self _) hE _ _ hP hD hS ls (lv_sub hl [0, 1, 2, 3] rfl)
  exact lp_9291 ((9 - (0 : Int32).toInt : Int).toNat + 1) 0 0 lw bro val sm fe frs (by decide +kernel) (by omega) (Nat.lt_succ_self _) hE _ _ hP hD hS ls (lv_sub hl [0, 1, 2] rfl)
set_option maxRecDepth 100000 in
noncomputable def E_v_discord (thr : Int32) (lw : Int32) (bro : Int32) (val : Int64) (sm : Int64) (fw : Nat → Int32) (fe : Nat → Int64) (frs : Nat → Int64) : Int32 × Int32 × Int32 × Int64 × Int64 × (Nat → Int64) × (Nat → Int64) :=
  Lt2 (E_v_discords lw bro val sm fw fe frs) (fun r_69 q0_r_69 => Lt2 q0_r_69 (fun u_70_2_2_2_1_0 q1_u_70_2_2_2_1_0 => Lt2 q1_u_70_2_2_2_1_0 (fun u_70_2_2_2_1_1 q2_u_70_2_2_2_1_1 => Lt2 q2_u_70_2_2_2_1_1 (fun u_70_2_2_2_2_1_0 q3_u_70_2_2_2_2_1_0 => Lt2 q3_u_70_2_2_2_2_1_0 (fun u_70_2_2_2_2_1_1 q4_u_70_2_2_2_2_1_1 => Lt2 q4_u_70_2_2_2_2_1_1 (fun u_70_2_2_1_0 u_70_2_2_1_1 => ((r_69, u_70_2_2_2_1_0, u_70_2_2_2_1_1, u_70_2_2_2_2_1_0, u_70_2_2_2_2_1_1, u_70_2_2_1_0, u_70_2_2_1_1) : Int32 × Int32 × Int32 × Int64 × Int64 × (Nat → Int64) × (Nat → Int64))))))))
set_option maxHeartbeats 4000000 in
set_option maxRecDepth 100000 in
theorem v_discord (l : Launch) (D : va_G) (K : Nat → ClassId) (m0 : Nat) (thr : Int32) (m_1 : Value) (m_2 : Value) (w0 : Nat) (m_4 : Value) (m_5 : Value) (m_6 : Value) (m_7 : Value) (m_8 : Value) (m_9 : Value) (m_10 : Value) (m_11 : Value) (m_12 : Value) (m_13 : Value) (m_14 : Value) (m_15 : Value) (m_16 : Value) (m_17 : Value) (m_18 : Value) (m_19 : Value) (m_21 : Value) (m_22 : Value) (m_23 : Value) (m_24 : Value) (m_25 : Value) (m_26 : Value) (m_27 : Value) (m_28 : Value) (m_29 : Value) (m_30 : Value) (m_31 : Value) (m_32 : Value) (m_33 : Value) (lw : Int32) (e0 : Nat) (m_36 : Value) (q0 : Nat) (bro : Int32) (val : Int64) (sm : Int64) (m_41 : Value) (m_42 : Value) (m_43 : Value) (m_44 : Value) (m_45 : Value) (m_46 : Value) (m_47 : Value) (m_48 : Value) (m_49 : Value) (m_50 : Value) (m_51 : Value) (m_52 : Value) (m_53 : Value) (m_54 : Value) (m_55 : Value) (m_56 : Value) (m_57 : Value) (m_58 : Value) (m_59 : Value) (fw : Nat → Int32) (gr : Nat → Int32) (fe : Nat → Int64) (frs : Nat → Int64) (sz : Nat) (zbro : 0 ≤ bro.toInt ∧ bro.toInt ≤ 1) (zfw : RwOK fw) (zgr : FzM gr fw) : Met l yX12_discord wsX12_discord ({ frames := 5, cells := 0, slots := 0, locals := 125 }) (va_Pc [.ref m0] (Pre D K [(cc_O m0 12 [.int thr, m_1, m_2, .ref w0, m_4, m_5, m_6, m_7, m_8, m_9, m_10, m_11, m_12, m_13, m_14, m_15, m_16, m_17, m_18, m_19, .int 0, m_21, m_22, m_23, m_24, m_25, m_26, m_27, m_28, m_29, m_30, m_31, m_32, m_33, .int lw, .ref e0, m_36, .ref q0, .int bro, .long val, .long sm, m_41, m_42, m_43, m_44, m_45, m_46, m_47, m_48, m_49, m_50, m_51, m_52, m_53, m_54, m_55, m_56, m_57, m_58, m_59]), (cc_l w0 (K 0) 5500 fw), (cc_rl e0 (K 2) 13 fe), (cc_rl q0 (K 2) 400 frs)] sz)) (va_Qi (S := Su) (fun (r : Int32) (u : Su) => (0 ≤ (u.2.2.2.1 1).toInt ∧ (u.2.2.2.1 1).toInt ≤ 1) ∧ ((r, (u.2.2.2.1 0), (u.2.2.2.1 1), (u.2.2.2.2.1 0), (u.2.2.2.2.1 1), (u.2.2.1 0), (u.2.2.1 1)) = E_v_discord thr lw bro val sm fw fe frs) ∧ True) (fun u t => Wd D (va_A [(cc_O m0 12 [.int thr, m_1, m_2, .ref w0, m_4, m_5, m_6, m_7, m_8, m_9, m_10, m_11, m_12, m_13, m_14, m_15, m_16, m_17, m_18, m_19, .int 0, m_21, m_22, m_23, m_24, m_25, m_26, m_27, m_28, m_29, m_30, m_31, m_32, m_33, .int lw, .ref e0, m_36, .ref q0, .int bro, .long val, .long sm, m_41, m_42, m_43, m_44, m_45, m_46, m_47, m_48, m_49, m_50, m_51, m_52, m_53, m_54, m_55, m_56, m_57, m_58, m_59]), (cc_l w0 (K 0) 5500 fw), (cc_rl e0 (K 2) 13 fe), (cc_rl q0 (K 2) 400 frs)] sz) ((fun u => [(cc_O m0 12 [.int 0, m_1, m_2, .ref w0, m_4, m_5, m_6, m_7, m_8, m_9, m_10, m_11, m_12, m_13, m_14, m_15, m_16, m_17, m_18, m_19, .int 0, m_21, m_22, m_23, m_24, m_25, m_26, m_27, m_28, m_29, m_30, m_31, m_32, m_33, .int (u.2.2.2.1 0), .ref e0, m_36, .ref q0, .int (u.2.2.2.1 1), .long (u.2.2.2.2.1 0), .long (u.2.2.2.2.1 1), m_41, m_42, m_43, m_44, m_45, m_46, m_47, m_48, m_49, m_50, m_51, m_52, m_53, m_54, m_55, m_56, m_57, m_58, m_59]), (cc_l w0 (K 0) 5500 fw), (cc_rl e0 (K 2) 13 (u.2.2.1 0)), (cc_rl q0 (K 2) 400 (u.2.2.1 1))]) u) t) (va_A [(cc_O m0 12 [.int thr, m_1, m_2, .ref w0, m_4, m_5, m_6, m_7, m_8, m_9, m_10, m_11, m_12, m_13, m_14, m_15, m_16, m_17, m_18, m_19, .int 0, m_21, m_22, m_23, m_24, m_25, m_26, m_27, m_28, m_29, m_30, m_31, m_32, m_33, .int lw, .ref e0, m_36, .ref q0, .int bro, .long val, .long sm, m_41, m_42, m_43, m_44, m_45, m_46, m_47, m_48, m_49, m_50, m_51, m_52, m_53, m_54, m_55, m_56, m_57, m_58, m_59]), (cc_l w0 (K 0) 5500 fw), (cc_rl e0 (K 2) 13 fe), (cc_rl q0 (K 2) 400 frs)] sz)) 0 0 (va_A [(cc_O m0 12 [.int thr, m_1, m_2, .ref w0, m_4, m_5, m_6, m_7, m_8, m_9, m_10, m_11, m_12, m_13, m_14, m_15, m_16, m_17, m_18, m_19, .int 0, m_21, m_22, m_23, m_24, m_25, m_26, m_27, m_28, m_29, m_30, m_31, m_32, m_33, .int lw, .ref e0, m_36, .ref q0, .int bro, .long val, .long sm, m_41, m_42, m_43, m_44, m_45, m_46, m_47, m_48, m_49, m_50, m_51, m_52, m_53, m_54, m_55, m_56, m_57, m_58, m_59]), (cc_l w0 (K 0) 5500 fw), (cc_rl e0 (K 2) 13 fe), (cc_rl q0 (K 2) 400 frs)] sz) := by
  refine Met.ofW (cc := cX12_discord) (maxL := 1) (ret := (some .int)) (by decide +kernel) rfl ?_
  intro p e s m args below meth c s₁ B hml hv
  obtain ⟨rfl, hsz, hP, hK, hD0, hN⟩ := hv
  have hx := B.exec
  have hb := B.bytes
  have hr := B.returns
  have hts := atoms_spec (ws := wsX12_discord) B.pre
  have hown : s.vm.findClass RX12 = some m.cls := findClass_of_methodNamed B.named
  have hlocks := B.notSynchronized
  subst hsz
  have hD := hD0.self (sz := s.heap.size)
  generalize hAe : va_A [(cc_O m0 12 [.int thr, m_1, m_2, .ref w0, m_4, m_5, m_6, m_7, m_8, m_9, m_10, m_11, m_12, m_13, m_14, m_15, m_16, m_17, m_18, m_19, .int 0, m_21, m_22, m_23, m_24, m_25, m_26, m_27, m_28, m_29, m_30, m_31, m_32, m_33, .int lw, .ref e0, m_36, .ref q0, .int bro, .long val, .long sm, m_41, m_42, m_43, m_44, m_45, m_46, m_47, m_48, m_49, m_50, m_51, m_52, m_53, m_54, m_55, m_56, m_57, m_58, m_59]), (cc_l w0 (K 0) 5500 fw), (cc_rl e0 (K 2) 13 fe), (cc_rl q0 (K 2) 400 frs)] s.heap.size = A at hD ⊢
  have hA : ∀ q : Nat, s.heap.size ≤ q → A q := fun q h => by rw [← hAe]; exact Or.inr h
  clear hAe
  have hS : va_S A s.heap s.heap [] := va_S.rf
  replace hP : va_P D vwCl [(cc_O m0 12 [.int thr, m_1, m_2, .ref w0, m_4, m_5, m_6, m_7, m_8, m_9, m_10, m_11, m_12, m_13, m_14, m_15, m_16, m_17, m_18, m_19, .int 0, m_21, m_22, m_23, m_24, m_25, m_26, m_27, m_28, m_29, m_30, m_31, m_32, m_33, .int lw, .ref e0, m_36, .ref q0, .int bro, .long val, .long sm, m_41, m_42, m_43, m_44, m_45, m_46, m_47, m_48, m_49, m_50, m_51, m_52, m_53, m_54, m_55, m_56, m_57, m_58, m_59]), (cc_l w0 (K 0) 5500 fw), (cc_rl e0 (K 2) 13 fe), (cc_rl q0 (K 2) 400 frs)] s.heap := hP
  have hl := lv_entry [.ref m0] (n := 1) (Nat.le_of_ble_eq_true rfl)
  rw [lg_entry_eq]
  generalize (lg_sl [.ref m0] ++ List.replicate (1 - (lg_sl [.ref m0]).length) Slot.unset).toArray = ls at hl ⊢
  have hl : lv_has ls 1 [(0, .ref m0)] := hl
  have hw12 : ∀ w ∈ wsX120, w ∈ wsX12_discord := fun w h => (List.mem_cons_of_mem _ (List.mem_append_right _ h))
  generalize hQ : MQ below _ _ s _ _ _ = Q
  have hE := E_v_discord.eq_def thr lw bro val sm fw fe frs
  refine lv_aload_n hx hb dX12_discord_0 rfl (lv_at hl 0 rfl) (lv_iconst (v := 0) hx hb dX12_discord_1 (by decide +kernel) (va_put (ci := 12) (v := .int 0) (ty := .int) (C := RX12) (T := TX12) (N := 60) hx hb hts hw12 tyX12 tyX12_ok nmX12 hown hK hP hD hS 0 rfl rfl 0 (by decide +kernel) (hts _ mm_X12_discord_830) (fun _ h9 => h9) rfl (by decide +kernel) (by first | rfl | decide) (by first | rfl | decide) (Nat.le_of_ble_eq_true rfl) dX12_discord_2 (fun H locs hP0 hD0 hS0 => ?_)))
  replace hP : va_P D vwCl [(cc_O m0 12 [.int 0, m_1, m_2, .ref w0, m_4, m_5, m_6, m_7, m_8, m_9, m_10, m_11, m_12, m_13, m_14, m_15, m_16, m_17, m_18, m_19, .int 0, m_21, m_22, m_23, m_24, m_25, m_26, m_27, m_28, m_29, m_30, m_31, m_32, m_33, .int lw, .ref e0, m_36, .ref q0, .int bro, .long val, .long sm, m_41, m_42, m_43, m_44, m_45, m_46, m_47, m_48, m_49, m_50, m_51, m_52, m_53, m_54, m_55, m_56, m_57, m_58, m_59]), (cc_l w0 (K 0) 5500 fw), (cc_rl e0 (K 2) 13 fe), (cc_rl q0 (K 2) 400 frs)] H := hP0
  replace hD := as_D hP hD0 rfl
  replace hS := hS0
  clear hP0 hD0 hS0
  refine lv_aload_n hx hb dX12_discord_5 rfl (lv_at hl 0 rfl) (kci (S := Su) (wr := []) (va_runV (As := []) (rest := []) ⟨hx, hb, hml, hown, hts⟩ (v_discords l D K m0 (.int 0) m_1 m_2 w0 m_4 m_5 m_6 m_7 m_8 m_9 m_10 m_11 m_12 m_13 m_14 m_15 m_16 m_17 m_18 m_19 m_21 m_22 m_23 m_24 m_25 m_26 m_27 m_28 m_29 m_30 m_31 m_32 m_33 lw e0 m_36 q0 bro val sm m_41 m_42 m_43 m_44 m_45 m_46 m_47 m_48 m_49 m_50 m_51 m_52 m_53 m_54 m_55 m_56 m_57 m_58 m_59 fw gr fe frs H.size (by first | omega | decide) zfw zgr) (cwV 0 hts gX12_discord_X12_discords rfl rfl rfl (by decide +kernel) ⟨Nat.le_of_ble_eq_true rfl, Nat.le_of_ble_eq_true rfl⟩) (mkV hK hN (hP.sub [0, 1, 2, 3] rfl) (hD.sub [0, 1, 2, 3] (by decide +kernel) rfl) (ci := 12) (q0 := 0) rfl rfl) rfl rfl hl.1 rfl (lv_room (Nat.le_of_ble_eq_true rfl)) dX12_discord_6 ⟨Nat.le_of_ble_eq_true rfl, Nat.le_of_ble_eq_true rfl⟩) hP hD hS hA [0, 1, 2, 3] [] rfl rfl (by decide +kernel) (by decide +kernel) (fun r_69 u_70 H locs hw hP0 hD0 hS0 => ?_))
  replace hP : va_P D vwCl [(cc_O m0 12 [.int 0, m_1, m_2, .ref w0, m_4, m_5, m_6, m_7, m_8, m_9, m_10, m_11, m_12, m_13, m_14, m_15, m_16, m_17, m_18, m_19, .int 0, m_21, m_22, m_23, m_24, m_25, m_26, m_27, m_28, m_29, m_30, m_31, m_32, m_33, .int (u_70.2.2.2.1 0), .ref e0, m_36, .ref q0, .int (u_70.2.2.2.1 1), .long (u_70.2.2.2.2.1 0), .long (u_70.2.2.2.2.1 1), m_41, m_42, m_43, m_44, m_45, m_46, m_47, m_48, m_49, m_50, m_51, m_52, m_53, m_54, m_55, m_56, m_57, m_58, m_59]), (cc_l w0 (K 0) 5500 fw), (cc_rl e0 (K 2) 13 (u_70.2.2.1 0)), (cc_rl q0 (K 2) 400 (u_70.2.2.1 1))] H := hP0
  replace hD := as_D hP hD0 rfl
  replace hS := hS0
  clear hP0 hD0 hS0
  obtain ⟨k_71, k_72, -⟩ := hw
  replace hE := (((((hE.trans (Lt2_in k_72)).trans (Lt2_in rfl)).trans (Lt2_in rfl)).trans (Lt2_in rfl)).trans (Lt2_in rfl)).trans (Lt2_in rfl)
  rw [← hQ]
  have hP9 := hP.sub (ws' := [(cc_O m0 12 [.int 0, m_1, m_2, .ref w0, m_4, m_5, m_6, m_7, m_8, m_9, m_10, m_11, m_12, m_13, m_14, m_15, m_16, m_17, m_18, m_19, .int 0, m_21, m_22, m_23, m_24, m_25, m_26, m_27, m_28, m_29, m_30, m_31, m_32, m_33, .int (u_70.2.2.2.1 0), .ref e0, m_36, .ref q0, .int (u_70.2.2.2.1 1), .long (u_70.2.2.2.2.1 0), .long (u_70.2.2.2.2.1 1), m_41, m_42, m_43, m_44, m_45, m_46, m_47, m_48, m_49, m_50, m_51, m_52, m_53, m_54, m_55, m_56, m_57, m_58, m_59]), (cc_l w0 (K 0) 5500 fw), (cc_rl e0 (K 2) 13 (u_70.2.2.1 0)), (cc_rl q0 (K 2) 400 (u_70.2.2.1 1))]) [0, 1, 2, 3] rfl
  have hD9 := sub_D hP9 hD [0, 1, 2, 3] (by decide +kernel) rfl
  exact W.iret (v := r_69) hx hb hr (fun t ht hW => ⟨⟨r_69, ((fun _ => 0, fun _ => fun _ => 0, fun i => match i with | 0 => (u_70.2.2.1 0) | _ => (u_70.2.2.1 1), fun i => match i with | 0 => (u_70.2.2.2.1 0) | _ => (u_70.2.2.2.1 1), fun i => match i with | 0 => (u_70.2.2.2.2.1 0) | _ => (u_70.2.2.2.2.1 1), fun _ => fun _ => none) : Su), rfl, ⟨(show 0 ≤ ((u_70.2.2.2.1 1) : Int32).toInt ∧ ((u_70.2.2.2.1 1) : Int32).toInt ≤ 1 by omega), hE.symm, trivial⟩, (⟨by rw [ht]; exact hP9, hD9⟩ : Wd D A _ t)⟩, hS.F ht⟩) hS.2.2 dX12_discord_9
set_option maxRecDepth 100000 in
noncomputable def E_v_isMet (fw : Nat → Int32) : Int32 :=
  Lt (E_v_term_0 fw) (fun r_83 => Lt (67 + r_83 : Int32) (fun x_86 => Lt (fw (x_86 : Int32).toNatClampNeg : Int32) (fun x_87 => Lt (E_v_soundingNotes fw) (fun r_88 => Lt (r_88 ^^^ (-1) : Int32) (fun x_91 => Lt (x_87 &&& x_91 : Int32) (fun x_92 => if x_92 = 0 then ((1 : Int32)) else ((0 : Int32))))))))
set_option maxHeartbeats 4000000 in
set_option maxRecDepth 100000 in
theorem v_isMet (l : Launch) (D : va_G) (K : Nat → ClassId) (m0 : Nat) (m_0 : Value) (m_1 : Value) (m_2 : Value) (w0 : Nat) (m_4 : Value) (m_5 : Value) (m_6 : Value) (m_7 : Value) (m_8 : Value) (m_9 : Value) (m_10 : Value) (m_11 : Value) (m_12 : Value) (m_13 : Value) (m_14 : Value) (m_15 : Value) (m_16 : Value) (m_17 : Value) (m_18 : Value) (m_19 : Value) (m_20 : Value) (m_21 : Value) (m_22 : Value) (m_23 : Value) (m_24 : Value) (m_25 : Value) (m_26 : Value) (m_27 : Value) (m_28 : Value) (m_29 : Value) (m_30 : Value) (m_31 : Value) (m_32 : Value) (m_33 : Value) (m_34 : Value) (m_35 : Value) (m_36 : Value) (m_37 : Value) (m_38 : Value) (m_39 : Value) (m_40 : Value) (m_41 : Value) (m_42 : Value) (m_43 : Value) (m_44 : Value) (m_45 : Value) (m_46 : Value) (m_47 : Value) (m_48 : Value) (m_49 : Value) (m_50 : Value) (m_51 : Value) (m_52 : Value) (m_53 : Value) (m_54 : Value) (m_55 : Value) (m_56 : Value) (m_57 : Value) (m_58 : Value) (m_59 : Value) (fw : Nat → Int32) (sz : Nat) (zfw : RwOK fw) : Met l yX12_isMet wsX12_isMet ({ frames := 3, cells := 0, slots := 0, locals := 68 }) (va_Pc [.ref m0] (Pre D K [(cc_O m0 12 [m_0, m_1, m_2, .ref w0, m_4, m_5, m_6, m_7, m_8, m_9, m_10, m_11, m_12, m_13, m_14, m_15, m_16, m_17, m_18, m_19, m_20, m_21, m_22, m_23, m_24, m_25, m_26, m_27, m_28, m_29, m_30, m_31, m_32, m_33, m_34, m_35, m_36, m_37, m_38, m_39, m_40, m_41, m_42, m_43, m_44, m_45, m_46, m_47, m_48, m_49, m_50, m_51, m_52, m_53, m_54, m_55, m_56, m_57, m_58, m_59]), (cc_l w0 (K 0) 5500 fw)] sz)) (vp_Si (fun r : Int32 => (0 ≤ r.toInt ∧ r.toInt ≤ 1) ∧ (r = E_v_isMet fw) ∧ True)) 0 0 (fun _ => False) := by
  refine Met.ofW (cc := cX12_isMet) (maxL := 1) (ret := (some .boolean)) (by decide +kernel) rfl ?_
  intro p e s m args below meth c s₁ B hml hv
  obtain ⟨rfl, hsz, hP, hK, hD0, hN⟩ := hv
  have hx := B.exec
  have hb := B.bytes
  have hr := B.returns
  have hts := atoms_spec (ws := wsX12_isMet) B.pre
  have hown : s.vm.findClass RX12 = some m.cls := findClass_of_methodNamed B.named
  have hlocks := B.notSynchronized
  subst hsz
  have hD := hD0
  replace hP : va_P D vwCl [(cc_O m0 12 [m_0, m_1, m_2, .ref w0, m_4, m_5, m_6, m_7, m_8, m_9, m_10, m_11, m_12, m_13, m_14, m_15, m_16, m_17, m_18, m_19, m_20, m_21, m_22, m_23, m_24, m_25, m_26, m_27, m_28, m_29, m_30, m_31, m_32, m_33, m_34, m_35, m_36, m_37, m_38, m_39, m_40, m_41, m_42, m_43, m_44, m_45, m_46, m_47, m_48, m_49, m_50, m_51, m_52, m_53, m_54, m_55, m_56, m_57, m_58, m_59]), (cc_l w0 (K 0) 5500 fw)] s.heap := hP
  have hl := lv_entry [.ref m0] (n := 1) (Nat.le_of_ble_eq_true rfl)
  rw [lg_entry_eq]
  generalize (lg_sl [.ref m0] ++ List.replicate (1 - (lg_sl [.ref m0]).length) Slot.unset).toArray = ls at hl ⊢
  have hl : lv_has ls 1 [(0, .ref m0)] := hl
  have hw12 : ∀ w ∈ wsX120, w ∈ wsX12_isMet := fun w h => (List.mem_cons_of_mem _ (List.mem_append_right _ h))
  generalize hQ : MQ below _ _ s _ _ _ = Q
  have hE := E_v_isMet.eq_def fw
  refine lv_aload_n hx hb dX12_isMet_0 rfl (lv_at hl 0 rfl) (va_get (ci := 12) (v := .ref w0) (C := RX12) (T := TX12) (N := 60) hx hb hts hw12 hown hK hP 0 rfl rfl 3 (by decide +kernel) (hts _ mm_X12_isMet_833) (fun _ h9 => h9) rfl dX12_isMet_1 (lv_bipush (v := 67) hx hb dX12_isMet_4 (by decide +kernel) (lv_aload_n hx hb dX12_isMet_6 rfl (lv_at hl 0 rfl) (lv_iconst (v := 0) hx hb dX12_isMet_7 (by decide +kernel) (pci (va_runV (As := [.int 0]) (rest := [.int 67, .ref w0]) ⟨hx, hb, hml, hown, hts⟩ (v_term_0 l D K m0 m_0 m_1 m_2 w0 m_4 m_5 m_6 m_7 m_8 m_9 m_10 m_11 m_12 m_13 m_14 m_15 m_16 m_17 m_18 m_19 m_20 m_21 m_22 m_23 m_24 m_25 m_26 m_27 m_28 m_29 m_30 m_31 m_32 m_33 m_34 m_35 m_36 m_37 m_38 m_39 m_40 m_41 m_42 m_43 m_44 m_45 m_46 m_47 m_48 m_49 m_50 m_51 m_52 m_53 m_54 m_55 m_56 m_57 m_58 m_59 fw s.heap.size zfw) (cwV 1 hts gX12_isMet_X12_term rfl rfl rfl (by decide +kernel) ⟨Nat.le_of_ble_eq_true rfl, Nat.le_of_ble_eq_true rfl⟩) (mkV hK hN (hP.sub [0, 1] rfl) (hD.sub [0, 1] (by decide +kernel) rfl) (ci := 12) (q0 := 0) rfl rfl) rfl rfl hl.1 rfl (lv_room (Nat.le_of_ble_eq_true rfl)) dX12_isMet_8 ⟨Nat.le_of_ble_eq_true rfl, Nat.le_of_ble_eq_true rfl⟩) (fun r_83 hw => ?_))))))
  obtain ⟨h_85, k_84, -⟩ := hw
  replace hE := hE.trans (Lt_in k_84)
  refine lv_iadd hx hb dX12_isMet_11 (lv_topi (fun x_86 ex_86 => ?_))
  replace hE := hE.trans (Lt_in ex_86)
  have hx_86 : x_86.toInt = (67 + r_83.toInt) := by rw [ex_86]; exact i_add (show (67 : Int32).toInt = 67 from rfl) rfl (by omega)
  refine va_iald hx hb hK hP 1 0 rfl rfl (i_in hx_86 (by omega)) dX12_isMet_12 (lv_topi (fun x_87 ex_87 => ?_))
  replace hE := hE.trans (Lt_in ex_87)
  have px_87 := RwOK.at zfw hx_86 (show 0 ≤ (67 + r_83.toInt) ∧ (67 + r_83.toInt) < 100 by omega)
  rw [← ex_87] at px_87
  refine lv_aload_n hx hb dX12_isMet_13 rfl (lv_at hl 0 rfl) (pci (va_runV (As := []) (rest := [.int x_87]) ⟨hx, hb, hml, hown, hts⟩ (v_soundingNotes l D K m0 m_0 m_1 m_2 w0 m_4 m_5 m_6 m_7 m_8 m_9 m_10 m_11 m_12 m_13 m_14 m_15 m_16 m_17 m_18 m_19 m_20 m_21 m_22 m_23 m_24 m_25 m_26 m_27 m_28 m_29 m_30 m_31 m_32 m_33 m_34 m_35 m_36 m_37 m_38 m_39 m_40 m_41 m_42 m_43 m_44 m_45 m_46 m_47 m_48 m_49 m_50 m_51 m_52 m_53 m_54 m_55 m_56 m_57 m_58 m_59 fw s.heap.size zfw) (cwV 0 hts gX12_isMet_X12_soundingNotes rfl rfl rfl (by decide +kernel) ⟨Nat.le_of_ble_eq_true rfl, Nat.le_of_ble_eq_true rfl⟩) (mkV hK hN (hP.sub [0, 1] rfl) (hD.sub [0, 1] (by decide +kernel) rfl) (ci := 12) (q0 := 0) rfl rfl) rfl rfl hl.1 rfl (lv_room (Nat.le_of_ble_eq_true rfl)) dX12_isMet_14 ⟨Nat.le_of_ble_eq_true rfl, Nat.le_of_ble_eq_true rfl⟩) (fun r_88 hw => ?_))
  obtain ⟨h_90, k_89, -⟩ := hw
  replace hE := hE.trans (Lt_in k_89)
  refine lv_iconst (v := (-1)) hx hb dX12_isMet_17 (by decide +kernel) (lv_ixor hx hb dX12_isMet_18 (lv_topi (fun x_91 ex_91 => ?_)))
  replace hE := hE.trans (Lt_in ex_91)
  refine lv_iand hx hb dX12_isMet_19 (lv_topi (fun x_92 ex_92 => ?_))
  replace hE := hE.trans (Lt_in ex_92)
  refine lv_if_ne (tgt := 27) hx hb dX12_isMet_20 (by decide +kernel) (fun c_93 => ?_) (fun c_93 => ?_)
  · have c_93i := i_ne (x := x_92.toInt) (y := 0) rfl rfl c_93
    replace hE := hE.trans (if_neg c_93)
    refine lv_iconst (v := 0) hx hb dX12_isMet_27 (by decide +kernel) ?_
    rw [← hQ]
    exact W.zret (v := 0) hx hb hr (by decide +kernel) (fun t ht hW => ⟨_, rfl, ⟨(show 0 ≤ (0 : Int32).toInt ∧ (0 : Int32).toInt ≤ 1 by decide), hE.symm, trivial⟩, ht⟩) (fun q hq => by cases hq) dX12_isMet_28
  · have c_93i := i_eq (x := x_92.toInt) (y := 0) rfl rfl c_93
    replace hE := hE.trans (if_pos c_93)
    refine lv_iconst (v := 1) hx hb dX12_isMet_23 (by decide +kernel) (lv_goto (tgt := 28) hx hb dX12_isMet_24 (by decide +kernel) ?_)
    rw [← hQ]
    exact W.zret (v := 1) hx hb hr (by decide +kernel) (fun t ht hW => ⟨_, rfl, ⟨(show 0 ≤ (1 : Int32).toInt ∧ (1 : Int32).toInt ≤ 1 by decide), hE.symm, trivial⟩, ht⟩) (fun q hq => by cases hq) dX12_isMet_28
set_option maxRecDepth 100000 in
noncomputable def E_v_sounds_l29 (x : Int32) (fw : Nat → Int32) (r_522 : Int32) (rec_708 : Int32 → Int32 → (Int32)) (v_654 : Int32) (v_655 : Int32) : Int32 :=
  if 7 ≤ v_654 then (if x = 0 then ((r_522 : Int32)) else (if x = 1 then ((v_655 : Int32)) else (Lt (E_v_isMet fw) (fun r_713 => if r_713 = 0 then ((0 : Int32)) else ((1 : Int32)))))) else (Lt (E_v_is r_522 v_654) (fun r_717 => if r_717 = 0 then (Lt (v_655 + 0 : Int32) (fun x_721 => Lt (v_654 + Int32.ofInt 1 : Int32) (fun x_722 => rec_708 x_722 x_721))) else (Lt (v_654 + 2 : Int32) (fun x_723 => Lt (x_723 - x_723 / 7 * 7 : Int32) (fun x_724 => Lt (E_v_is r_522 x_724) (fun r_725 => if r_725 = 0 then (Lt (v_655 + 0 : Int32) (fun x_729 => Lt (v_654 + Int32.ofInt 1 : Int32) (fun x_730 => rec_708 x_730 x_729))) else (Lt (v_654 + 4 : Int32) (fun x_731 => Lt (x_731 - x_731 / 7 * 7 : Int32) (fun x_732 => Lt (E_v_is r_522 x_732) (fun r_733 => if r_733 = 0 then (Lt (v_655 + 0 : Int32) (fun x_737 => Lt (v_654 + Int32.ofInt 1 : Int32) (fun x_738 => rec_708 x_738 x_737))) else (Lt (v_655 + 1 : Int32) (fun x_739 => Lt (v_654 + Int32.ofInt 1 : Int32) (fun x_740 => rec_708 x_740 x_739)))))))))))))
set_option maxRecDepth 100000 in
noncomputable def E_v_sounds (x : Int32) (thr : Int32) (fw : Nat → Int32) : Int32 :=
  Lt ((x : Int32).toInt64 : Int64) (fun x_515 => Lt (E_v_in x_515 0 2) (fun r_516 => if r_516 = 1 then (Lt (E_v_soundingNotes fw) (fun r_522 => Lp (α := Int32 → Int32 → (Int32)) (E_v_sounds_l29 x fw r_522) (fun _ _ => ((0) : Int32)) ((8 - (0 : Int32).toInt : Int).toNat + 1) 0 0)) else (((-1) : Int32))))
set_option maxHeartbeats 4000000 in
set_option maxRecDepth 100000 in
theorem v_sounds (l : Launch) (D : va_G) (K : Nat → ClassId) (m0 : Nat) (x : Int32) (thr : Int32) (m_1 : Value) (m_2 : Value) (w0 : Nat) (m_4 : Value) (m_5 : Value) (m_6 : Value) (m_7 : Value) (m_8 : Value) (m_9 : Value) (m_10 : Value) (m_11 : Value) (m_12 : Value) (m_13 : Value) (m_14 : Value) (m_15 : Value) (m_16 : Value) (m_17 : Value) (m_18 : Value) (m_19 : Value) (m_20 : Value) (m_21 : Value) (m_22 : Value) (m_23 : Value) (m_24 : Value) (m_25 : Value) (m_26 : Value) (m_27 : Value) (m_28 : Value) (m_29 : Value) (m_30 : Value) (m_31 : Value) (m_32 : Value) (m_33 : Value) (m_34 : Value) (m_35 : Value) (m_36 : Value) (m_37 : Value) (m_38 : Value) (m_39 : Value) (m_40 : Value) (m_41 : Value) (m_42 : Value) (m_43 : Value) (m_44 : Value) (m_45 : Value) (m_46 : Value) (m_47 : Value) (m_48 : Value) (m_49 : Value) (m_50 : Value) (m_51 : Value) (m_52 : Value) (m_53 : Value) (m_54 : Value) (m_55 : Value) (m_56 : Value) (m_57 : Value) (m_58 : Value) (m_59 : Value) (fw : Nat → Int32) (gr : Nat → Int32) (sz : Nat) (zfw : RwOK fw) (zgr : FzM gr fw) : Met l yX12_sounds wsX12_sounds ({ frames := 4, cells := 0, slots := 0, locals := 88 }) (va_Pc [.ref m0, .int x] (Pre D K [(cc_O m0 12 [.int thr, m_1, m_2, .ref w0, m_4, m_5, m_6, m_7, m_8, m_9, m_10, m_11, m_12, m_13, m_14, m_15, m_16, m_17, m_18, m_19, m_20, m_21, m_22, m_23, m_24, m_25, m_26, m_27, m_28, m_29, m_30, m_31, m_32, m_33, m_34, m_35, m_36, m_37, m_38, m_39, m_40, m_41, m_42, m_43, m_44, m_45, m_46, m_47, m_48, m_49, m_50, m_51, m_52, m_53, m_54, m_55, m_56, m_57, m_58, m_59]), (cc_l w0 (K 0) 5500 fw)] sz)) (va_Qi (S := Su) (fun (r : Int32) (u : Su) => (r = E_v_sounds x thr fw) ∧ True) (fun u t => Wd D (va_A [(cc_O m0 12 [.int thr, m_1, m_2, .ref w0, m_4, m_5, m_6, m_7, m_8, m_9, m_10, m_11, m_12, m_13, m_14, m_15, m_16, m_17, m_18, m_19, m_20, m_21, m_22, m_23, m_24, m_25, m_26, m_27, m_28, m_29, m_30, m_31, m_32, m_33, m_34, m_35, m_36, m_37, m_38, m_39, m_40, m_41, m_42, m_43, m_44, m_45, m_46, m_47, m_48, m_49, m_50, m_51, m_52, m_53, m_54, m_55, m_56, m_57, m_58, m_59]), (cc_l w0 (K 0) 5500 fw)] sz) ((fun u => [(cc_O m0 12 [.int 0, m_1, m_2, .ref w0, m_4, m_5, m_6, m_7, m_8, m_9, m_10, m_11, m_12, m_13, m_14, m_15, m_16, m_17, m_18, m_19, m_20, m_21, m_22, m_23, m_24, m_25, m_26, m_27, m_28, m_29, m_30, m_31, m_32, m_33, m_34, m_35, m_36, m_37, m_38, m_39, m_40, m_41, m_42, m_43, m_44, m_45, m_46, m_47, m_48, m_49, m_50, m_51, m_52, m_53, m_54, m_55, m_56, m_57, m_58, m_59]), (cc_l w0 (K 0) 5500 fw)]) u) t) (va_A [(cc_O m0 12 [.int thr, m_1, m_2, .ref w0, m_4, m_5, m_6, m_7, m_8, m_9, m_10, m_11, m_12, m_13, m_14, m_15, m_16, m_17, m_18, m_19, m_20, m_21, m_22, m_23, m_24, m_25, m_26, m_27, m_28, m_29, m_30, m_31, m_32, m_33, m_34, m_35, m_36, m_37, m_38, m_39, m_40, m_41, m_42, m_43, m_44, m_45, m_46, m_47, m_48, m_49, m_50, m_51, m_52, m_53, m_54, m_55, m_56, m_57, m_58, m_59]), (cc_l w0 (K 0) 5500 fw)] sz)) 0 0 (va_A [(cc_O m0 12 [.int thr, m_1, m_2, .ref w0, m_4, m_5, m_6, m_7, m_8, m_9, m_10, m_11, m_12, m_13, m_14, m_15, m_16, m_17, m_18, m_19, m_20, m_21, m_22, m_23, m_24, m_25, m_26, m_27, m_28, m_29, m_30, m_31, m_32, m_33, m_34, m_35, m_36, m_37, m_38, m_39, m_40, m_41, m_42, m_43, m_44, m_45, m_46, m_47, m_48, m_49, m_50, m_51, m_52, m_53, m_54, m_55, m_56, m_57, m_58, m_59]), (cc_l w0 (K 0) 5500 fw)] sz) := by
  refine Met.ofW (cc := cX12_sounds) (maxL := 5) (ret := (some .int)) (by decide +kernel) rfl ?_
  intro p e s m args below meth c s₁ B hml hv
  obtain ⟨rfl, hsz, hP, hK, hD0, hN⟩ := hv
  have hx := B.exec
  have hb := B.bytes
  have hr := B.returns
  have hts := atoms_spec (ws := wsX12_sounds) B.pre
  have hown : s.vm.findClass RX12 = some m.cls := findClass_of_methodNamed B.named
  have hlocks := B.notSynchronized
  subst hsz
  have hD := hD0.self (sz := s.heap.size)
  generalize hAe : va_A [(cc_O m0 12 [.int thr, m_1, m_2, .ref w0, m_4, m_5, m_6, m_7, m_8, m_9, m_10, m_11, m_12, m_13, m_14, m_15, m_16, m_17, m_18, m_19, m_20, m_21, m_22, m_23, m_24, m_25, m_26, m_27, m_28, m_29, m_30, m_31, m_32, m_33, m_34, m_35, m_36, m_37, m_38, m_39, m_40, m_41, m_42, m_43, m_44, m_45, m_46, m_47, m_48, m_49, m_50, m_51, m_52, m_53, m_54, m_55, m_56, m_57, m_58, m_59]), (cc_l w0 (K 0) 5500 fw)] s.heap.size = A at hD ⊢
  have hA : ∀ q : Nat, s.heap.size ≤ q → A q := fun q h => by rw [← hAe]; exact Or.inr h
  clear hAe
  have hS : va_S A s.heap s.heap [] := va_S.rf
  replace hP : va_P D vwCl [(cc_O m0 12 [.int thr, m_1, m_2, .ref w0, m_4, m_5, m_6, m_7, m_8, m_9, m_10, m_11, m_12, m_13, m_14, m_15, m_16, m_17, m_18, m_19, m_20, m_21, m_22, m_23, m_24, m_25, m_26, m_27, m_28, m_29, m_30, m_31, m_32, m_33, m_34, m_35, m_36, m_37, m_38, m_39, m_40, m_41, m_42, m_43, m_44, m_45, m_46, m_47, m_48, m_49, m_50, m_51, m_52, m_53, m_54, m_55, m_56, m_57, m_58, m_59]), (cc_l w0 (K 0) 5500 fw)] s.heap := hP
  have hl := lv_entry [.ref m0, .int x] (n := 5) (Nat.le_of_ble_eq_true rfl)
  rw [lg_entry_eq]
  generalize (lg_sl [.ref m0, .int x] ++ List.replicate (5 - (lg_sl [.ref m0, .int x]).length) Slot.unset).toArray = ls at hl ⊢
  have hl : lv_has ls 5 [(0, .ref m0), (1, .int x)] := hl
  have hw12 : ∀ w ∈ wsX120, w ∈ wsX12_sounds := fun w h => (List.mem_cons_of_mem _ (List.mem_append_right _ h))
  generalize hQ : MQ below _ _ s _ _ _ = Q
  have hE := E_v_sounds.eq_def x thr fw
  refine lv_aload_n hx hb dX12_sounds_0 rfl (lv_at hl 0 rfl) (lv_iconst (v := 0) hx hb dX12_sounds_1 (by decide +kernel) (va_put (ci := 12) (v := .int 0) (ty := .int) (C := RX12) (T := TX12) (N := 60) hx hb hts hw12 tyX12 tyX12_ok nmX12 hown hK hP hD hS 0 rfl rfl 0 (by decide +kernel) (hts _ mm_X12_sounds_830) (fun _ h9 => h9) rfl (by decide +kernel) (by first | rfl | decide) (by first | rfl | decide) (Nat.le_of_ble_eq_true rfl) dX12_sounds_2 (fun H locs hP0 hD0 hS0 => ?_)))
  replace hP : va_P D vwCl [(cc_O m0 12 [.int 0, m_1, m_2, .ref w0, m_4, m_5, m_6, m_7, m_8, m_9, m_10, m_11, m_12, m_13, m_14, m_15, m_16, m_17, m_18, m_19, m_20, m_21, m_22, m_23, m_24, m_25, m_26, m_27, m_28, m_29, m_30, m_31, m_32, m_33, m_34, m_35, m_36, m_37, m_38, m_39, m_40, m_41, m_42, m_43, m_44, m_45, m_46, m_47, m_48, m_49, m_50, m_51, m_52, m_53, m_54, m_55, m_56, m_57, m_58, m_59]), (cc_l w0 (K 0) 5500 fw)] H := hP0
  replace hD := as_D hP hD0 rfl
  replace hS := hS0
  clear hP0 hD0 hS0
  refine lv_iload_n hx hb dX12_sounds_5 rfl (lv_at hl 1 rfl) (lv_i2l hx hb dX12_sounds_6 rfl (lv_topl (fun x_515 ex_515 => ?_)))
  replace hE := hE.trans (Lt_in ex_515)
  have hx_515 : x_515.toInt = x.toInt := by rw [ex_515]; exact i_wide rfl
  have hbx_515 := i_rng (a := x) rfl
  refine lv_lconst (v := 0) hx hb dX12_sounds_7 (by decide +kernel) (lv_ldc2 (v := 2) hx hb hown (hts _ mm_X12_sounds_1185) dX12_sounds_8 (pci (va_runS (As := [.long x_515, .long 0, .long 2]) (rest := []) ⟨hx, hb, hml, hown, hts⟩ (v_in l D K x.toInt 0 2 x_515 0 2 H.size hx_515 (show (0 : Int64).toInt = 0 from rfl) (show (2 : Int64).toInt = 2 from rfl)) (va_cwS 3 hts gX12_sounds_X12_in rfl rfl rfl (by decide +kernel) ⟨Nat.le_of_ble_eq_true rfl, Nat.le_of_ble_eq_true rfl⟩) (mkS hK hN (va_P.nil) (va_D.nil (A := fun _ => True))) rfl rfl hl.1 rfl (lv_room (Nat.le_of_ble_eq_true rfl)) dX12_sounds_11 ⟨Nat.le_of_ble_eq_true rfl, Nat.le_of_ble_eq_true rfl⟩) (fun r_516 hw => ?_)))
  obtain ⟨hw, k_517, -⟩ := hw
  replace hE := hE.trans (Lt_in k_517)
  rcases hw with ⟨rfl, h_518, h_519⟩ | ⟨rfl, h_520⟩
  · replace hE := (hE).trans (if_pos rfl)
    refine lv_if_ne (tgt := 19) hx hb dX12_sounds_14 (by decide +kernel) (fun c_521 => ?_) (fun c_521 => absurd c_521 (by decide +kernel))
    refine lv_aload_n hx hb dX12_sounds_19 rfl (lv_at hl 0 rfl) (pci (va_runV (As := []) (rest := []) ⟨hx, hb, hml, hown, hts⟩ (v_soundingNotes l D K m0 (.int 0) m_1 m_2 w0 m_4 m_5 m_6 m_7 m_8 m_9 m_10 m_11 m_12 m_13 m_14 m_15 m_16 m_17 m_18 m_19 m_20 m_21 m_22 m_23 m_24 m_25 m_26 m_27 m_28 m_29 m_30 m_31 m_32 m_33 m_34 m_35 m_36 m_37 m_38 m_39 m_40 m_41 m_42 m_43 m_44 m_45 m_46 m_47 m_48 m_49 m_50 m_51 m_52 m_53 m_54 m_55 m_56 m_57 m_58 m_59 fw H.size zfw) (cwV 0 hts gX12_sounds_X12_soundingNotes rfl rfl rfl (by decide +kernel) ⟨Nat.le_of_ble_eq_true rfl, Nat.le_of_ble_eq_true rfl⟩) (mkV hK hN (hP.sub [0, 1] rfl) (hD.sub [0, 1] (by decide +kernel) rfl) (ci := 12) (q0 := 0) rfl rfl) rfl rfl hl.1 rfl (lv_room (Nat.le_of_ble_eq_true rfl)) dX12_sounds_20 ⟨Nat.le_of_ble_eq_true rfl, Nat.le_of_ble_eq_true rfl⟩) (fun r_522 hw => ?_))
    obtain ⟨h_524, k_523, -⟩ := hw
    replace hE := hE.trans (Lt_in k_523)
    refine lv_istore_n (lv' := [(2, .int r_522), (0, .ref m0), (1, .int x)]) hx hb dX12_sounds_23 rfl hl (by decide +kernel) rfl (fun ls hl => ?_)
    refine lv_iconst (v := 0) hx hb dX12_sounds_24 (by decide +kernel) (lv_istore_n (lv' := [(3, .int 0), (2, .int r_522), (0, .ref m0), (1, .int x)]) hx hb dX12_sounds_25 rfl hl (by decide +kernel) rfl (fun ls hl => ?_))
    refine lv_iconst (v := 0) hx hb dX12_sounds_26 (by decide +kernel) (lv_istore (lv' := [(4, .int 0), (3, .int 0), (2, .int r_522), (0, .ref m0), (1, .int x)]) hx hb dX12_sounds_27 hl (by decide +kernel) rfl (fun ls hl => ?_))
    have lp_708 : ∀ (nn_ : Nat) (v_654 : Int32) (v_655 : Int32) (hv_654 : 0 ≤ v_654.toInt ∧ v_654.toInt ≤ 7) (hn : (8 - v_654.toInt : Int).toNat < nn_) (hE : E_v_sounds x thr fw = Lp (α := Int32 → Int32 → (Int32)) (E_v_sounds_l29 x fw r_522) (fun _ _ => ((0) : Int32)) nn_ v_654 v_655) (H : Heap) (locs : List Loc) (hP : va_P D vwCl [(cc_O m0 12 [.int 0, m_1, m_2, .ref w0, m_4, m_5, m_6, m_7, m_8, m_9, m_10, m_11, m_12, m_13, m_14, m_15, m_16, m_17, m_18, m_19, m_20, m_21, m_22, m_23, m_24, m_25, m_26, m_27, m_28, m_29, m_30, m_31, m_32, m_33, m_34, m_35, m_36, m_37, m_38, m_39, m_40, m_41, m_42, m_43, m_44, m_45, m_46, m_47, m_48, m_49, m_50, m_51, m_52, m_53, m_54, m_55, m_56, m_57, m_58, m_59]), (cc_l w0 (K 0) 5500 fw)] H) (hD : va_D A [(cc_O m0 12 [.int 0, m_1, m_2, .ref w0, m_4, m_5, m_6, m_7, m_8, m_9, m_10, m_11, m_12, m_13, m_14, m_15, m_16, m_17, m_18, m_19, m_20, m_21, m_22, m_23, m_24, m_25, m_26, m_27, m_28, m_29, m_30, m_31, m_32, m_33, m_34, m_35, m_36, m_37, m_38, m_39, m_40, m_41, m_42, m_43, m_44, m_45, m_46, m_47, m_48, m_49, m_50, m_51, m_52, m_53, m_54, m_55, m_56, m_57, m_58, m_59]), (cc_l w0 (K 0) 5500 fw)]) (hS : va_S A s.heap H locs) (ls : Array Slot) (hl : lv_has ls 5 [(4, .int v_654), (3, .int v_655), (2, .int r_522), (0, .ref m0), (1, .int x)]), W p l e ({ frames := 4, cells := 0, slots := 0, locals := 88 }) s m (([.ref m0, .int x] : List Value).toArray) below meth c H locs 0 0 Q (F0 m 29 ls []) := by
      clear hE hP hD hS hl
      intro nn_
      induction nn_ with
      | zero =>
        intro v_654 v_655 hv_654 hn hE H locs hP hD hS ls hl
        exact absurd hn (Nat.not_lt_zero _)
      | succ nn_ ih_709 =>
        intro v_654 v_655 hv_654 hn hE H locs hP hD hS ls hl
        replace hE : E_v_sounds x thr fw = E_v_sounds_l29 x fw r_522 (Lp (α := Int32 → Int32 → (Int32)) (E_v_sounds_l29 x fw r_522) (fun _ _ => ((0) : Int32)) nn_) v_654 v_655 := hE
        obtain ⟨rec_708, hrec_708⟩ : ∃ z9, z9 = Lp (α := Int32 → Int32 → (Int32)) (E_v_sounds_l29 x fw r_522) (fun _ _ => ((0) : Int32)) nn_ := ⟨_, rfl⟩
        rw [← hrec_708] at hE
        replace hE := hE.trans (E_v_sounds_l29.eq_def _ _ _ _ _ _)
        refine lv_iload hx hb dX12_sounds_29 (lv_at hl 0 rfl) (lv_bipush (v := 7) hx hb dX12_sounds_31 (by decide +kernel) (lv_icmp_ge (tgt := 87) hx hb dX12_sounds_33 (by decide +kernel) (fun c_710 => ?_) (fun c_710 => ?_)))
        · have c_710i := i_le (x := 7) (y := v_654.toInt) rfl rfl c_710
          replace hE := hE.trans (if_pos c_710)
          refine lv_iload_n hx hb dX12_sounds_87 rfl (lv_at hl 4 rfl) (lv_if_ne (tgt := 95) hx hb dX12_sounds_88 (by decide +kernel) (fun c_711 => ?_) (fun c_711 => ?_))
          · have c_711i := i_ne (x := x.toInt) (y := 0) rfl rfl c_711
            replace hE := hE.trans (if_neg c_711)
            refine lv_iload_n hx hb dX12_sounds_95 rfl (lv_at hl 4 rfl) (lv_iconst (v := 1) hx hb dX12_sounds_96 (by decide +kernel) (lv_icmp_ne (tgt := 104) hx hb dX12_sounds_97 (by decide +kernel) (fun c_712 => ?_) (fun c_712 => ?_)))
            · have c_712i := i_ne (x := x.toInt) (y := 1) rfl rfl c_712
              replace hE := hE.trans (if_neg c_712)
              refine lv_aload_n hx hb dX12_sounds_104 rfl (lv_at hl 3 rfl) (pci (va_runV (As := []) (rest := []) ⟨hx, hb, hml, hown, hts⟩ (v_isMet l D K m0 (.int 0) m_1 m_2 w0 m_4 m_5 m_6 m_7 m_8 m_9 m_10 m_11 m_12 m_13 m_14 m_15 m_16 m_17 m_18 m_19 m_20 m_21 m_22 m_23 m_24 m_25 m_26 m_27 m_28 m_29 m_30 m_31 m_32 m_33 m_34 m_35 m_36 m_37 m_38 m_39 m_40 m_41 m_42 m_43 m_44 m_45 m_46 m_47 m_48 m_49 m_50 m_51 m_52 m_53 m_54 m_55 m_56 m_57 m_58 m_59 fw H.size zfw) (cwV 0 hts gX12_sounds_X12_isMet rfl rfl rfl (by decide +kernel) ⟨Nat.le_of_ble_eq_true rfl, Nat.le_of_ble_eq_true rfl⟩) (mkV hK hN (hP.sub [0, 1] rfl) (hD.sub [0, 1] (by decide +kernel) rfl) (ci := 12) (q0 := 0) rfl rfl) rfl rfl hl.1 rfl (lv_room (Nat.le_of_ble_eq_true rfl)) dX12_sounds_105 ⟨Nat.le_of_ble_eq_true rfl, Nat.le_of_ble_eq_true rfl⟩) (fun r_713 hw => ?_))
              obtain ⟨h_715, k_714, -⟩ := hw
              replace hE := hE.trans (Lt_in k_714)
              refine lv_if_eq (tgt := 115) hx hb dX12_sounds_108 (by decide +kernel) (fun c_716 => ?_) (fun c_716 => ?_)
              · have c_716i := i_eq (x := r_713.toInt) (y := 0) rfl rfl c_716
                replace hE := hE.trans (if_pos c_716)
                refine lv_iconst (v := 0) hx hb dX12_sounds_115 (by decide +kernel) ?_
                rw [← hQ]
                have hP9 := hP.sub (ws' := [(cc_O m0 12 [.int 0, m_1, m_2, .ref w0, m_4, m_5, m_6, m_7, m_8, m_9, m_10, m_11, m_12, m_13, m_14, m_15, m_16, m_17, m_18, m_19, m_20, m_21, m_22, m_23, m_24, m_25, m_26, m_27, m_28, m_29, m_30, m_31, m_32, m_33, m_34, m_35, m_36, m_37, m_38, m_39, m_40, m_41, m_42, m_43, m_44, m_45, m_46, m_47, m_48, m_49, m_50, m_51, m_52, m_53, m_54, m_55, m_56, m_57, m_58, m_59]), (cc_l w0 (K 0) 5500 fw)]) [0, 1] rfl
                have hD9 := sub_D hP9 hD [0, 1] (by decide +kernel) rfl
                exact W.iret (v := 0) hx hb hr (fun t ht hW => ⟨⟨0, ((fun _ => 0, fun _ => fun _ => 0, fun _ => fun _ => 0, fun _ => 0, fun _ => 0, fun _ => fun _ => none) : Su), rfl, ⟨hE.symm, trivial⟩, (⟨by rw [ht]; exact hP9, hD9⟩ : Wd D A _ t)⟩, hS.F ht⟩) hS.2.2 dX12_sounds_116
              · have c_716i := i_ne (x := r_713.toInt) (y := 0) rfl rfl c_716
                replace hE := hE.trans (if_neg c_716)
                refine lv_iconst (v := 1) hx hb dX12_sounds_111 (by decide +kernel) (lv_goto (tgt := 116) hx hb dX12_sounds_112 (by decide +kernel) ?_)
                rw [← hQ]
                have hP9 := hP.sub (ws' := [(cc_O m0 12 [.int 0, m_1, m_2, .ref w0, m_4, m_5, m_6, m_7, m_8, m_9, m_10, m_11, m_12, m_13, m_14, m_15, m_16, m_17, m_18, m_19, m_20, m_21, m_22, m_23, m_24, m_25, m_26, m_27, m_28, m_29, m_30, m_31, m_32, m_33, m_34, m_35, m_36, m_37, m_38, m_39, m_40, m_41, m_42, m_43, m_44, m_45, m_46, m_47, m_48, m_49, m_50, m_51, m_52, m_53, m_54, m_55, m_56, m_57, m_58, m_59]), (cc_l w0 (K 0) 5500 fw)]) [0, 1] rfl
                have hD9 := sub_D hP9 hD [0, 1] (by decide +kernel) rfl
                exact W.iret (v := 1) hx hb hr (fun t ht hW => ⟨⟨1, ((fun _ => 0, fun _ => fun _ => 0, fun _ => fun _ => 0, fun _ => 0, fun _ => 0, fun _ => fun _ => none) : Su), rfl, ⟨hE.symm, trivial⟩, (⟨by rw [ht]; exact hP9, hD9⟩ : Wd D A _ t)⟩, hS.F ht⟩) hS.2.2 dX12_sounds_116
            · have c_712i := i_eq (x := x.toInt) (y := 1) rfl rfl c_712
              replace hE := hE.trans (if_pos c_712)
              refine lv_iload_n hx hb dX12_sounds_100 rfl (lv_at hl 1 rfl) (lv_goto (tgt := 116) hx hb dX12_sounds_101 (by decide +kernel) ?_)
              rw [← hQ]
              have hP9 := hP.sub (ws' := [(cc_O m0 12 [.int 0, m_1, m_2, .ref w0, m_4, m_5, m_6, m_7, m_8, m_9, m_10, m_11, m_12, m_13, m_14, m_15, m_16, m_17, m_18, m_19, m_20, m_21, m_22, m_23, m_24, m_25, m_26, m_27, m_28, m_29, m_30, m_31, m_32, m_33, m_34, m_35, m_36, m_37, m_38, m_39, m_40, m_41, m_42, m_43, m_44, m_45, m_46, m_47, m_48, m_49, m_50, m_51, m_52, m_53, m_54, m_55, m_56, m_57, m_58, m_59]), (cc_l w0 (K 0) 5500 fw)]) [0, 1] rfl
              have hD9 := sub_D hP9 hD [0, 1] (by decide +kernel) rfl
              exact W.iret (v := v_655) hx hb hr (fun t ht hW => ⟨⟨v_655, ((fun _ => 0, fun _ => fun _ => 0, fun _ => fun _ => 0, fun _ => 0, fun _ => 0, fun _ => fun _ => none) : Su), rfl, ⟨hE.symm, trivial⟩, (⟨by rw [ht]; exact hP9, hD9⟩ : Wd D A _ t)⟩, hS.F ht⟩) hS.2.2 dX12_sounds_116
          · have c_711i := i_eq (x := x.toInt) (y := 0) rfl rfl c_711
            replace hE := hE.trans (if_pos c_711)
            refine lv_iload_n hx hb dX12_sounds_91 rfl (lv_at hl 2 rfl) (lv_goto (tgt := 116) hx hb dX12_sounds_92 (by decide +kernel) ?_)
            rw [← hQ]
            have hP9 := hP.sub (ws' := [(cc_O m0 12 [.int 0, m_1, m_2, .ref w0, m_4, m_5, m_6, m_7, m_8, m_9, m_10, m_11, m_12, m_13, m_14, m_15, m_16, m_17, m_18, m_19, m_20, m_21, m_22, m_23, m_24, m_25, m_26, m_27, m_28, m_29, m_30, m_31, m_32, m_33, m_34, m_35, m_36, m_37, m_38, m_39, m_40, m_41, m_42, m_43, m_44, m_45, m_46, m_47, m_48, m_49, m_50, m_51, m_52, m_53, m_54, m_55, m_56, m_57, m_58, m_59]), (cc_l w0 (K 0) 5500 fw)]) [0, 1] rfl
            have hD9 := sub_D hP9 hD [0, 1] (by decide +kernel) rfl
            exact W.iret (v := r_522) hx hb hr (fun t ht hW => ⟨⟨r_522, ((fun _ => 0, fun _ => fun _ => 0, fun _ => fun _ => 0, fun _ => 0, fun _ => 0, fun _ => fun _ => none) : Su), rfl, ⟨hE.symm, trivial⟩, (⟨by rw [ht]; exact hP9, hD9⟩ : Wd D A _ t)⟩, hS.F ht⟩) hS.2.2 dX12_sounds_116
        · have c_710i := i_nle (x := 7) (y := v_654.toInt) rfl rfl c_710
          replace hE := hE.trans (if_neg c_710)
          refine lv_iload_n hx hb dX12_sounds_36 rfl (lv_at hl 1 rfl) (lv_iload_n hx hb dX12_sounds_37 rfl (lv_at hl 2 rfl) (lv_iload hx hb dX12_sounds_38 (lv_at hl 0 rfl) (pci (va_runS (As := [.int r_522, .int v_654]) (rest := [.int v_655]) ⟨hx, hb, hml, hown, hts⟩ (v_is l D K r_522 v_654 H.size) (va_cwS 2 hts gX12_sounds_X12_is rfl rfl rfl (by decide +kernel) ⟨Nat.le_of_ble_eq_true rfl, Nat.le_of_ble_eq_true rfl⟩) (mkS hK hN (va_P.nil) (va_D.nil (A := fun _ => True))) rfl rfl hl.1 rfl (lv_room (Nat.le_of_ble_eq_true rfl)) dX12_sounds_40 ⟨Nat.le_of_ble_eq_true rfl, Nat.le_of_ble_eq_true rfl⟩) (fun r_717 hw => ?_))))
          obtain ⟨h_719, k_718, -⟩ := hw
          replace hE := hE.trans (Lt_in k_718)
          refine lv_if_eq (tgt := 78) hx hb dX12_sounds_43 (by decide +kernel) (fun c_720 => ?_) (fun c_720 => ?_)
          · have c_720i := i_eq (x := r_717.toInt) (y := 0) rfl rfl c_720
            replace hE := hE.trans (if_pos c_720)
            refine lv_iconst (v := 0) hx hb dX12_sounds_78 (by decide +kernel) (lv_iadd hx hb dX12_sounds_79 (lv_topi (fun x_721 ex_721 => ?_)))
            replace hE := hE.trans (Lt_in ex_721)
            have hx_721 : x_721.toInt = (v_655.toInt + 0) := by rw [ex_721]; exact i_add rfl (show (0 : Int32).toInt = 0 from rfl) (by have q1 := i_rng (a := v_655) rfl; omega)
            refine lv_istore_n (lv' := [(3, .int x_721), (4, .int v_654), (2, .int r_522), (0, .ref m0), (1, .int x)]) hx hb dX12_sounds_80 rfl hl (by decide +kernel) rfl (fun ls hl => ?_)
            obtain ⟨x_722, ex_722⟩ : ∃ y : Int32, y = v_654 + Int32.ofInt 1 := ⟨_, rfl⟩
            replace hE := hE.trans (Lt_in ex_722)
            have hx_722 : x_722.toInt = (v_654.toInt + 1) := by rw [ex_722]; exact i_add rfl (show (Int32.ofInt 1).toInt = 1 from rfl) (by omega)
            refine lv_iinc (v := x_722) (lv' := [(4, .int x_722), (3, .int x_721), (2, .int r_522), (0, .ref m0), (1, .int x)]) hx hb dX12_sounds_81 hl (k := 1) rfl (by rw [ex_722]) (by decide +kernel) rfl (fun ls hl => ?_)
            refine lv_goto (tgt := 29) hx hb dX12_sounds_84 (by decide +kernel) ?_
            exact ih_709 x_722 x_721 (by rw [hx_722]; omega) (by omega) (hE.trans (by rw [hrec_708])) _ _ hP hD hS ls (lv_sub hl [0, 1, 2, 3, 4] rfl)
          · have c_720i := i_ne (x := r_717.toInt) (y := 0) rfl rfl c_720
            replace hE := hE.trans (if_neg c_720)
            refine lv_iload_n hx hb dX12_sounds_46 rfl (lv_at hl 2 rfl) (lv_iload hx hb dX12_sounds_47 (lv_at hl 0 rfl) (lv_iconst (v := 2) hx hb dX12_sounds_49 (by decide +kernel) (lv_iadd hx hb dX12_sounds_50 (lv_topi (fun x_723 ex_723 => ?_)))))
            replace hE := hE.trans (Lt_in ex_723)
            have hx_723 : x_723.toInt = (v_654.toInt + 2) := by rw [ex_723]; exact i_add rfl (show (2 : Int32).toInt = 2 from rfl) (by omega)
            refine lv_bipush (v := 7) hx hb dX12_sounds_51 (by decide +kernel) (lv_irem hx hb dX12_sounds_53 (by decide +kernel) (lv_topi (fun x_724 ex_724 => ?_)))
            replace hE := hE.trans (Lt_in ex_724)
            have hx_724 : x_724.toInt = ((v_654.toInt + 2) % 7) := by rw [ex_724]; exact i_rem hx_723 (show (7 : Int32).toInt = 7 from rfl) (by omega) (by omega)
            refine pci (va_runS (As := [.int r_522, .int x_724]) (rest := [.int v_655]) ⟨hx, hb, hml, hown, hts⟩ (v_is l D K r_522 x_724 H.size) (va_cwS 2 hts gX12_sounds_X12_is rfl rfl rfl (by decide +kernel) ⟨Nat.le_of_ble_eq_true rfl, Nat.le_of_ble_eq_true rfl⟩) (mkS hK hN (va_P.nil) (va_D.nil (A := fun _ => True))) rfl rfl hl.1 rfl (lv_room (Nat.le_of_ble_eq_true rfl)) dX12_sounds_54 ⟨Nat.le_of_ble_eq_true rfl, Nat.le_of_ble_eq_true rfl⟩) (fun r_725 hw => ?_)
            obtain ⟨h_727, k_726, -⟩ := hw
            replace hE := hE.trans (Lt_in k_726)
            refine lv_if_eq (tgt := 78) hx hb dX12_sounds_57 (by decide +kernel) (fun c_728 => ?_) (fun c_728 => ?_)
            · have c_728i := i_eq (x := r_725.toInt) (y := 0) rfl rfl c_728
              replace hE := hE.trans (if_pos c_728)
              refine lv_iconst (v := 0) hx hb dX12_sounds_78 (by decide +kernel) (lv_iadd hx hb dX12_sounds_79 (lv_topi (fun x_729 ex_729 => ?_)))
              replace hE := hE.trans (Lt_in ex_729)
              have hx_729 : x_729.toInt = (v_655.toInt + 0) := by rw [ex_729]; exact i_add rfl (show (0 : Int32).toInt = 0 from rfl) (by have q1 := i_rng (a := v_655) rfl; omega)
              refine lv_istore_n (lv' := [(3, .int x_729), (4, .int v_654), (2, .int r_522), (0, .ref m0), (1, .int x)]) hx hb dX12_sounds_80 rfl hl (by decide +kernel) rfl (fun ls hl => ?_)
              obtain ⟨x_730, ex_730⟩ : ∃ y : Int32, y = v_654 + Int32.ofInt 1 := ⟨_, rfl⟩
              replace hE := hE.trans (Lt_in ex_730)
              have hx_730 : x_730.toInt = (v_654.toInt + 1) := by rw [ex_730]; exact i_add rfl (show (Int32.ofInt 1).toInt = 1 from rfl) (by omega)
              refine lv_iinc (v := x_730) (lv' := [(4, .int x_730), (3, .int x_729), (2, .int r_522), (0, .ref m0), (1, .int x)]) hx hb dX12_sounds_81 hl (k := 1) rfl (by rw [ex_730]) (by decide +kernel) rfl (fun ls hl => ?_)
              refine lv_goto (tgt := 29) hx hb dX12_sounds_84 (by decide +kernel) ?_
              exact ih_709 x_730 x_729 (by rw [hx_730]; omega) (by omega) (hE.trans (by rw [hrec_708])) _ _ hP hD hS ls (lv_sub hl [0, 1, 2, 3, 4] rfl)
            · have c_728i := i_ne (x := r_725.toInt) (y := 0) rfl rfl c_728
              replace hE := hE.trans (if_neg c_728)
              refine lv_iload_n hx hb dX12_sounds_60 rfl (lv_at hl 2 rfl) (lv_iload hx hb dX12_sounds_61 (lv_at hl 0 rfl) (lv_iconst (v := 4) hx hb dX12_sounds_63 (by decide +kernel) (lv_iadd hx hb dX12_sounds_64 (lv_topi (fun x_731 ex_731 => ?_)))))
              replace hE := hE.trans (Lt_in ex_731)
              have hx_731 : x_731.toInt = (v_654.toInt + 4) := by rw [ex_731]; exact i_add rfl (show (4 : Int32).toInt = 4 from rfl) (by omega)
              refine lv_bipush (v := 7) hx hb dX12_sounds_65 (by decide +kernel) (lv_irem hx hb dX12_sounds_67 (by decide +kernel) (lv_topi (fun x_732 ex_732 => ?_)))
              replace hE := hE.trans (Lt_in ex_732)
              have hx_732 : x_732.toInt = ((v_654.toInt + 4) % 7) := by rw [ex_732]; exact i_rem hx_731 (show (7 : Int32).toInt = 7 from rfl) (by omega) (by omega)
              refine pci (va_runS (As := [.int r_522, .int x_732]) (rest := [.int v_655]) ⟨hx, hb, hml, hown, hts⟩ (v_is l D K r_522 x_732 H.size) (va_cwS 2 hts gX12_sounds_X12_is rfl rfl rfl (by decide +kernel) ⟨Nat.le_of_ble_eq_true rfl, Nat.le_of_ble_eq_true rfl⟩) (mkS hK hN (va_P.nil) (va_D.nil (A := fun _ => True))) rfl rfl hl.1 rfl (lv_room (Nat.le_of_ble_eq_true rfl)) dX12_sounds_68 ⟨Nat.le_of_ble_eq_true rfl, Nat.le_of_ble_eq_true rfl⟩) (fun r_733 hw => ?_)
              obtain ⟨h_735, k_734, -⟩ := hw
              replace hE := hE.trans (Lt_in k_734)
              refine lv_if_eq (tgt := 78) hx hb dX12_sounds_71 (by decide +kernel) (fun c_736 => ?_) (fun c_736 => ?_)
              · have c_736i := i_eq (x := r_733.toInt) (y := 0) rfl rfl c_736
                replace hE := hE.trans (if_pos c_736)
                refine lv_iconst (v := 0) hx hb dX12_sounds_78 (by decide +kernel) (lv_iadd hx hb dX12_sounds_79 (lv_topi (fun x_737 ex_737 => ?_)))
                replace hE := hE.trans (Lt_in ex_737)
                have hx_737 : x_737.toInt = (v_655.toInt + 0) := by rw [ex_737]; exact i_add rfl (show (0 : Int32).toInt = 0 from rfl) (by have q1 := i_rng (a := v_655) rfl; omega)
                refine lv_istore_n (lv' := [(3, .int x_737), (4, .int v_654), (2, .int r_522), (0, .ref m0), (1, .int x)]) hx hb dX12_sounds_80 rfl hl (by decide +kernel) rfl (fun ls hl => ?_)
                obtain ⟨x_738, ex_738⟩ : ∃ y : Int32, y = v_654 + Int32.ofInt 1 := ⟨_, rfl⟩
                replace hE := hE.trans (Lt_in ex_738)
                have hx_738 : x_738.toInt = (v_654.toInt + 1) := by rw [ex_738]; exact i_add rfl (show (Int32.ofInt 1).toInt = 1 from rfl) (by omega)
                refine lv_iinc (v := x_738) (lv' := [(4, .int x_738), (3, .int x_737), (2, .int r_522), (0, .ref m0), (1, .int x)]) hx hb dX12_sounds_81 hl (k := 1) rfl (by rw [ex_738]) (by decide +kernel) rfl (fun ls hl => ?_)
                refine lv_goto (tgt := 29) hx hb dX12_sounds_84 (by decide +kernel) ?_
                exact ih_709 x_738 x_737 (by rw [hx_738]; omega) (by omega) (hE.trans (by rw [hrec_708])) _ _ hP hD hS ls (lv_sub hl [0, 1, 2, 3, 4] rfl)
              · have c_736i := i_ne (x := r_733.toInt) (y := 0) rfl rfl c_736
                replace hE := hE.trans (if_neg c_736)
                refine lv_iconst (v := 1) hx hb dX12_sounds_74 (by decide +kernel) (lv_goto (tgt := 79) hx hb dX12_sounds_75 (by decide +kernel) (lv_iadd hx hb dX12_sounds_79 (lv_topi (fun x_739 ex_739 => ?_))))
                replace hE := hE.trans (Lt_in ex_739)
                refine lv_istore_n (lv' := [(3, .int x_739), (4, .int v_654), (2, .int r_522), (0, .ref m0), (1, .int x)]) hx hb dX12_sounds_80 rfl hl (by decide +kernel) rfl (fun ls hl => ?_)
                obtain ⟨x_740, ex_740⟩ : ∃ y : Int32, y = v_654 + Int32.ofInt 1 := ⟨_, rfl⟩
                replace hE := hE.trans (Lt_in ex_740)
                have hx_740 : x_740.toInt = (v_654.toInt + 1) := by rw [ex_740]; exact i_add rfl (show (Int32.ofInt 1).toInt = 1 from rfl) (by omega)
                refine lv_iinc (v := x_740) (lv' := [(4, .int x_740), (3, .int x_739), (2, .int r_522), (0, .ref m0), (1, .int x)]) hx hb dX12_sounds_81 hl (k := 1) rfl (by rw [ex_740]) (by decide +kernel) rfl (fun ls hl => ?_)
                refine lv_goto (tgt := 29) hx hb dX12_sounds_84 (by decide +kernel) ?_
                exact ih_709 x_740 x_739 (by rw [hx_740]; omega) (by omega) (hE.trans (by rw [hrec_708])) _ _ hP hD hS ls (lv_sub hl [0, 1, 2, 3, 4] rfl)
    exact lp_708 ((8 - (0 : Int32).toInt : Int).toNat + 1) 0 0 (by decide +kernel) (Nat.lt_succ_self _) hE _ _ hP hD hS ls (lv_sub hl [0, 1, 2, 3, 4] rfl)
  · replace hE := (hE).trans (if_neg (by first | decide | (intro h9; have h8 := congrArg Int32.toInt h9; omega)))
    refine lv_if_ne (tgt := 19) hx hb dX12_sounds_14 (by decide +kernel) (fun c_741 => absurd (by decide +kernel) c_741) (fun c_741 => ?_)
    refine lv_iconst (v := (-1)) hx hb dX12_sounds_17 (by decide +kernel) ?_
    rw [← hQ]
    have hP9 := hP.sub (ws' := [(cc_O m0 12 [.int 0, m_1, m_2, .ref w0, m_4, m_5, m_6, m_7, m_8, m_9, m_10, m_11, m_12, m_13, m_14, m_15, m_16, m_17, m_18, m_19, m_20, m_21, m_22, m_23, m_24, m_25, m_26, m_27, m_28, m_29, m_30, m_31, m_32, m_33, m_34, m_35, m_36, m_37, m_38, m_39, m_40, m_41, m_42, m_43, m_44, m_45, m_46, m_47, m_48, m_49, m_50, m_51, m_52, m_53, m_54, m_55, m_56, m_57, m_58, m_59]), (cc_l w0 (K 0) 5500 fw)]) [0, 1] rfl
    have hD9 := sub_D hP9 hD [0, 1] (by decide +kernel) rfl
    exact W.iret (v := (-1)) hx hb hr (fun t ht hW => ⟨⟨(-1), ((fun _ => 0, fun _ => fun _ => 0, fun _ => fun _ => 0, fun _ => 0, fun _ => 0, fun _ => fun _ => none) : Su), rfl, ⟨hE.symm, trivial⟩, (⟨by rw [ht]; exact hP9, hD9⟩ : Wd D A _ t)⟩, hS.F ht⟩) hS.2.2 dX12_sounds_18
set_option maxRecDepth 100000 in
noncomputable def E_v_flare (x : Int32) (y : Int32) (lw : Int32) (bro : Int32) (val : Int64) (sm : Int64) (fw : Nat → Int32) (fe : Nat → Int64) (frs : Nat → Int64) : Int32 × Int32 × Int64 × Int64 × (Nat → Int32) × (Nat → Int64) × (Nat → Int64) :=
  Lt (11 + y : Int32) (fun x_89 => Lt (11 + y : Int32) (fun x_90 => Lt (fw (x_90 : Int32).toNatClampNeg : Int32) (fun x_91 => Lt2 (E_v_flaresOf x y lw bro val sm fw fe frs) (fun r_92 q0_r_92 => Lt2 q0_r_92 (fun u_93_2_2_2_1_0 q1_u_93_2_2_2_1_0 => Lt2 q1_u_93_2_2_2_1_0 (fun u_93_2_2_2_1_1 q2_u_93_2_2_2_1_1 => Lt2 q2_u_93_2_2_2_1_1 (fun u_93_2_2_2_2_1_0 q3_u_93_2_2_2_2_1_0 => Lt2 q3_u_93_2_2_2_2_1_0 (fun u_93_2_2_2_2_1_1 q4_u_93_2_2_2_2_1_1 => Lt2 q4_u_93_2_2_2_2_1_1 (fun u_93_2_2_1_0 u_93_2_2_1_1 => Lt (x_91 + r_92 : Int32) (fun x_97 => Lt ((x_97 : Int32).toInt64 : Int64) (fun x_98 => Lt (E_v_within_20 x_98) (fun r_99 => Lt (upd fw (x_89 : Int32).toNatClampNeg r_99 : Nat → Int32) (fun f_102 => ((u_93_2_2_2_1_0, u_93_2_2_2_1_1, u_93_2_2_2_2_1_0, u_93_2_2_2_2_1_1, f_102, u_93_2_2_1_0, u_93_2_2_1_1) : Int32 × Int32 × Int64 × Int64 × (Nat → Int32) × (Nat → Int64) × (Nat → Int64)))))))))))))))
set_option maxHeartbeats 4000000 in
set_option maxRecDepth 100000 in
theorem v_flare (l : Launch) (D : va_G) (K : Nat → ClassId) (m0 : Nat) (x : Int32) (y : Int32) (m_0 : Value) (m_1 : Value) (m_2 : Value) (w0 : Nat) (m_4 : Value) (m_5 : Value) (m_6 : Value) (m_7 : Value) (m_8 : Value) (m_9 : Value) (m_10 : Value) (m_11 : Value) (m_12 : Value) (m_13 : Value) (m_14 : Value) (m_15 : Value) (m_16 : Value) (m_17 : Value) (m_18 : Value) (m_19 : Value) (m_21 : Value) (m_22 : Value) (m_23 : Value) (m_24 : Value) (m_25 : Value) (m_26 : Value) (m_27 : Value) (m_28 : Value) (m_29 : Value) (m_30 : Value) (m_31 : Value) (m_32 : Value) (m_33 : Value) (lw : Int32) (e0 : Nat) (m_36 : Value) (q0 : Nat) (bro : Int32) (val : Int64) (sm : Int64) (m_41 : Value) (m_42 : Value) (m_43 : Value) (m_44 : Value) (m_45 : Value) (m_46 : Value) (m_47 : Value) (m_48 : Value) (m_49 : Value) (m_50 : Value) (m_51 : Value) (m_52 : Value) (m_53 : Value) (m_54 : Value) (m_55 : Value) (m_56 : Value) (m_57 : Value) (m_58 : Value) (m_59 : Value) (fw : Nat → Int32) (gr : Nat → Int32) (fe : Nat → Int64) (frs : Nat → Int64) (sz : Nat) (zbro : 0 ≤ bro.toInt ∧ bro.toInt ≤ 1) (zx : (-1) ≤ x.toInt ∧ x.toInt ≤ 5) (zy : 0 ≤ y.toInt ∧ y.toInt ≤ 7) (zfw : RwOK fw) (zgr : FzM gr fw) : Met l yX12_flare wsX12_flare ({ frames := 5, cells := 0, slots := 0, locals := 124 }) (va_Pc [.ref m0, .int x, .int y] (Pre D K [(cc_O m0 12 [m_0, m_1, m_2, .ref w0, m_4, m_5, m_6, m_7, m_8, m_9, m_10, m_11, m_12, m_13, m_14, m_15, m_16, m_17, m_18, m_19, .int 0, m_21, m_22, m_23, m_24, m_25, m_26, m_27, m_28, m_29, m_30, m_31, m_32, m_33, .int lw, .ref e0, m_36, .ref q0, .int bro, .long val, .long sm, m_41, m_42, m_43, m_44, m_45, m_46, m_47, m_48, m_49, m_50, m_51, m_52, m_53, m_54, m_55, m_56, m_57, m_58, m_59]), (cc_l w0 (K 0) 5500 fw), (cc_rl e0 (K 2) 13 fe), (cc_rl q0 (K 2) 400 frs)] sz)) (va_Qv (S := Su) (fun (u : Su) => (0 ≤ (u.2.2.2.1 1).toInt ∧ (u.2.2.2.1 1).toInt ≤ 1) ∧ (RwOK (u.2.1 0)) ∧ (FzM gr (u.2.1 0)) ∧ (((u.2.2.2.1 0), (u.2.2.2.1 1), (u.2.2.2.2.1 0), (u.2.2.2.2.1 1), (u.2.1 0), (u.2.2.1 0), (u.2.2.1 1)) = E_v_flare x y lw bro val sm fw fe frs) ∧ True) (fun u t => Wd D (va_A [(cc_O m0 12 [m_0, m_1, m_2, .ref w0, m_4, m_5, m_6, m_7, m_8, m_9, m_10, m_11, m_12, m_13, m_14, m_15, m_16, m_17, m_18, m_19, .int 0, m_21, m_22, m_23, m_24, m_25, m_26, m_27, m_28, m_29, m_30, m_31, m_32, m_33, .int lw, .ref e0, m_36, .ref q0, .int bro, .long val, .long sm, m_41, m_42, m_43, m_44, m_45, m_46, m_47, m_48, m_49, m_50, m_51, m_52, m_53, m_54, m_55, m_56, m_57, m_58, m_59]), (cc_l w0 (K 0) 5500 fw), (cc_rl e0 (K 2) 13 fe), (cc_rl q0 (K 2) 400 frs)] sz) ((fun u => [(cc_O m0 12 [m_0, m_1, m_2, .ref w0, m_4, m_5, m_6, m_7, m_8, m_9, m_10, m_11, m_12, m_13, m_14, m_15, m_16, m_17, m_18, m_19, .int 0, m_21, m_22, m_23, m_24, m_25, m_26, m_27, m_28, m_29, m_30, m_31, m_32, m_33, .int (u.2.2.2.1 0), .ref e0, m_36, .ref q0, .int (u.2.2.2.1 1), .long (u.2.2.2.2.1 0), .long (u.2.2.2.2.1 1), m_41, m_42, m_43, m_44, m_45, m_46, m_47, m_48, m_49, m_50, m_51, m_52, m_53, m_54, m_55, m_56, m_57, m_58, m_59]), (cc_l w0 (K 0) 5500 (u.2.1 0)), (cc_rl e0 (K 2) 13 (u.2.2.1 0)), (cc_rl q0 (K 2) 400 (u.2.2.1 1))]) u) t) (va_A [(cc_O m0 12 [m_0, m_1, m_2, .ref w0, m_4, m_5, m_6, m_7, m_8, m_9, m_10, m_11, m_12, m_13, m_14, m_15, m_16, m_17, m_18, m_19, .int 0, m_21, m_22, m_23, m_24, m_25, m_26, m_27, m_28, m_29, m_30, m_31, m_32, m_33, .int lw, .ref e0, m_36, .ref q0, .int bro, .long val, .long sm, m_41, m_42, m_43, m_44, m_45, m_46, m_47, m_48, m_49, m_50, m_51, m_52, m_53, m_54, m_55, m_56, m_57, m_58, m_59]), (cc_l w0 (K 0) 5500 fw), (cc_rl e0 (K 2) 13 fe), (cc_rl q0 (K 2) 400 frs)] sz)) 0 0 (va_A [(cc_O m0 12 [m_0, m_1, m_2, .ref w0, m_4, m_5, m_6, m_7, m_8, m_9, m_10, m_11, m_12, m_13, m_14, m_15, m_16, m_17, m_18, m_19, .int 0, m_21, m_22, m_23, m_24, m_25, m_26, m_27, m_28, m_29, m_30, m_31, m_32, m_33, .int lw, .ref e0, m_36, .ref q0, .int bro, .long val, .long sm, m_41, m_42, m_43, m_44, m_45, m_46, m_47, m_48, m_49, m_50, m_51, m_52, m_53, m_54, m_55, m_56, m_57, m_58, m_59]), (cc_l w0 (K 0) 5500 fw), (cc_rl e0 (K 2) 13 fe), (cc_rl q0 (K 2) 400 frs)] sz) := by
  refine Met.ofW (cc := cX12_flare) (maxL := 3) (ret := none) (by decide +kernel) rfl ?_
  intro p e s m args below meth c s₁ B hml hv
  obtain ⟨rfl, hsz, hP, hK, hD0, hN⟩ := hv
  have hx := B.exec
  have hb := B.bytes
  have hr := B.returns
  have hts := atoms_spec (ws := wsX12_flare) B.pre
  have hown : s.vm.findClass RX12 = some m.cls := findClass_of_methodNamed B.named
  have hlocks := B.notSynchronized
  subst hsz
  have hD := hD0.self (sz := s.heap.size)
  generalize hAe : va_A [(cc_O m0 12 [m_0, m_1, m_2, .ref w0, m_4, m_5, m_6, m_7, m_8, m_9, m_10, m_11, m_12, m_13, m_14, m_15, m_16, m_17, m_18, m_19, .int 0, m_21, m_22, m_23, m_24, m_25, m_26, m_27, m_28, m_29, m_30, m_31, m_32, m_33, .int lw, .ref e0, m_36, .ref q0, .int bro, .long val, .long sm, m_41, m_42, m_43, m_44, m_45, m_46, m_47, m_48, m_49, m_50, m_51, m_52, m_53, m_54, m_55, m_56, m_57, m_58, m_59]), (cc_l w0 (K 0) 5500 fw), (cc_rl e0 (K 2) 13 fe), (cc_rl q0 (K 2) 400 frs)] s.heap.size = A at hD ⊢
  have hA : ∀ q : Nat, s.heap.size ≤ q → A q := fun q h => by rw [← hAe]; exact Or.inr h
  clear hAe
  have hS : va_S A s.heap s.heap [] := va_S.rf
  replace hP : va_P D vwCl [(cc_O m0 12 [m_0, m_1, m_2, .ref w0, m_4, m_5, m_6, m_7, m_8, m_9, m_10, m_11, m_12, m_13, m_14, m_15, m_16, m_17, m_18, m_19, .int 0, m_21, m_22, m_23, m_24, m_25, m_26, m_27, m_28, m_29, m_30, m_31, m_32, m_33, .int lw, .ref e0, m_36, .ref q0, .int bro, .long val, .long sm, m_41, m_42, m_43, m_44, m_45, m_46, m_47, m_48, m_49, m_50, m_51, m_52, m_53, m_54, m_55, m_56, m_57, m_58, m_59]), (cc_l w0 (K 0) 5500 fw), (cc_rl e0 (K 2) 13 fe), (cc_rl q0 (K 2) 400 frs)] s.heap := hP
  have hl := lv_entry [.ref m0, .int x, .int y] (n := 3) (Nat.le_of_ble_eq_true rfl)
  rw [lg_entry_eq]
  generalize (lg_sl [.ref m0, .int x, .int y] ++ List.replicate (3 - (lg_sl [.ref m0, .int x, .int y]).length) Slot.unset).toArray = ls at hl ⊢
  have hl : lv_has ls 3 [(0, .ref m0), (1, .int x), (2, .int y)] := hl
  have hw12 : ∀ w ∈ wsX120, w ∈ wsX12_flare := fun w h => (List.mem_cons_of_mem _ (List.mem_append_right _ h))
  generalize hQ : MQ below _ _ s _ _ _ = Q
  have hE := E_v_flare.eq_def x y lw bro val sm fw fe frs
  refine lv_aload_n hx hb dX12_flare_0 rfl (lv_at hl 0 rfl) (va_get (ci := 12) (v := .ref w0) (C := RX12) (T := TX12) (N := 60) hx hb hts hw12 hown hK hP 0 rfl rfl 3 (by decide +kernel) (hts _ mm_X12_flare_833) (fun _ h9 => h9) rfl dX12_flare_1 (lv_bipush (v := 11) hx hb dX12_flare_4 (by decide +kernel) (lv_iload_n hx hb dX12_flare_6 rfl (lv_at hl 2 rfl) (lv_iadd hx hb dX12_flare_7 (lv_topi (fun x_89 ex_89 => ?_))))))
  replace hE := hE.trans (Lt_in ex_89)
  have hx_89 : x_89.toInt = (11 + y.toInt) := by rw [ex_89]; exact i_add (show (11 : Int32).toInt = 11 from rfl) rfl (by omega)
  refine lv_aload_n hx hb dX12_flare_8 rfl (lv_at hl 0 rfl) (va_get (ci := 12) (v := .ref w0) (C := RX12) (T := TX12) (N := 60) hx hb hts hw12 hown hK hP 0 rfl rfl 3 (by decide +kernel) (hts _ mm_X12_flare_833) (fun _ h9 => h9) rfl dX12_flare_9 (lv_bipush (v := 11) hx hb dX12_flare_12 (by decide +kernel) (lv_iload_n hx hb dX12_flare_14 rfl (lv_at hl 2 rfl) (lv_iadd hx hb dX12_flare_15 (lv_topi (fun x_90 ex_90 => ?_))))))
  replace hE := hE.trans (Lt_in ex_90)
  have hx_90 : x_90.toInt = (11 + y.toInt) := by rw [ex_90]; exact i_add (show (11 : Int32).toInt = 11 from rfl) rfl (by omega)
  refine va_iald hx hb hK hP 1 0 rfl rfl (i_in hx_90 (by omega)) dX12_flare_16 (lv_topi (fun x_91 ex_91 => ?_))
  replace hE := hE.trans (Lt_in ex_91)
  have px_91 := RwOK.at zfw hx_90 (show 0 ≤ (11 + y.toInt) ∧ (11 + y.toInt) < 100 by omega)
  rw [← ex_91] at px_91
  have hx_91 := PR.r_11 px_91 (by omega)
  refine lv_aload_n hx hb dX12_flare_17 rfl (lv_at hl 0 rfl) (lv_iload_n hx hb dX12_flare_18 rfl (lv_at hl 1 rfl) (lv_iload_n hx hb dX12_flare_19 rfl (lv_at hl 2 rfl) (kci (S := Su) (wr := []) (va_runV (As := [.int x, .int y]) (rest := [.int x_91, .int x_89, .ref w0]) ⟨hx, hb, hml, hown, hts⟩ (v_flaresOf l D K m0 x y m_0 m_1 m_2 w0 m_4 m_5 m_6 m_7 m_8 m_9 m_10 m_11 m_12 m_13 m_14 m_15 m_16 m_17 m_18 m_19 m_21 m_22 m_23 m_24 m_25 m_26 m_27 m_28 m_29 m_30 m_31 m_32 m_33 lw e0 m_36 q0 bro val sm m_41 m_42 m_43 m_44 m_45 m_46 m_47 m_48 m_49 m_50 m_51 m_52 m_53 m_54 m_55 m_56 m_57 m_58 m_59 fw gr fe frs s.heap.size (by first | omega | decide) (by first | omega | decide) (by first | omega | decide) zfw zgr) (cwV 2 hts gX12_flare_X12_flaresOf rfl rfl rfl (by decide +kernel) ⟨Nat.le_of_ble_eq_true rfl, Nat.le_of_ble_eq_true rfl⟩) (mkV hK hN (hP.sub [0, 1, 2, 3] rfl) (hD.sub [0, 1, 2, 3] (by decide +kernel) rfl) (ci := 12) (q0 := 0) rfl rfl) rfl rfl hl.1 rfl (lv_room (Nat.le_of_ble_eq_true rfl)) dX12_flare_20 ⟨Nat.le_of_ble_eq_true rfl, Nat.le_of_ble_eq_true rfl⟩) hP hD hS hA [0, 1, 2, 3] [] rfl rfl (by decide +kernel) (by decide +kernel) (fun r_92 u_93 H locs hw hP0 hD0 hS0 => ?_))))
  replace hP : va_P D vwCl [(cc_O m0 12 [m_0, m_1, m_2, .ref w0, m_4, m_5, m_6, m_7, m_8, m_9, m_10, m_11, m_12, m_13, m_14, m_15, m_16, m_17, m_18, m_19, .int 0, m_21, m_22, m_23, m_24, m_25, m_26, m_27, m_28, m_29, m_30, m_31, m_32, m_33, .int (u_93.2.2.2.1 0), .ref e0, m_36, .ref q0, .int (u_93.2.2.2.1 1), .long (u_93.2.2.2.2.1 0), .long (u_93.2.2.2.2.1 1), m_41, m_42, m_43, m_44, m_45, m_46, m_47, m_48, m_49, m_50, m_51, m_52, m_53, m_54, m_55, m_56, m_57, m_58, m_59]), (cc_l w0 (K 0) 5500 fw), (cc_rl e0 (K 2) 13 (u_93.2.2.1 0)), (cc_rl q0 (K 2) 400 (u_93.2.2.1 1))] H := hP0
  replace hD := as_D hP hD0 rfl
  replace hS := hS0
  clear hP0 hD0 hS0
  obtain ⟨h_96, k_94, k_95, -⟩ := hw
  replace hE := (((((hE.trans (Lt2_in k_95)).trans (Lt2_in rfl)).trans (Lt2_in rfl)).trans (Lt2_in rfl)).trans (Lt2_in rfl)).trans (Lt2_in rfl)
  refine lv_iadd hx hb dX12_flare_23 (lv_topi (fun x_97 ex_97 => ?_))
  replace hE := hE.trans (Lt_in ex_97)
  have hx_97 : x_97.toInt = (x_91.toInt + r_92.toInt) := by rw [ex_97]; exact i_add rfl rfl (by omega)
  refine lv_i2l hx hb dX12_flare_24 rfl (lv_topl (fun x_98 ex_98 => ?_))
  replace hE := hE.trans (Lt_in ex_98)
  have hx_98 : x_98.toInt = (x_91.toInt + r_92.toInt) := by rw [ex_98]; exact i_wide hx_97
  refine lv_iconst (v := 0) hx hb dX12_flare_25 (by decide +kernel) (lv_bipush (v := 20) hx hb dX12_flare_26 (by decide +kernel) (pci (va_runS (As := [.long x_98, .int 0, .int 20]) (rest := [.int x_89, .ref w0]) ⟨hx, hb, hml, hown, hts⟩ (v_within_20 l D K x_98 H.size) (va_cwS 3 hts gX12_flare_X12_within rfl rfl rfl (by decide +kernel) ⟨Nat.le_of_ble_eq_true rfl, Nat.le_of_ble_eq_true rfl⟩) (mkS hK hN (va_P.nil) (va_D.nil (A := fun _ => True))) rfl rfl hl.1 rfl (lv_room (Nat.le_of_ble_eq_true rfl)) dX12_flare_28 ⟨Nat.le_of_ble_eq_true rfl, Nat.le_of_ble_eq_true rfl⟩) (fun r_99 hw => ?_)))
  obtain ⟨h_101, k_100, -⟩ := hw
  replace hE := hE.trans (Lt_in k_100)
  refine va_iast hx hb hK hP hD hS 1 0 rfl rfl (i_in hx_89 (by omega)) dX12_flare_31 (fun H locs hP0 hD0 hS0 => ?_)
  replace hP := hP0
  replace hD := hD0
  replace hS := hS0
  clear hP0 hD0 hS0
  generalize hf_102 : (upd fw (x_89 : Int32).toNatClampNeg r_99) = f_102 at hP hD
  replace hE := hE.trans (Lt_in hf_102.symm)
  have hf_102_0 : RwOK f_102 := by rw [← hf_102]; exact RwOK.upd zfw hx_89 (by omega) rfl (PR.w_11 (by omega) (by omega))
  have hf_102_1 : FzM gr f_102 := by rw [← hf_102]; exact FzM.put zgr hx_89 (by omega)
  replace hP : va_P D vwCl [(cc_O m0 12 [m_0, m_1, m_2, .ref w0, m_4, m_5, m_6, m_7, m_8, m_9, m_10, m_11, m_12, m_13, m_14, m_15, m_16, m_17, m_18, m_19, .int 0, m_21, m_22, m_23, m_24, m_25, m_26, m_27, m_28, m_29, m_30, m_31, m_32, m_33, .int (u_93.2.2.2.1 0), .ref e0, m_36, .ref q0, .int (u_93.2.2.2.1 1), .long (u_93.2.2.2.2.1 0), .long (u_93.2.2.2.2.1 1), m_41, m_42, m_43, m_44, m_45, m_46, m_47, m_48, m_49, m_50, m_51, m_52, m_53, m_54, m_55, m_56, m_57, m_58, m_59]), (cc_l w0 (K 0) 5500 f_102), (cc_rl e0 (K 2) 13 (u_93.2.2.1 0)), (cc_rl q0 (K 2) 400 (u_93.2.2.1 1))] H := hP
  replace hD := as_D hP hD rfl
  rw [← hQ]
  have hP9 := hP.sub (ws' := [(cc_O m0 12 [m_0, m_1, m_2, .ref w0, m_4, m_5, m_6, m_7, m_8, m_9, m_10, m_11, m_12, m_13, m_14, m_15, m_16, m_17, m_18, m_19, .int 0, m_21, m_22, m_23, m_24, m_25, m_26, m_27, m_28, m_29, m_30, m_31, m_32, m_33, .int (u_93.2.2.2.1 0), .ref e0, m_36, .ref q0, .int (u_93.2.2.2.1 1), .long (u_93.2.2.2.2.1 0), .long (u_93.2.2.2.2.1 1), m_41, m_42, m_43, m_44, m_45, m_46, m_47, m_48, m_49, m_50, m_51, m_52, m_53, m_54, m_55, m_56, m_57, m_58, m_59]), (cc_l w0 (K 0) 5500 f_102), (cc_rl e0 (K 2) 13 (u_93.2.2.1 0)), (cc_rl q0 (K 2) 400 (u_93.2.2.1 1))]) [0, 1, 2, 3] rfl
  have hD9 := sub_D hP9 hD [0, 1, 2, 3] (by decide +kernel) rfl
  exact W.vret hx hb hr (fun t ht hW => ⟨⟨((fun _ => 0, fun i => match i with | _ => f_102, fun i => match i with | 0 => (u_93.2.2.1 0) | _ => (u_93.2.2.1 1), fun i => match i with | 0 => (u_93.2.2.2.1 0) | _ => (u_93.2.2.2.1 1), fun i => match i with | 0 => (u_93.2.2.2.2.1 0) | _ => (u_93.2.2.2.2.1 1), fun _ => fun _ => none) : Su), rfl, ⟨(show 0 ≤ ((u_93.2.2.2.1 1) : Int32).toInt ∧ ((u_93.2.2.2.1 1) : Int32).toInt ≤ 1 by omega), hf_102_0, hf_102_1, hE.symm, trivial⟩, (⟨by rw [ht]; exact hP9, hD9⟩ : Wd D A _ t)⟩, hS.F ht⟩) hS.2.2 dX12_flare_32
set_option maxRecDepth 100000 in
noncomputable def E_v_canStoke_j24 (v_116 : Int32) (v_117 : Int32) (v_118 : Int64) (v_119 : Int64) (f_120 : Nat → Int64) (f_121 : Nat → Int64) : Int32 × Int32 × Int32 × Int64 × Int64 × (Nat → Int64) × (Nat → Int64) :=
  ((0, v_116, v_117, v_118, v_119, f_120, f_121) : Int32 × Int32 × Int32 × Int64 × Int64 × (Nat → Int64) × (Nat → Int64))
set_option maxRecDepth 100000 in
noncomputable def E_v_canStoke (x : Int32) (lw : Int32) (bro : Int32) (val : Int64) (sm : Int64) (fw : Nat → Int32) (fe : Nat → Int64) (frs : Nat → Int64) : Int32 × Int32 × Int32 × Int64 × Int64 × (Nat → Int64) × (Nat → Int64) :=
  Lt (19 + x : Int32) (fun x_107 => Lt (fw (x_107 : Int32).toNatClampNeg : Int32) (fun x_108 => if x_108 ≤ 0 then (E_v_canStoke_j24 lw bro val sm fe frs) else (Lt2 (E_v_isBarred x lw bro val sm fw fe frs) (fun r_124 q0_r_124 => Lt2 q0_r_124 (fun u_125_2_2_2_1_0 q1_u_125_2_2_2_1_0 => Lt2 q1_u_125_2_2_2_1_0 (fun u_125_2_2_2_1_1 q2_u_125_2_2_2_1_1 => Lt2 q2_u_125_2_2_2_1_1 (fun u_125_2_2_2_2_1_0 q3_u_125_2_2_2_2_1_0 => Lt2 q3_u_125_2_2_2_2_1_0 (fun u_125_2_2_2_2_1_1 q4_u_125_2_2_2_2_1_1 => Lt2 q4_u_125_2_2_2_2_1_1 (fun u_125_2_2_1_0 u_125_2_2_1_1 => if r_124 = 0 then (((1, u_125_2_2_2_1_0, u_125_2_2_2_1_1, u_125_2_2_2_2_1_0, u_125_2_2_2_2_1_1, u_125_2_2_1_0, u_125_2_2_1_1) : Int32 × Int32 × Int32 × Int64 × Int64 × (Nat → Int64) × (Nat → Int64))) else (E_v_canStoke_j24 u_125_2_2_2_1_0 u_125_2_2_2_1_1 u_125_2_2_2_2_1_0 u_125_2_2_2_2_1_1 u_125_2_2_1_0 u_125_2_2_1_1))))))))))
set_option maxHeartbeats 4000000 in
set_option maxRecDepth 100000 in
theorem v_canStoke (l : Launch) (D : va_G) (K : Nat → ClassId) (m0 : Nat) (x : Int32) (m_0 : Value) (m_1 : Value) (m_2 : Value) (w0 : Nat) (m_4 : Value) (m_5 : Value) (m_6 : Value) (m_7 : Value) (m_8 : Value) (m_9 : Value) (m_10 : Value) (m_11 : Value) (m_12 : Value) (m_13 : Value) (m_14 : Value) (m_15 : Value) (m_16 : Value) (m_17 : Value) (m_18 : Value) (m_19 : Value) (m_21 : Value) (m_22 : Value) (m_23 : Value) (m_24 : Value) (m_25 : Value) (m_26 : Value) (m_27 : Value) (m_28 : Value) (m_29 : Value) (m_30 : Value) (m_31 : Value) (m_32 : Value) (m_33 : Value) (lw : Int32) (e0 : Nat) (m_36 : Value) (q0 : Nat) (bro : Int32) (val : Int64) (sm : Int64) (m_41 : Value) (m_42 : Value) (m_43 : Value) (m_44 : Value) (m_45 : Value) (m_46 : Value) (m_47 : Value) (m_48 : Value) (m_49 : Value) (m_50 : Value) (m_51 : Value) (m_52 : Value) (m_53 : Value) (m_54 : Value) (m_55 : Value) (m_56 : Value) (m_57 : Value) (m_58 : Value) (m_59 : Value) (fw : Nat → Int32) (gr : Nat → Int32) (fe : Nat → Int64) (frs : Nat → Int64) (sz : Nat) (zbro : 0 ≤ bro.toInt ∧ bro.toInt ≤ 1) (zx : 0 ≤ x.toInt ∧ x.toInt ≤ 7) (zfw : RwOK fw) (zgr : FzM gr fw) : Met l yX12_canStoke wsX12_canStoke ({ frames := 5, cells := 0, slots := 0, locals := 123 }) (va_Pc [.ref m0, .int x] (Pre D K [(cc_O m0 12 [m_0, m_1, m_2, .ref w0, m_4, m_5, m_6, m_7, m_8, m_9, m_10, m_11, m_12, m_13, m_14, m_15, m_16, m_17, m_18, m_19, .int 0, m_21, m_22, m_23, m_24, m_25, m_26, m_27, m_28, m_29, m_30, m_31, m_32, m_33, .int lw, .ref e0, m_36, .ref q0, .int bro, .long val, .long sm, m_41, m_42, m_43, m_44, m_45, m_46, m_47, m_48, m_49, m_50, m_51, m_52, m_53, m_54, m_55, m_56, m_57, m_58, m_59]), (cc_l w0 (K 0) 5500 fw), (cc_rl e0 (K 2) 13 fe), (cc_rl q0 (K 2) 400 frs)] sz)) (va_Qi (S := Su) (fun (r : Int32) (u : Su) => (0 ≤ r.toInt ∧ r.toInt ≤ 1) ∧ (0 ≤ (u.2.2.2.1 1).toInt ∧ (u.2.2.2.1 1).toInt ≤ 1) ∧ ((r, (u.2.2.2.1 0), (u.2.2.2.1 1), (u.2.2.2.2.1 0), (u.2.2.2.2.1 1), (u.2.2.1 0), (u.2.2.1 1)) = E_v_canStoke x lw bro val sm fw fe frs) ∧ True) (fun u t => Wd D (va_A [(cc_O m0 12 [m_0, m_1, m_2, .ref w0, m_4, m_5, m_6, m_7, m_8, m_9, m_10, m_11, m_12, m_13, m_14, m_15, m_16, m_17, m_18, m_19, .int 0, m_21, m_22, m_23, m_24, m_25, m_26, m_27, m_28, m_29, m_30, m_31, m_32, m_33, .int lw, .ref e0, m_36, .ref q0, .int bro, .long val, .long sm, m_41, m_42, m_43, m_44, m_45, m_46, m_47, m_48, m_49, m_50, m_51, m_52, m_53, m_54, m_55, m_56, m_57, m_58, m_59]), (cc_l w0 (K 0) 5500 fw), (cc_rl e0 (K 2) 13 fe), (cc_rl q0 (K 2) 400 frs)] sz) ((fun u => [(cc_O m0 12 [m_0, m_1, m_2, .ref w0, m_4, m_5, m_6, m_7, m_8, m_9, m_10, m_11, m_12, m_13, m_14, m_15, m_16, m_17, m_18, m_19, .int 0, m_21, m_22, m_23, m_24, m_25, m_26, m_27, m_28, m_29, m_30, m_31, m_32, m_33, .int (u.2.2.2.1 0), .ref e0, m_36, .ref q0, .int (u.2.2.2.1 1), .long (u.2.2.2.2.1 0), .long (u.2.2.2.2.1 1), m_41, m_42, m_43, m_44, m_45, m_46, m_47, m_48, m_49, m_50, m_51, m_52, m_53, m_54, m_55, m_56, m_57, m_58, m_59]), (cc_l w0 (K 0) 5500 fw), (cc_rl e0 (K 2) 13 (u.2.2.1 0)), (cc_rl q0 (K 2) 400 (u.2.2.1 1))]) u) t) (va_A [(cc_O m0 12 [m_0, m_1, m_2, .ref w0, m_4, m_5, m_6, m_7, m_8, m_9, m_10, m_11, m_12, m_13, m_14, m_15, m_16, m_17, m_18, m_19, .int 0, m_21, m_22, m_23, m_24, m_25, m_26, m_27, m_28, m_29, m_30, m_31, m_32, m_33, .int lw, .ref e0, m_36, .ref q0, .int bro, .long val, .long sm, m_41, m_42, m_43, m_44, m_45, m_46, m_47, m_48, m_49, m_50, m_51, m_52, m_53, m_54, m_55, m_56, m_57, m_58, m_59]), (cc_l w0 (K 0) 5500 fw), (cc_rl e0 (K 2) 13 fe), (cc_rl q0 (K 2) 400 frs)] sz)) 0 0 (va_A [(cc_O m0 12 [m_0, m_1, m_2, .ref w0, m_4, m_5, m_6, m_7, m_8, m_9, m_10, m_11, m_12, m_13, m_14, m_15, m_16, m_17, m_18, m_19, .int 0, m_21, m_22, m_23, m_24, m_25, m_26, m_27, m_28, m_29, m_30, m_31, m_32, m_33, .int lw, .ref e0, m_36, .ref q0, .int bro, .long val, .long sm, m_41, m_42, m_43, m_44, m_45, m_46, m_47, m_48, m_49, m_50, m_51, m_52, m_53, m_54, m_55, m_56, m_57, m_58, m_59]), (cc_l w0 (K 0) 5500 fw), (cc_rl e0 (K 2) 13 fe), (cc_rl q0 (K 2) 400 frs)] sz) := by
  refine Met.ofW (cc := cX12_canStoke) (maxL := 2) (ret := (some .boolean)) (by decide +kernel) rfl ?_
  intro p e s m args below meth c s₁ B hml hv
  obtain ⟨rfl, hsz, hP, hK, hD0, hN⟩ := hv
  have hx := B.exec
  have hb := B.bytes
  have hr := B.returns
  have hts := atoms_spec (ws := wsX12_canStoke) B.pre
  have hown : s.vm.findClass RX12 = some m.cls := findClass_of_methodNamed B.named
  have hlocks := B.notSynchronized
  subst hsz
  have hD := hD0.self (sz := s.heap.size)
  generalize hAe : va_A [(cc_O m0 12 [m_0, m_1, m_2, .ref w0, m_4, m_5, m_6, m_7, m_8, m_9, m_10, m_11, m_12, m_13, m_14, m_15, m_16, m_17, m_18, m_19, .int 0, m_21, m_22, m_23, m_24, m_25, m_26, m_27, m_28, m_29, m_30, m_31, m_32, m_33, .int lw, .ref e0, m_36, .ref q0, .int bro, .long val, .long sm, m_41, m_42, m_43, m_44, m_45, m_46, m_47, m_48, m_49, m_50, m_51, m_52, m_53, m_54, m_55, m_56, m_57, m_58, m_59]), (cc_l w0 (K 0) 5500 fw), (cc_rl e0 (K 2) 13 fe), (cc_rl q0 (K 2) 400 frs)] s.heap.size = A at hD ⊢
  have hA : ∀ q : Nat, s.heap.size ≤ q → A q := fun q h => by rw [← hAe]; exact Or.inr h
  clear hAe
  have hS : va_S A s.heap s.heap [] := va_S.rf
  replace hP : va_P D vwCl [(cc_O m0 12 [m_0, m_1, m_2, .ref w0, m_4, m_5, m_6, m_7, m_8, m_9, m_10, m_11, m_12, m_13, m_14, m_15, m_16, m_17, m_18, m_19, .int 0, m_21, m_22, m_23, m_24, m_25, m_26, m_27, m_28, m_29, m_30, m_31, m_32, m_33, .int lw, .ref e0, m_36, .ref q0, .int bro, .long val, .long sm, m_41, m_42, m_43, m_44, m_45, m_46, m_47, m_48, m_49, m_50, m_51, m_52, m_53, m_54, m_55, m_56, m_57, m_58, m_59]), (cc_l w0 (K 0) 5500 fw), (cc_rl e0 (K 2) 13 fe), (cc_rl q0 (K 2) 400 frs)] s.heap := hP
  have hl := lv_entry [.ref m0, .int x] (n := 2) (Nat.le_of_ble_eq_true rfl)
  rw [lg_entry_eq]
  generalize (lg_sl [.ref m0, .int x] ++ List.replicate (2 - (lg_sl [.ref m0, .int x]).length) Slot.unset).toArray = ls at hl ⊢
  have hl : lv_has ls 2 [(0, .ref m0), (1, .int x)] := hl
  have hw12 : ∀ w ∈ wsX120, w ∈ wsX12_canStoke := fun w h => (List.mem_cons_of_mem _ (List.mem_append_right _ h))
  generalize hQ : MQ below _ _ s _ _ _ = Q
  have hE := E_v_canStoke.eq_def x lw bro val sm fw fe frs
  refine lv_aload_n hx hb dX12_canStoke_0 rfl (lv_at hl 0 rfl) (va_get (ci := 12) (v := .ref w0) (C := RX12) (T := TX12) (N := 60) hx hb hts hw12 hown hK hP 0 rfl rfl 3 (by decide +kernel) (hts _ mm_X12_canStoke_833) (fun _ h9 => h9) rfl dX12_canStoke_1 (lv_bipush (v := 19) hx hb dX12_canStoke_4 (by decide +kernel) (lv_iload_n hx hb dX12_canStoke_6 rfl (lv_at hl 1 rfl) (lv_iadd hx hb dX12_canStoke_7 (lv_topi (fun x_107 ex_107 => ?_))))))
  replace hE := hE.trans (Lt_in ex_107)
  have hx_107 : x_107.toInt = (19 + x.toInt) := by rw [ex_107]; exact i_add (show (19 : Int32).toInt = 19 from rfl) rfl (by omega)
  refine va_iald hx hb hK hP 1 0 rfl rfl (i_in hx_107 (by omega)) dX12_canStoke_8 (lv_topi (fun x_108 ex_108 => ?_))
  replace hE := hE.trans (Lt_in ex_108)
  have px_108 := RwOK.at zfw hx_107 (show 0 ≤ (19 + x.toInt) ∧ (19 + x.toInt) < 100 by omega)
  rw [← ex_108] at px_108
  have j_122 : ∀ (v_116 : Int32) (v_117 : Int32) (v_118 : Int64) (v_119 : Int64) (f_120 : Nat → Int64) (f_121 : Nat → Int64) (hv_117 : 0 ≤ v_117.toInt ∧ v_117.toInt ≤ 1) (hE : E_v_canStoke x lw bro val sm fw fe frs = E_v_canStoke_j24 v_116 v_117 v_118 v_119 f_120 f_121) (H : Heap) (locs : List Loc) (hP : va_P D vwCl [(cc_O m0 12 [m_0, m_1, m_2, .ref w0, m_4, m_5, m_6, m_7, m_8, m_9, m_10, m_11, m_12, m_13, m_14, m_15, m_16, m_17, m_18, m_19, .int 0, m_21, m_22, m_23, m_24, m_25, m_26, m_27, m_28, m_29, m_30, m_31, m_32, m_33, .int v_116, .ref e0, m_36, .ref q0, .int v_117, .long v_118, .long v_119, m_41, m_42, m_43, m_44, m_45, m_46, m_47, m_48, m_49, m_50, m_51, m_52, m_53, m_54, m_55, m_56, m_57, m_58, m_59]), (cc_l w0 (K 0) 5500 fw), (cc_rl e0 (K 2) 13 f_120), (cc_rl q0 (K 2) 400 f_121)] H) (hD : va_D A [(cc_O m0 12 [m_0, m_1, m_2, .ref w0, m_4, m_5, m_6, m_7, m_8, m_9, m_10, m_11, m_12, m_13, m_14, m_15, m_16, m_17, m_18, m_19, .int 0, m_21, m_22, m_23, m_24, m_25, m_26, m_27, m_28, m_29, m_30, m_31, m_32, m_33, .int v_116, .ref e0, m_36, .ref q0, .int v_117, .long v_118, .long v_119, m_41, m_42, m_43, m_44, m_45, m_46, m_47, m_48, m_49, m_50, m_51, m_52, m_53, m_54, m_55, m_56, m_57, m_58, m_59]), (cc_l w0 (K 0) 5500 fw), (cc_rl e0 (K 2) 13 f_120), (cc_rl q0 (K 2) 400 f_121)]) (hS : va_S A s.heap H locs) (ls : Array Slot) (hl : lv_has ls 2 []), W p l e ({ frames := 5, cells := 0, slots := 0, locals := 123 }) s m (([.ref m0, .int x] : List Value).toArray) below meth c H locs 0 0 Q (F0 m 24 ls []) := by
    clear hE hP hD hS hl
    intro v_116 v_117 v_118 v_119 f_120 f_121 hv_117 hE H locs hP hD hS ls hl
    replace hE := hE.trans (E_v_canStoke_j24.eq_def _ _ _ _ _ _)
    refine lv_iconst (v := 0) hx hb dX12_canStoke_24 (by decide +kernel) ?_
    rw [← hQ]
    have hP9 := hP.sub (ws' := [(cc_O m0 12 [m_0, m_1, m_2, .ref w0, m_4, m_5, m_6, m_7, m_8, m_9, m_10, m_11, m_12, m_13, m_14, m_15, m_16, m_17, m_18, m_19, .int 0, m_21, m_22, m_23, m_24, m_25, m_26, m_27, m_28, m_29, m_30, m_31, m_32, m_33, .int v_116, .ref e0, m_36, .ref q0, .int v_117, .long v_118, .long v_119, m_41, m_42, m_43, m_44, m_45, m_46, m_47, m_48, m_49, m_50, m_51, m_52, m_53, m_54, m_55, m_56, m_57, m_58, m_59]), (cc_l w0 (K 0) 5500 fw), (cc_rl e0 (K 2) 13 f_120), (cc_rl q0 (K 2) 400 f_121)]) [0, 1, 2, 3] rfl
    have hD9 := sub_D hP9 hD [0, 1, 2, 3] (by decide +kernel) rfl
    exact W.zret (v := 0) hx hb hr (by decide +kernel) (fun t ht hW => ⟨⟨0, ((fun _ => 0, fun _ => fun _ => 0, fun i => match i with | 0 => f_120 | _ => f_121, fun i => match i with | 0 => v_116 | _ => v_117, fun i => match i with | 0 => v_118 | _ => v_119, fun _ => fun _ => none) : Su), rfl, ⟨(show 0 ≤ (0 : Int32).toInt ∧ (0 : Int32).toInt ≤ 1 by decide), (show 0 ≤ (v_117 : Int32).toInt ∧ (v_117 : Int32).toInt ≤ 1 by omega), hE.symm, trivial⟩, (⟨by rw [ht]; exact hP9, hD9⟩ : Wd D A _ t)⟩, hS.F ht⟩) hS.2.2 dX12_canStoke_25
  refine lv_if_le (tgt := 24) hx hb dX12_canStoke_9 (by decide +kernel) (fun c_123 => ?_) (fun c_123 => ?_)
  · have c_123i := i_le (x := x_108.toInt) (y := 0) rfl rfl c_123
    replace hE := hE.trans (if_pos c_123)
    exact j_122 lw bro val sm fe frs (by omega) hE _ _ hP hD hS ls (lv_sub hl [] rfl)
  · have c_123i := i_nle (x := x_108.toInt) (y := 0) rfl rfl c_123
    replace hE := hE.trans (if_neg c_123)
    refine lv_aload_n hx hb dX12_canStoke_12 rfl (lv_at hl 0 rfl) (lv_iload_n hx hb dX12_canStoke_13 rfl (lv_at hl 1 rfl) (kci (S := Su) (wr := []) (va_runV (As := [.int x]) (rest := []) ⟨hx, hb, hml, hown, hts⟩ (v_isBarred l D K m0 x m_0 m_1 m_2 w0 m_4 m_5 m_6 m_7 m_8 m_9 m_10 m_11 m_12 m_13 m_14 m_15 m_16 m_17 m_18 m_19 m_21 m_22 m_23 m_24 m_25 m_26 m_27 m_28 m_29 m_30 m_31 m_32 m_33 lw e0 m_36 q0 bro val sm m_41 m_42 m_43 m_44 m_45 m_46 m_47 m_48 m_49 m_50 m_51 m_52 m_53 m_54 m_55 m_56 m_57 m_58 m_59 fw gr fe frs s.heap.size (by first | omega | decide) (by first | omega | decide) zfw zgr) (cwV 1 hts gX12_canStoke_X12_isBarred rfl rfl rfl (by decide +kernel) ⟨Nat.le_of_ble_eq_true rfl, Nat.le_of_ble_eq_true rfl⟩) (mkV hK hN (hP.sub [0, 1, 2, 3] rfl) (hD.sub [0, 1, 2, 3] (by decide +kernel) rfl) (ci := 12) (q0 := 0) rfl rfl) rfl rfl hl.1 rfl (lv_room (Nat.le_of_ble_eq_true rfl)) dX12_canStoke_14 ⟨Nat.le_of_ble_eq_true rfl, Nat.le_of_ble_eq_true rfl⟩) hP hD hS hA [0, 1, 2, 3] [] rfl rfl (by decide +kernel) (by decide +kernel) (fun r_124 u_125 H locs hw hP0 hD0 hS0 => ?_)))
    replace hP : va_P D vwCl [(cc_O m0 12 [m_0, m_1, m_2, .ref w0, m_4, m_5, m_6, m_7, m_8, m_9, m_10, m_11, m_12, m_13, m_14, m_15, m_16, m_17, m_18, m_19, .int 0, m_21, m_22, m_23, m_24, m_25, m_26, m_27, m_28, m_29, m_30, m_31, m_32, m_33, .int (u_125.2.2.2.1 0), .ref e0, m_36, .ref q0, .int (u_125.2.2.2.1 1), .long (u_125.2.2.2.2.1 0), .long (u_125.2.2.2.2.1 1), m_41, m_42, m_43, m_44, m_45, m_46, m_47, m_48, m_49, m_50, m_51, m_52, m_53, m_54, m_55, m_56, m_57, m_58, m_59]), (cc_l w0 (K 0) 5500 fw), (cc_rl e0 (K 2) 13 (u_125.2.2.1 0)), (cc_rl q0 (K 2) 400 (u_125.2.2.1 1))] H := hP0
    replace hD := as_D hP hD0 rfl
    replace hS := hS0
    clear hP0 hD0 hS0
    obtain ⟨h_128, k_126, k_127, -⟩ := hw
    replace hE := (((((hE.trans (Lt2_in k_127)).trans (Lt2_in rfl)).trans (Lt2_in rfl)).trans (Lt2_in rfl)).trans (Lt2_in rfl)).trans (Lt2_in rfl)
    refine lv_if_ne (tgt := 24) hx hb dX12_canStoke_17 (by decide +kernel) (fun c_129 => ?_) (fun c_129 => ?_)
    · have c_129i := i_ne (x := r_124.toInt) (y := 0) rfl rfl c_129
      replace hE := hE.trans (if_neg c_129)
      exact j_122 (u_125.2.2.2.1 0) (u_125.2.2.2.1 1) (u_125.2.2.2.2.1 0) (u_125.2.2.2.2.1 1) (u_125.2.2.1 0) (u_125.2.2.1 1) (by omega) hE _ _ hP hD hS ls (lv_sub hl [] rfl)
    · have c_129i := i_eq (x := r_124.toInt) (y := 0) rfl rfl c_129
      replace hE := hE.trans (if_pos c_129)
      refine lv_iconst (v := 1) hx hb dX12_canStoke_20 (by decide +kernel) (lv_goto (tgt := 25) hx hb dX12_canStoke_21 (by decide +kernel) ?_)
      rw [← hQ]
      have hP9 := hP.sub (ws' := [(cc_O m0 12 [m_0, m_1, m_2, .ref w0, m_4, m_5, m_6, m_7, m_8, m_9, m_10, m_11, m_12, m_13, m_14, m_15, m_16, m_17, m_18, m_19, .int 0, m_21, m_22, m_23, m_24, m_25, m_26, m_27, m_28, m_29, m_30, m_31, m_32, m_33, .int (u_125.2.2.2.1 0), .ref e0, m_36, .ref q0, .int (u_125.2.2.2.1 1), .long (u_125.2.2.2.2.1 0), .long (u_125.2.2.2.2.1 1), m_41, m_42, m_43, m_44, m_45, m_46, m_47, m_48, m_49, m_50, m_51, m_52, m_53, m_54, m_55, m_56, m_57, m_58, m_59]), (cc_l w0 (K 0) 5500 fw), (cc_rl e0 (K 2) 13 (u_125.2.2.1 0)), (cc_rl q0 (K 2) 400 (u_125.2.2.1 1))]) [0, 1, 2, 3] rfl
      have hD9 := sub_D hP9 hD [0, 1, 2, 3] (by decide +kernel) rfl
      exact W.zret (v := 1) hx hb hr (by decide +kernel) (fun t ht hW => ⟨⟨1, ((fun _ => 0, fun _ => fun _ => 0, fun i => match i with | 0 => (u_125.2.2.1 0) | _ => (u_125.2.2.1 1), fun i => match i with | 0 => (u_125.2.2.2.1 0) | _ => (u_125.2.2.2.1 1), fun i => match i with | 0 => (u_125.2.2.2.2.1 0) | _ => (u_125.2.2.2.2.1 1), fun _ => fun _ => none) : Su), rfl, ⟨(show 0 ≤ (1 : Int32).toInt ∧ (1 : Int32).toInt ≤ 1 by decide), (show 0 ≤ ((u_125.2.2.2.1 1) : Int32).toInt ∧ ((u_125.2.2.2.1 1) : Int32).toInt ≤ 1 by omega), hE.symm, trivial⟩, (⟨by rw [ht]; exact hP9, hD9⟩ : Wd D A _ t)⟩, hS.F ht⟩) hS.2.2 dX12_canStoke_25
set_option maxRecDepth 100000 in
noncomputable def E_v_stokeIt (x : Int32) (lw : Int32) (bro : Int32) (val : Int64) (sm : Int64) (fw : Nat → Int32) (fe : Nat → Int64) (frs : Nat → Int64) : Int32 × Int32 × Int64 × Int64 × (Nat → Int32) × (Nat → Int64) × (Nat → Int64) :=
  Lt (fw (3 : Int32).toNatClampNeg : Int32) (fun x_83 => Lt2 (E_v_flare x_83 x lw bro val sm fw fe frs) (fun u_85_2_2_2_1_0 q0_u_85_2_2_2_1_0 => Lt2 q0_u_85_2_2_2_1_0 (fun u_85_2_2_2_1_1 q1_u_85_2_2_2_1_1 => Lt2 q1_u_85_2_2_2_1_1 (fun u_85_2_2_2_2_1_0 q2_u_85_2_2_2_2_1_0 => Lt2 q2_u_85_2_2_2_2_1_0 (fun u_85_2_2_2_2_1_1 q3_u_85_2_2_2_2_1_1 => Lt2 q3_u_85_2_2_2_2_1_1 (fun u_85_2_1_0 q4_u_85_2_1_0 => Lt2 q4_u_85_2_1_0 (fun u_85_2_2_1_0 u_85_2_2_1_1 => Lt (19 + x : Int32) (fun x_90 => Lt (u_85_2_1_0 (x_90 : Int32).toNatClampNeg : Int32) (fun x_91 => Lt (x_91 - 1 : Int32) (fun x_92 => Lt (upd u_85_2_1_0 (x_90 : Int32).toNatClampNeg x_92 : Nat → Int32) (fun f_93 => ((u_85_2_2_2_1_0, u_85_2_2_2_1_1, u_85_2_2_2_2_1_0, u_85_2_2_2_2_1_1, f_93, u_85_2_2_1_0, u_85_2_2_1_1) : Int32 × Int32 × Int64 × Int64 × (Nat → Int32) × (Nat → Int64) × (Nat → Int64)))))))))))))
set_option maxHeartbeats 4000000 in
set_option maxRecDepth 100000 in
theorem v_stokeIt (l : Launch) (D : va_G) (K : Nat → ClassId) (m0 : Nat) (x : Int32) (m_0 : Value) (m_1 : Value) (m_2 : Value) (w0 : Nat) (m_4 : Value) (m_5 : Value) (m_6 : Value) (m_7 : Value) (m_8 : Value) (m_9 : Value) (m_10 : Value) (m_11 : Value) (m_12 : Value) (m_13 : Value) (m_14 : Value) (m_15 : Value) (m_16 : Value) (m_17 : Value) (m_18 : Value) (m_19 : Value) (m_21 : Value) (m_22 : Value) (m_23 : Value) (m_24 : Value) (m_25 : Value) (m_26 : Value) (m_27 : Value) (m_28 : Value) (m_29 : Value) (m_30 : Value) (m_31 : Value) (m_32 : Value) (m_33 : Value) (lw : Int32) (e0 : Nat) (m_36 : Value) (q0 : Nat) (bro : Int32) (val : Int64) (sm : Int64) (m_41 : Value) (m_42 : Value) (m_43 : Value) (m_44 : Value) (m_45 : Value) (m_46 : Value) (m_47 : Value) (m_48 : Value) (m_49 : Value) (m_50 : Value) (m_51 : Value) (m_52 : Value) (m_53 : Value) (m_54 : Value) (m_55 : Value) (m_56 : Value) (m_57 : Value) (m_58 : Value) (m_59 : Value) (fw : Nat → Int32) (gr : Nat → Int32) (fe : Nat → Int64) (frs : Nat → Int64) (sz : Nat) (zbro : 0 ≤ bro.toInt ∧ bro.toInt ≤ 1) (zx : 0 ≤ x.toInt ∧ x.toInt ≤ 7) (zfw : RwOK fw) (zgr : FzM gr fw) : Met l yX12_stokeIt wsX12_stokeIt ({ frames := 6, cells := 0, slots := 0, locals := 146 }) (va_Pc [.ref m0, .int x] (Pre D K [(cc_O m0 12 [m_0, m_1, m_2, .ref w0, m_4, m_5, m_6, m_7, m_8, m_9, m_10, m_11, m_12, m_13, m_14, m_15, m_16, m_17, m_18, m_19, .int 0, m_21, m_22, m_23, m_24, m_25, m_26, m_27, m_28, m_29, m_30, m_31, m_32, m_33, .int lw, .ref e0, m_36, .ref q0, .int bro, .long val, .long sm, m_41, m_42, m_43, m_44, m_45, m_46, m_47, m_48, m_49, m_50, m_51, m_52, m_53, m_54, m_55, m_56, m_57, m_58, m_59]), (cc_l w0 (K 0) 5500 fw), (cc_rl e0 (K 2) 13 fe), (cc_rl q0 (K 2) 400 frs)] sz)) (va_Qv (S := Su) (fun (u : Su) => (0 ≤ (u.2.2.2.1 1).toInt ∧ (u.2.2.2.1 1).toInt ≤ 1) ∧ (RwOK (u.2.1 0)) ∧ (FzM gr (u.2.1 0)) ∧ (((u.2.2.2.1 0), (u.2.2.2.1 1), (u.2.2.2.2.1 0), (u.2.2.2.2.1 1), (u.2.1 0), (u.2.2.1 0), (u.2.2.1 1)) = E_v_stokeIt x lw bro val sm fw fe frs) ∧ True) (fun u t => Wd D (va_A [(cc_O m0 12 [m_0, m_1, m_2, .ref w0, m_4, m_5, m_6, m_7, m_8, m_9, m_10, m_11, m_12, m_13, m_14, m_15, m_16, m_17, m_18, m_19, .int 0, m_21, m_22, m_23, m_24, m_25, m_26, m_27, m_28, m_29, m_30, m_31, m_32, m_33, .int lw, .ref e0, m_36, .ref q0, .int bro, .long val, .long sm, m_41, m_42, m_43, m_44, m_45, m_46, m_47, m_48, m_49, m_50, m_51, m_52, m_53, m_54, m_55, m_56, m_57, m_58, m_59]), (cc_l w0 (K 0) 5500 fw), (cc_rl e0 (K 2) 13 fe), (cc_rl q0 (K 2) 400 frs)] sz) ((fun u => [(cc_O m0 12 [m_0, m_1, m_2, .ref w0, m_4, m_5, m_6, m_7, m_8, m_9, m_10, m_11, m_12, m_13, m_14, m_15, m_16, m_17, m_18, m_19, .int 0, m_21, m_22, m_23, m_24, m_25, m_26, m_27, m_28, m_29, m_30, m_31, m_32, m_33, .int (u.2.2.2.1 0), .ref e0, m_36, .ref q0, .int (u.2.2.2.1 1), .long (u.2.2.2.2.1 0), .long (u.2.2.2.2.1 1), m_41, m_42, m_43, m_44, m_45, m_46, m_47, m_48, m_49, m_50, m_51, m_52, m_53, m_54, m_55, m_56, m_57, m_58, m_59]), (cc_l w0 (K 0) 5500 (u.2.1 0)), (cc_rl e0 (K 2) 13 (u.2.2.1 0)), (cc_rl q0 (K 2) 400 (u.2.2.1 1))]) u) t) (va_A [(cc_O m0 12 [m_0, m_1, m_2, .ref w0, m_4, m_5, m_6, m_7, m_8, m_9, m_10, m_11, m_12, m_13, m_14, m_15, m_16, m_17, m_18, m_19, .int 0, m_21, m_22, m_23, m_24, m_25, m_26, m_27, m_28, m_29, m_30, m_31, m_32, m_33, .int lw, .ref e0, m_36, .ref q0, .int bro, .long val, .long sm, m_41, m_42, m_43, m_44, m_45, m_46, m_47, m_48, m_49, m_50, m_51, m_52, m_53, m_54, m_55, m_56, m_57, m_58, m_59]), (cc_l w0 (K 0) 5500 fw), (cc_rl e0 (K 2) 13 fe), (cc_rl q0 (K 2) 400 frs)] sz)) 0 0 (va_A [(cc_O m0 12 [m_0, m_1, m_2, .ref w0, m_4, m_5, m_6, m_7, m_8, m_9, m_10, m_11, m_12, m_13, m_14, m_15, m_16, m_17, m_18, m_19, .int 0, m_21, m_22, m_23, m_24, m_25, m_26, m_27, m_28, m_29, m_30, m_31, m_32, m_33, .int lw, .ref e0, m_36, .ref q0, .int bro, .long val, .long sm, m_41, m_42, m_43, m_44, m_45, m_46, m_47, m_48, m_49, m_50, m_51, m_52, m_53, m_54, m_55, m_56, m_57, m_58, m_59]), (cc_l w0 (K 0) 5500 fw), (cc_rl e0 (K 2) 13 fe), (cc_rl q0 (K 2) 400 frs)] sz) := by
  refine Met.ofW (cc := cX12_stokeIt) (maxL := 2) (ret := none) (by decide +kernel) rfl ?_
  intro p e s m args below meth c s₁ B hml hv
  obtain ⟨rfl, hsz, hP, hK, hD0, hN⟩ := hv
  have hx := B.exec
  have hb := B.bytes
  have hr := B.returns
  have hts := atoms_spec (ws := wsX12_stokeIt) B.pre
  have hown : s.vm.findClass RX12 = some m.cls := findClass_of_methodNamed B.named
  have hlocks := B.notSynchronized
  subst hsz
  have hD := hD0.self (sz := s.heap.size)
  generalize hAe : va_A [(cc_O m0 12 [m_0, m_1, m_2, .ref w0, m_4, m_5, m_6, m_7, m_8, m_9, m_10, m_11, m_12, m_13, m_14, m_15, m_16, m_17, m_18, m_19, .int 0, m_21, m_22, m_23, m_24, m_25, m_26, m_27, m_28, m_29, m_30, m_31, m_32, m_33, .int lw, .ref e0, m_36, .ref q0, .int bro, .long val, .long sm, m_41, m_42, m_43, m_44, m_45, m_46, m_47, m_48, m_49, m_50, m_51, m_52, m_53, m_54, m_55, m_56, m_57, m_58, m_59]), (cc_l w0 (K 0) 5500 fw), (cc_rl e0 (K 2) 13 fe), (cc_rl q0 (K 2) 400 frs)] s.heap.size = A at hD ⊢
  have hA : ∀ q : Nat, s.heap.size ≤ q → A q := fun q h => by rw [← hAe]; exact Or.inr h
  clear hAe
  have hS : va_S A s.heap s.heap [] := va_S.rf
  replace hP : va_P D vwCl [(cc_O m0 12 [m_0, m_1, m_2, .ref w0, m_4, m_5, m_6, m_7, m_8, m_9, m_10, m_11, m_12, m_13, m_14, m_15, m_16, m_17, m_18, m_19, .int 0, m_21, m_22, m_23, m_24, m_25, m_26, m_27, m_28, m_29, m_30, m_31, m_32, m_33, .int lw, .ref e0, m_36, .ref q0, .int bro, .long val, .long sm, m_41, m_42, m_43, m_44, m_45, m_46, m_47, m_48, m_49, m_50, m_51, m_52, m_53, m_54, m_55, m_56, m_57, m_58, m_59]), (cc_l w0 (K 0) 5500 fw), (cc_rl e0 (K 2) 13 fe), (cc_rl q0 (K 2) 400 frs)] s.heap := hP
  have hl := lv_entry [.ref m0, .int x] (n := 2) (Nat.le_of_ble_eq_true rfl)
  rw [lg_entry_eq]
  generalize (lg_sl [.ref m0, .int x] ++ List.replicate (2 - (lg_sl [.ref m0, .int x]).length) Slot.unset).toArray = ls at hl ⊢
  have hl : lv_has ls 2 [(0, .ref m0), (1, .int x)] := hl
  have hw12 : ∀ w ∈ wsX120, w ∈ wsX12_stokeIt := fun w h => (List.mem_cons_of_mem _ (List.mem_append_right _ h))
  generalize hQ : MQ below _ _ s _ _ _ = Q
  have hE := E_v_stokeIt.eq_def x lw bro val sm fw fe frs
  refine lv_aload_n hx hb dX12_stokeIt_0 rfl (lv_at hl 0 rfl) (lv_aload_n hx hb dX12_stokeIt_1 rfl (lv_at hl 0 rfl) (va_get (ci := 12) (v := .ref w0) (C := RX12) (T := TX12) (N := 60) hx hb hts hw12 hown hK hP 0 rfl rfl 3 (by decide +kernel) (hts _ mm_X12_stokeIt_833) (fun _ h9 => h9) rfl dX12_stokeIt_2 (lv_iconst (v := 3) hx hb dX12_stokeIt_5 (by decide +kernel) (va_iald hx hb hK hP 1 0 rfl rfl (i_in (x := 3) rfl (by omega)) dX12_stokeIt_6 (lv_topi (fun x_83 ex_83 => ?_))))))
  replace hE := hE.trans (Lt_in ex_83)
  have px_83 := RwOK.at zfw (show (3 : Int32).toInt = 3 from rfl) (show 0 ≤ 3 ∧ 3 < 100 by omega)
  rw [← ex_83] at px_83
  have hx_83 := PR.r_3 px_83 (by omega)
  refine lv_iload_n hx hb dX12_stokeIt_7 rfl (lv_at hl 1 rfl) (kcv (S := Su) (wr := []) (va_runV (As := [.int x_83, .int x]) (rest := []) ⟨hx, hb, hml, hown, hts⟩ (v_flare l D K m0 x_83 x m_0 m_1 m_2 w0 m_4 m_5 m_6 m_7 m_8 m_9 m_10 m_11 m_12 m_13 m_14 m_15 m_16 m_17 m_18 m_19 m_21 m_22 m_23 m_24 m_25 m_26 m_27 m_28 m_29 m_30 m_31 m_32 m_33 lw e0 m_36 q0 bro val sm m_41 m_42 m_43 m_44 m_45 m_46 m_47 m_48 m_49 m_50 m_51 m_52 m_53 m_54 m_55 m_56 m_57 m_58 m_59 fw gr fe frs s.heap.size (by first | omega | decide) (by first | omega | decide) (by first | omega | decide) zfw zgr) (cwV 2 hts gX12_stokeIt_X12_flare rfl rfl rfl (by decide +kernel) ⟨Nat.le_of_ble_eq_true rfl, Nat.le_of_ble_eq_true rfl⟩) (mkV hK hN (hP.sub [0, 1, 2, 3] rfl) (hD.sub [0, 1, 2, 3] (by decide +kernel) rfl) (ci := 12) (q0 := 0) rfl rfl) rfl rfl hl.1 rfl (lv_room (Nat.le_of_ble_eq_true rfl)) dX12_stokeIt_8 ⟨Nat.le_of_ble_eq_true rfl, Nat.le_of_ble_eq_true rfl⟩) hP hD hS hA [0, 1, 2, 3] [] rfl rfl (by decide +kernel) (by decide +kernel) (fun u_85 H locs hw hP0 hD0 hS0 => ?_))
  replace hP : va_P D vwCl [(cc_O m0 12 [m_0, m_1, m_2, .ref w0, m_4, m_5, m_6, m_7, m_8, m_9, m_10, m_11, m_12, m_13, m_14, m_15, m_16, m_17, m_18, m_19, .int 0, m_21, m_22, m_23, m_24, m_25, m_26, m_27, m_28, m_29, m_30, m_31, m_32, m_33, .int (u_85.2.2.2.1 0), .ref e0, m_36, .ref q0, .int (u_85.2.2.2.1 1), .long (u_85.2.2.2.2.1 0), .long (u_85.2.2.2.2.1 1), m_41, m_42, m_43, m_44, m_45, m_46, m_47, m_48, m_49, m_50, m_51, m_52, m_53, m_54, m_55, m_56, m_57, m_58, m_59]), (cc_l w0 (K 0) 5500 (u_85.2.1 0)), (cc_rl e0 (K 2) 13 (u_85.2.2.1 0)), (cc_rl q0 (K 2) 400 (u_85.2.2.1 1))] H := hP0
  replace hD := as_D hP hD0 rfl
  replace hS := hS0
  clear hP0 hD0 hS0
  obtain ⟨k_86, k_87, k_88, k_89, -⟩ := hw
  replace hE := (((((hE.trans (Lt2_in k_89)).trans (Lt2_in rfl)).trans (Lt2_in rfl)).trans (Lt2_in rfl)).trans (Lt2_in rfl)).trans (Lt2_in rfl)
  refine lv_aload_n hx hb dX12_stokeIt_11 rfl (lv_at hl 0 rfl) (va_get (ci := 12) (v := .ref w0) (C := RX12) (T := TX12) (N := 60) hx hb hts hw12 hown hK hP 0 rfl rfl 3 (by decide +kernel) (hts _ mm_X12_stokeIt_833) (fun _ h9 => h9) rfl dX12_stokeIt_12 (lv_bipush (v := 19) hx hb dX12_stokeIt_15 (by decide +kernel) (lv_iload_n hx hb dX12_stokeIt_17 rfl (lv_at hl 1 rfl) (lv_iadd hx hb dX12_stokeIt_18 (lv_topi (fun x_90 ex_90 => ?_))))))
  replace hE := hE.trans (Lt_in ex_90)
  have hx_90 : x_90.toInt = (19 + x.toInt) := by rw [ex_90]; exact i_add (show (19 : Int32).toInt = 19 from rfl) rfl (by omega)
  refine lv_dup2_11 hx hb dX12_stokeIt_19 rfl rfl (va_iald hx hb hK hP 1 0 rfl rfl (i_in hx_90 (by omega)) dX12_stokeIt_20 (lv_topi (fun x_91 ex_91 => ?_)))
  replace hE := hE.trans (Lt_in ex_91)
  have px_91 := RwOK.at k_87 hx_90 (show 0 ≤ (19 + x.toInt) ∧ (19 + x.toInt) < 100 by omega)
  rw [← ex_91] at px_91
  refine lv_iconst (v := 1) hx hb dX12_stokeIt_21 (by decide +kernel) (lv_isub hx hb dX12_stokeIt_22 (lv_topi (fun x_92 ex_92 => ?_)))
  replace hE := hE.trans (Lt_in ex_92)
  refine va_iast hx hb hK hP hD hS 1 0 rfl rfl (i_in hx_90 (by omega)) dX12_stokeIt_23 (fun H locs hP0 hD0 hS0 => ?_)
  replace hP := hP0
  replace hD := hD0
  replace hS := hS0
  clear hP0 hD0 hS0
  generalize hf_93 : (upd (u_85.2.1 0) (x_90 : Int32).toNatClampNeg x_92) = f_93 at hP hD
  replace hE := hE.trans (Lt_in hf_93.symm)
  have hf_93_0 : RwOK f_93 := by rw [← hf_93]; exact RwOK.upd k_87 hx_90 (by omega) rfl (PR.free (by omega))
  have hf_93_1 : FzM gr f_93 := by rw [← hf_93]; exact FzM.put k_88 hx_90 (by omega)
  replace hP : va_P D vwCl [(cc_O m0 12 [m_0, m_1, m_2, .ref w0, m_4, m_5, m_6, m_7, m_8, m_9, m_10, m_11, m_12, m_13, m_14, m_15, m_16, m_17, m_18, m_19, .int 0, m_21, m_22, m_23, m_24, m_25, m_26, m_27, m_28, m_29, m_30, m_31, m_32, m_33, .int (u_85.2.2.2.1 0), .ref e0, m_36, .ref q0, .int (u_85.2.2.2.1 1), .long (u_85.2.2.2.2.1 0), .long (u_85.2.2.2.2.1 1), m_41, m_42, m_43, m_44, m_45, m_46, m_47, m_48, m_49, m_50, m_51, m_52, m_53, m_54, m_55, m_56, m_57, m_58, m_59]), (cc_l w0 (K 0) 5500 f_93), (cc_rl e0 (K 2) 13 (u_85.2.2.1 0)), (cc_rl q0 (K 2) 400 (u_85.2.2.1 1))] H := hP
  replace hD := as_D hP hD rfl
  rw [← hQ]
  have hP9 := hP.sub (ws' := [(cc_O m0 12 [m_0, m_1, m_2, .ref w0, m_4, m_5, m_6, m_7, m_8, m_9, m_10, m_11, m_12, m_13, m_14, m_15, m_16, m_17, m_18, m_19, .int 0, m_21, m_22, m_23, m_24, m_25, m_26, m_27, m_28, m_29, m_30, m_31, m_32, m_33, .int (u_85.2.2.2.1 0), .ref e0, m_36, .ref q0, .int (u_85.2.2.2.1 1), .long (u_85.2.2.2.2.1 0), .long (u_85.2.2.2.2.1 1), m_41, m_42, m_43, m_44, m_45, m_46, m_47, m_48, m_49, m_50, m_51, m_52, m_53, m_54, m_55, m_56, m_57, m_58, m_59]), (cc_l w0 (K 0) 5500 f_93), (cc_rl e0 (K 2) 13 (u_85.2.2.1 0)), (cc_rl q0 (K 2) 400 (u_85.2.2.1 1))]) [0, 1, 2, 3] rfl
  have hD9 := sub_D hP9 hD [0, 1, 2, 3] (by decide +kernel) rfl
  exact W.vret hx hb hr (fun t ht hW => ⟨⟨((fun _ => 0, fun i => match i with | _ => f_93, fun i => match i with | 0 => (u_85.2.2.1 0) | _ => (u_85.2.2.1 1), fun i => match i with | 0 => (u_85.2.2.2.1 0) | _ => (u_85.2.2.2.1 1), fun i => match i with | 0 => (u_85.2.2.2.2.1 0) | _ => (u_85.2.2.2.2.1 1), fun _ => fun _ => none) : Su), rfl, ⟨(show 0 ≤ ((u_85.2.2.2.1 1) : Int32).toInt ∧ ((u_85.2.2.2.1 1) : Int32).toInt ≤ 1 by omega), hf_93_0, hf_93_1, hE.symm, trivial⟩, (⟨by rw [ht]; exact hP9, hD9⟩ : Wd D A _ t)⟩, hS.F ht⟩) hS.2.2 dX12_stokeIt_24
set_option maxRecDepth 100000 in
noncomputable def E_v_stokeNow (x : Int32) (nu : Int32) (lw : Int32) (bro : Int32) (val : Int64) (sm : Int64) (fw : Nat → Int32) (fe : Nat → Int64) (frs : Nat → Int64) (fu : Nat → Int32) (fs : Nat → Int32) : Int32 × Int32 × Int32 × Int32 × Int64 × Int64 × (Nat → Int32) × (Nat → Int64) × (Nat → Int64) × (Nat → Int32) × (Nat → Int32) :=
  Lt (E_v_isHouse x fw) (fun r_113 => if r_113 = 1 then (Lt2 (E_v_canStoke x lw bro val sm fw fe frs) (fun r_118 q0_r_118 => Lt2 q0_r_118 (fun u_119_2_2_2_1_0 q1_u_119_2_2_2_1_0 => Lt2 q1_u_119_2_2_2_1_0 (fun u_119_2_2_2_1_1 q2_u_119_2_2_2_1_1 => Lt2 q2_u_119_2_2_2_1_1 (fun u_119_2_2_2_2_1_0 q3_u_119_2_2_2_2_1_0 => Lt2 q3_u_119_2_2_2_2_1_0 (fun u_119_2_2_2_2_1_1 q4_u_119_2_2_2_2_1_1 => Lt2 q4_u_119_2_2_2_2_1_1 (fun u_119_2_2_1_0 u_119_2_2_1_1 => if r_118 = 0 then ((((-3), nu, u_119_2_2_2_1_0, u_119_2_2_2_1_1, u_119_2_2_2_2_1_0, u_119_2_2_2_2_1_1, fw, u_119_2_2_1_0, u_119_2_2_1_1, fu, fs) : Int32 × Int32 × Int32 × Int32 × Int64 × Int64 × (Nat → Int32) × (Nat → Int64) × (Nat → Int64) × (Nat → Int32) × (Nat → Int32))) else (Lt2 (E_v_remember 0 nu fw fu fs) (fun u_125_2_2_2_1_0 q0_u_125_2_2_2_1_0 => Lt2 q0_u_125_2_2_2_1_0 (fun u_125_2_1_0 u_125_2_1_1 => Lt2 (E_v_stokeIt x u_119_2_2_2_1_0 u_119_2_2_2_1_1 u_119_2_2_2_2_1_0 u_119_2_2_2_2_1_1 fw u_119_2_2_1_0 u_119_2_2_1_1) (fun u_131_2_2_2_1_0 q0_u_131_2_2_2_1_0 => Lt2 q0_u_131_2_2_2_1_0 (fun u_131_2_2_2_1_1 q1_u_131_2_2_2_1_1 => Lt2 q1_u_131_2_2_2_1_1 (fun u_131_2_2_2_2_1_0 q2_u_131_2_2_2_2_1_0 => Lt2 q2_u_131_2_2_2_2_1_0 (fun u_131_2_2_2_2_1_1 q3_u_131_2_2_2_2_1_1 => Lt2 q3_u_131_2_2_2_2_1_1 (fun u_131_2_1_0 q4_u_131_2_1_0 => Lt2 q4_u_131_2_1_0 (fun u_131_2_2_1_0 u_131_2_2_1_1 => Lt (11 + x : Int32) (fun x_136 => Lt (u_131_2_1_0 (x_136 : Int32).toNatClampNeg : Int32) (fun x_137 => ((x_137, u_125_2_2_2_1_0, u_131_2_2_2_1_0, u_131_2_2_2_1_1, u_131_2_2_2_2_1_0, u_131_2_2_2_2_1_1, u_131_2_1_0, u_131_2_2_1_0, u_131_2_2_1_1, u_125_2_1_0, u_125_2_1_1) : Int32 × Int32 × Int32 × Int32 × Int64 × Int64 × (Nat → Int32) × (Nat → Int64) × (Nat → Int64) × (Nat → Int32) × (Nat → Int32)))))))))))))))))))) else ((((-2), nu, lw, bro, val, sm, fw, fe, frs, fu, fs) : Int32 × Int32 × Int32 × Int32 × Int64 × Int64 × (Nat → Int32) × (Nat → Int64) × (Nat → Int64) × (Nat → Int32) × (Nat → Int32))))
set_option maxHeartbeats 4000000 in
set_option maxRecDepth 100000 in
theorem v_stokeNow (l : Launch) (D : va_G) (K : Nat → ClassId) (m0 : Nat) (x : Int32) (m_0 : Value) (m_1 : Value) (m_2 : Value) (w0 : Nat) (m_4 : Value) (m_5 : Value) (u0 : Nat) (s0 : Nat) (nu : Int32) (m_9 : Value) (m_10 : Value) (m_11 : Value) (m_12 : Value) (m_13 : Value) (m_14 : Value) (m_15 : Value) (m_16 : Value) (m_17 : Value) (m_18 : Value) (m_19 : Value) (m_21 : Value) (m_22 : Value) (m_23 : Value) (m_24 : Value) (m_25 : Value) (m_26 : Value) (m_27 : Value) (m_28 : Value) (m_29 : Value) (m_30 : Value) (m_31 : Value) (m_32 : Value) (m_33 : Value) (lw : Int32) (e0 : Nat) (m_36 : Value) (q0 : Nat) (bro : Int32) (val : Int64) (sm : Int64) (m_41 : Value) (m_42 : Value) (m_43 : Value) (m_44 : Value) (m_45 : Value) (m_46 : Value) (m_47 : Value) (m_48 : Value) (m_49 : Value) (m_50 : Value) (m_51 : Value) (m_52 : Value) (m_53 : Value) (m_54 : Value) (m_55 : Value) (m_56 : Value) (m_57 : Value) (m_58 : Value) (m_59 : Value) (fw : Nat → Int32) (gr : Nat → Int32) (fe : Nat → Int64) (frs : Nat → Int64) (fu : Nat → Int32) (fs : Nat → Int32) (sz : Nat) (zbro : 0 ≤ bro.toInt ∧ bro.toInt ≤ 1) (znu : 0 ≤ nu.toInt ∧ nu.toInt ≤ 16) (zfw : RwOK fw) (zgr : FzM gr fw) (zfu : Pu 558 fu) (zfs : Rg 16 0 3 fs) : Met l yX12_stokeNow wsX12_stokeNow ({ frames := 7, cells := 0, slots := 0, locals := 167 }) (va_Pc [.ref m0, .int x] (Pre D K [(cc_O m0 12 [m_0, m_1, m_2, .ref w0, m_4, m_5, .ref u0, .ref s0, .int nu, m_9, m_10, m_11, m_12, m_13, m_14, m_15, m_16, m_17, m_18, m_19, .int 0, m_21, m_22, m_23, m_24, m_25, m_26, m_27, m_28, m_29, m_30, m_31, m_32, m_33, .int lw, .ref e0, m_36, .ref q0, .int bro, .long val, .long sm, m_41, m_42, m_43, m_44, m_45, m_46, m_47, m_48, m_49, m_50, m_51, m_52, m_53, m_54, m_55, m_56, m_57, m_58, m_59]), (cc_l w0 (K 0) 5500 fw), (cc_rl e0 (K 2) 13 fe), (cc_rl q0 (K 2) 400 frs), (cc_l u0 (K 0) 558 fu), (cc_l s0 (K 0) 16 fs)] sz)) (va_Qi (S := Su) (fun (r : Int32) (u : Su) => ((-3) ≤ r.toInt ∧ r.toInt ≤ 20) ∧ (0 ≤ (u.2.2.2.1 0).toInt ∧ (u.2.2.2.1 0).toInt ≤ 16) ∧ (0 ≤ (u.2.2.2.1 2).toInt ∧ (u.2.2.2.1 2).toInt ≤ 1) ∧ (RwOK (u.2.1 0)) ∧ (FzM gr (u.2.1 0)) ∧ (Pu 558 (u.2.1 1)) ∧ (Rg 16 0 3 (u.2.1 2)) ∧ ((r, (u.2.2.2.1 0), (u.2.2.2.1 1), (u.2.2.2.1 2), (u.2.2.2.2.1 0), (u.2.2.2.2.1 1), (u.2.1 0), (u.2.2.1 0), (u.2.2.1 1), (u.2.1 1), (u.2.1 2)) = E_v_stokeNow x nu lw bro val sm fw fe frs fu fs) ∧ True) (fun u t => Wd D (va_A [(cc_O m0 12 [m_0, m_1, m_2, .ref w0, m_4, m_5, .ref u0, .ref s0, .int nu, m_9, m_10, m_11, m_12, m_13, m_14, m_15, m_16, m_17, m_18, m_19, .int 0, m_21, m_22, m_23, m_24, m_25, m_26, m_27, m_28, m_29, m_30, m_31, m_32, m_33, .int lw, .ref e0, m_36, .ref q0, .int bro, .long val, .long sm, m_41, m_42, m_43, m_44, m_45, m_46, m_47, m_48, m_49, m_50, m_51, m_52, m_53, m_54, m_55, m_56, m_57, m_58, m_59]), (cc_l w0 (K 0) 5500 fw), (cc_rl e0 (K 2) 13 fe), (cc_rl q0 (K 2) 400 frs), (cc_l u0 (K 0) 558 fu), (cc_l s0 (K 0) 16 fs)] sz) ((fun u => [(cc_O m0 12 [m_0, m_1, m_2, .ref w0, m_4, m_5, .ref u0, .ref s0, .int (u.2.2.2.1 0), m_9, m_10, m_11, m_12, m_13, m_14, m_15, m_16, m_17, m_18, m_19, .int 0, m_21, m_22, m_23, m_24, m_25, m_26, m_27, m_28, m_29, m_30, m_31, m_32, m_33, .int (u.2.2.2.1 1), .ref e0, m_36, .ref q0, .int (u.2.2.2.1 2), .long (u.2.2.2.2.1 0), .long (u.2.2.2.2.1 1), m_41, m_42, m_43, m_44, m_45, m_46, m_47, m_48, m_49, m_50, m_51, m_52, m_53, m_54, m_55, m_56, m_57, m_58, m_59]), (cc_l w0 (K 0) 5500 (u.2.1 0)), (cc_rl e0 (K 2) 13 (u.2.2.1 0)), (cc_rl q0 (K 2) 400 (u.2.2.1 1)), (cc_l u0 (K 0) 558 (u.2.1 1)), (cc_l s0 (K 0) 16 (u.2.1 2))]) u) t) (va_A [(cc_O m0 12 [m_0, m_1, m_2, .ref w0, m_4, m_5, .ref u0, .ref s0, .int nu, m_9, m_10, m_11, m_12, m_13, m_14, m_15, m_16, m_17, m_18, m_19, .int 0, m_21, m_22, m_23, m_24, m_25, m_26, m_27, m_28, m_29, m_30, m_31, m_32, m_33, .int lw, .ref e0, m_36, .ref q0, .int bro, .long val, .long sm, m_41, m_42, m_43, m_44, m_45, m_46, m_47, m_48, m_49, m_50, m_51, m_52, m_53, m_54, m_55, m_56, m_57, m_58, m_59]), (cc_l w0 (K 0) 5500 fw), (cc_rl e0 (K 2) 13 fe), (cc_rl q0 (K 2) 400 frs), (cc_l u0 (K 0) 558 fu), (cc_l s0 (K 0) 16 fs)] sz)) 0 0 (va_A [(cc_O m0 12 [m_0, m_1, m_2, .ref w0, m_4, m_5, .ref u0, .ref s0, .int nu, m_9, m_10, m_11, m_12, m_13, m_14, m_15, m_16, m_17, m_18, m_19, .int 0, m_21, m_22, m_23, m_24, m_25, m_26, m_27, m_28, m_29, m_30, m_31, m_32, m_33, .int lw, .ref e0, m_36, .ref q0, .int bro, .long val, .long sm, m_41, m_42, m_43, m_44, m_45, m_46, m_47, m_48, m_49, m_50, m_51, m_52, m_53, m_54, m_55, m_56, m_57, m_58, m_59]), (cc_l w0 (K 0) 5500 fw), (cc_rl e0 (K 2) 13 fe), (cc_rl q0 (K 2) 400 frs), (cc_l u0 (K 0) 558 fu), (cc_l s0 (K 0) 16 fs)] sz) := by
  refine Met.ofW (cc := cX12_stokeNow) (maxL := 2) (ret := (some .int)) (by decide +kernel) rfl ?_
  intro p e s m args below meth c s₁ B hml hv
  obtain ⟨rfl, hsz, hP, hK, hD0, hN⟩ := hv
  have hx := B.exec
  have hb := B.bytes
  have hr := B.returns
  have hts := atoms_spec (ws := wsX12_stokeNow) B.pre
  have hown : s.vm.findClass RX12 = some m.cls := findClass_of_methodNamed B.named
  have hlocks := B.notSynchronized
  subst hsz
  have hD := hD0.self (sz := s.heap.size)
  generalize hAe : va_A [(cc_O m0 12 [m_0, m_1, m_2, .ref w0, m_4, m_5, .ref u0, .ref s0, .int nu, m_9, m_10, m_11, m_12, m_13, m_14, m_15, m_16, m_17, m_18, m_19, .int 0, m_21, m_22, m_23, m_24, m_25, m_26, m_27, m_28, m_29, m_30, m_31, m_32, m_33, .int lw, .ref e0, m_36, .ref q0, .int bro, .long val, .long sm, m_41, m_42, m_43, m_44, m_45, m_46, m_47, m_48, m_49, m_50, m_51, m_52, m_53, m_54, m_55, m_56, m_57, m_58, m_59]), (cc_l w0 (K 0) 5500 fw), (cc_rl e0 (K 2) 13 fe), (cc_rl q0 (K 2) 400 frs), (cc_l u0 (K 0) 558 fu), (cc_l s0 (K 0) 16 fs)] s.heap.size = A at hD ⊢
  have hA : ∀ q : Nat, s.heap.size ≤ q → A q := fun q h => by rw [← hAe]; exact Or.inr h
  clear hAe
  have hS : va_S A s.heap s.heap [] := va_S.rf
  replace hP : va_P D vwCl [(cc_O m0 12 [m_0, m_1, m_2, .ref w0, m_4, m_5, .ref u0, .ref s0, .int nu, m_9, m_10, m_11, m_12, m_13, m_14, m_15, m_16, m_17, m_18, m_19, .int 0, m_21, m_22, m_23, m_24, m_25, m_26, m_27, m_28, m_29, m_30, m_31, m_32, m_33, .int lw, .ref e0, m_36, .ref q0, .int bro, .long val, .long sm, m_41, m_42, m_43, m_44, m_45, m_46, m_47, m_48, m_49, m_50, m_51, m_52, m_53, m_54, m_55, m_56, m_57, m_58, m_59]), (cc_l w0 (K 0) 5500 fw), (cc_rl e0 (K 2) 13 fe), (cc_rl q0 (K 2) 400 frs), (cc_l u0 (K 0) 558 fu), (cc_l s0 (K 0) 16 fs)] s.heap := hP
  have hl := lv_entry [.ref m0, .int x] (n := 2) (Nat.le_of_ble_eq_true rfl)
  rw [lg_entry_eq]
  generalize (lg_sl [.ref m0, .int x] ++ List.replicate (2 - (lg_sl [.ref m0, .int x]).length) Slot.unset).toArray = ls at hl ⊢
  have hl : lv_has ls 2 [(0, .ref m0), (1, .int x)] := hl
  have hw12 : ∀ w ∈ wsX120, w ∈ wsX12_stokeNow := fun w h => (List.mem_cons_of_mem _ (List.mem_append_right _ h))
  generalize hQ : MQ below _ _ s _ _ _ = Q
  have hE := E_v_stokeNow.eq_def x nu lw bro val sm fw fe frs fu fs
  refine lv_aload_n hx hb dX12_stokeNow_0 rfl (lv_at hl 0 rfl) (lv_iload_n hx hb dX12_stokeNow_1 rfl (lv_at hl 1 rfl) (pci (va_runV (As := [.int x]) (rest := []) ⟨hx, hb, hml, hown, hts⟩ (v_isHouse l D K x.toInt m0 x m_0 m_1 m_2 w0 m_4 m_5 (.ref u0) (.ref s0) (.int nu) m_9 m_10 m_11 m_12 m_13 m_14 m_15 m_16 m_17 m_18 m_19 (.int 0) m_21 m_22 m_23 m_24 m_25 m_26 m_27 m_28 m_29 m_30 m_31 m_32 m_33 (.int lw) (.ref e0) m_36 (.ref q0) (.int bro) (.long val) (.long sm) m_41 m_42 m_43 m_44 m_45 m_46 m_47 m_48 m_49 m_50 m_51 m_52 m_53 m_54 m_55 m_56 m_57 m_58 m_59 fw s.heap.size rfl zfw) (cwV 1 hts gX12_stokeNow_X12_isHouse rfl rfl rfl (by decide +kernel) ⟨Nat.le_of_ble_eq_true rfl, Nat.le_of_ble_eq_true rfl⟩) (mkV hK hN (hP.sub [0, 1] rfl) (hD.sub [0, 1] (by decide +kernel) rfl) (ci := 12) (q0 := 0) rfl rfl) rfl rfl hl.1 rfl (lv_room (Nat.le_of_ble_eq_true rfl)) dX12_stokeNow_2 ⟨Nat.le_of_ble_eq_true rfl, Nat.le_of_ble_eq_true rfl⟩) (fun r_113 hw => ?_)))
  obtain ⟨hw, k_114, -⟩ := hw
  replace hE := hE.trans (Lt_in k_114)
  rcases hw with ⟨rfl, h_115, h_116⟩ | rfl
  · replace hE := (hE).trans (if_pos rfl)
    refine lv_if_ne (tgt := 11) hx hb dX12_stokeNow_5 (by decide +kernel) (fun c_117 => ?_) (fun c_117 => absurd c_117 (by decide +kernel))
    refine lv_aload_n hx hb dX12_stokeNow_11 rfl (lv_at hl 0 rfl) (lv_iload_n hx hb dX12_stokeNow_12 rfl (lv_at hl 1 rfl) (kci (S := Su) (wr := [(cc_l u0 (K 0) 558 fu), (cc_l s0 (K 0) 16 fs)]) (va_runV (As := [.int x]) (rest := []) ⟨hx, hb, hml, hown, hts⟩ (v_canStoke l D K m0 x m_0 m_1 m_2 w0 m_4 m_5 (.ref u0) (.ref s0) (.int nu) m_9 m_10 m_11 m_12 m_13 m_14 m_15 m_16 m_17 m_18 m_19 m_21 m_22 m_23 m_24 m_25 m_26 m_27 m_28 m_29 m_30 m_31 m_32 m_33 lw e0 m_36 q0 bro val sm m_41 m_42 m_43 m_44 m_45 m_46 m_47 m_48 m_49 m_50 m_51 m_52 m_53 m_54 m_55 m_56 m_57 m_58 m_59 fw gr fe frs s.heap.size (by first | omega | decide) (by first | omega | decide) zfw zgr) (cwV 1 hts gX12_stokeNow_X12_canStoke rfl rfl rfl (by decide +kernel) ⟨Nat.le_of_ble_eq_true rfl, Nat.le_of_ble_eq_true rfl⟩) (mkV hK hN (hP.sub [0, 1, 2, 3] rfl) (hD.sub [0, 1, 2, 3] (by decide +kernel) rfl) (ci := 12) (q0 := 0) rfl rfl) rfl rfl hl.1 rfl (lv_room (Nat.le_of_ble_eq_true rfl)) dX12_stokeNow_13 ⟨Nat.le_of_ble_eq_true rfl, Nat.le_of_ble_eq_true rfl⟩) hP hD hS hA [0, 1, 2, 3] [4, 5] rfl rfl (by decide +kernel) (by decide +kernel) (fun r_118 u_119 H locs hw hP0 hD0 hS0 => ?_)))
    replace hP : va_P D vwCl [(cc_l u0 (K 0) 558 fu), (cc_l s0 (K 0) 16 fs), (cc_O m0 12 [m_0, m_1, m_2, .ref w0, m_4, m_5, .ref u0, .ref s0, .int nu, m_9, m_10, m_11, m_12, m_13, m_14, m_15, m_16, m_17, m_18, m_19, .int 0, m_21, m_22, m_23, m_24, m_25, m_26, m_27, m_28, m_29, m_30, m_31, m_32, m_33, .int (u_119.2.2.2.1 0), .ref e0, m_36, .ref q0, .int (u_119.2.2.2.1 1), .long (u_119.2.2.2.2.1 0), .long (u_119.2.2.2.2.1 1), m_41, m_42, m_43, m_44, m_45, m_46, m_47, m_48, m_49, m_50, m_51, m_52, m_53, m_54, m_55, m_56, m_57, m_58, m_59]), (cc_l w0 (K 0) 5500 fw), (cc_rl e0 (K 2) 13 (u_119.2.2.1 0)), (cc_rl q0 (K 2) 400 (u_119.2.2.1 1))] H := hP0
    replace hD := as_D hP hD0 rfl
    replace hS := hS0
    clear hP0 hD0 hS0
    obtain ⟨h_122, k_120, k_121, -⟩ := hw
    replace hE := (((((hE.trans (Lt2_in k_121)).trans (Lt2_in rfl)).trans (Lt2_in rfl)).trans (Lt2_in rfl)).trans (Lt2_in rfl)).trans (Lt2_in rfl)
    refine lv_if_ne (tgt := 22) hx hb dX12_stokeNow_16 (by decide +kernel) (fun c_123 => ?_) (fun c_123 => ?_)
    · have c_123i := i_ne (x := r_118.toInt) (y := 0) rfl rfl c_123
      replace hE := hE.trans (if_neg c_123)
      refine lv_aload_n hx hb dX12_stokeNow_22 rfl (lv_at hl 0 rfl) (lv_iconst (v := 0) hx hb dX12_stokeNow_23 (by decide +kernel) (kcv (S := Su) (wr := [(cc_rl e0 (K 2) 13 (u_119.2.2.1 0)), (cc_rl q0 (K 2) 400 (u_119.2.2.1 1))]) (va_runV (As := [.int 0]) (rest := []) ⟨hx, hb, hml, hown, hts⟩ (v_remember l D K m0 0 m_0 m_1 m_2 w0 m_4 m_5 u0 s0 nu m_9 m_10 m_11 m_12 m_13 m_14 m_15 m_16 m_17 m_18 m_19 (.int 0) m_21 m_22 m_23 m_24 m_25 m_26 m_27 m_28 m_29 m_30 m_31 m_32 m_33 (.int (u_119.2.2.2.1 0)) (.ref e0) m_36 (.ref q0) (.int (u_119.2.2.2.1 1)) (.long (u_119.2.2.2.2.1 0)) (.long (u_119.2.2.2.2.1 1)) m_41 m_42 m_43 m_44 m_45 m_46 m_47 m_48 m_49 m_50 m_51 m_52 m_53 m_54 m_55 m_56 m_57 m_58 m_59 fw gr fu fs H.size (by first | omega | decide) (by first | omega | decide) zfw zgr zfu zfs) (cwV 1 hts gX12_stokeNow_X12_remember rfl rfl rfl (by decide +kernel) ⟨Nat.le_of_ble_eq_true rfl, Nat.le_of_ble_eq_true rfl⟩) (mkV hK hN (hP.sub [2, 3, 0, 1] rfl) (hD.sub [2, 3, 0, 1] (by decide +kernel) rfl) (ci := 12) (q0 := 0) rfl rfl) rfl rfl hl.1 rfl (lv_room (Nat.le_of_ble_eq_true rfl)) dX12_stokeNow_24 ⟨Nat.le_of_ble_eq_true rfl, Nat.le_of_ble_eq_true rfl⟩) hP hD hS hA [2, 3, 0, 1] [4, 5] rfl rfl (by decide +kernel) (by decide +kernel) (fun u_125 H locs hw hP0 hD0 hS0 => ?_)))
      replace hP : va_P D vwCl [(cc_rl e0 (K 2) 13 (u_119.2.2.1 0)), (cc_rl q0 (K 2) 400 (u_119.2.2.1 1)), (cc_O m0 12 [m_0, m_1, m_2, .ref w0, m_4, m_5, .ref u0, .ref s0, .int (u_125.2.2.2.1 0), m_9, m_10, m_11, m_12, m_13, m_14, m_15, m_16, m_17, m_18, m_19, .int 0, m_21, m_22, m_23, m_24, m_25, m_26, m_27, m_28, m_29, m_30, m_31, m_32, m_33, .int (u_119.2.2.2.1 0), .ref e0, m_36, .ref q0, .int (u_119.2.2.2.1 1), .long (u_119.2.2.2.2.1 0), .long (u_119.2.2.2.2.1 1), m_41, m_42, m_43, m_44, m_45, m_46, m_47, m_48, m_49, m_50, m_51, m_52, m_53, m_54, m_55, m_56, m_57, m_58, m_59]), (cc_l w0 (K 0) 5500 fw), (cc_l u0 (K 0) 558 (u_125.2.1 0)), (cc_l s0 (K 0) 16 (u_125.2.1 1))] H := hP0
      replace hD := as_D hP hD0 rfl
      replace hS := hS0
      clear hP0 hD0 hS0
      obtain ⟨k_126, k_127, k_128, k_129, -⟩ := hw
      replace hE := (hE.trans (Lt2_in k_129)).trans (Lt2_in rfl)
      refine lv_aload_n hx hb dX12_stokeNow_27 rfl (lv_at hl 0 rfl) (lv_iload_n hx hb dX12_stokeNow_28 rfl (lv_at hl 1 rfl) (kcv (S := Su) (wr := [(cc_l u0 (K 0) 558 (u_125.2.1 0)), (cc_l s0 (K 0) 16 (u_125.2.1 1))]) (va_runV (As := [.int x]) (rest := []) ⟨hx, hb, hml, hown, hts⟩ (v_stokeIt l D K m0 x m_0 m_1 m_2 w0 m_4 m_5 (.ref u0) (.ref s0) (.int (u_125.2.2.2.1 0)) m_9 m_10 m_11 m_12 m_13 m_14 m_15 m_16 m_17 m_18 m_19 m_21 m_22 m_23 m_24 m_25 m_26 m_27 m_28 m_29 m_30 m_31 m_32 m_33 (u_119.2.2.2.1 0) e0 m_36 q0 (u_119.2.2.2.1 1) (u_119.2.2.2.2.1 0) (u_119.2.2.2.2.1 1) m_41 m_42 m_43 m_44 m_45 m_46 m_47 m_48 m_49 m_50 m_51 m_52 m_53 m_54 m_55 m_56 m_57 m_58 m_59 fw gr (u_119.2.2.1 0) (u_119.2.2.1 1) H.size (by first | omega | decide) (by first | omega | decide) zfw zgr) (cwV 1 hts gX12_stokeNow_X12_stokeIt rfl rfl rfl (by decide +kernel) ⟨Nat.le_of_ble_eq_true rfl, Nat.le_of_ble_eq_true rfl⟩) (mkV hK hN (hP.sub [2, 3, 0, 1] rfl) (hD.sub [2, 3, 0, 1] (by decide +kernel) rfl) (ci := 12) (q0 := 0) rfl rfl) rfl rfl hl.1 rfl (lv_room (Nat.le_of_ble_eq_true rfl)) dX12_stokeNow_29 ⟨Nat.le_of_ble_eq_true rfl, Nat.le_of_ble_eq_true rfl⟩) hP hD hS hA [2, 3, 0, 1] [4, 5] rfl rfl (by decide +kernel) (by decide +kernel) (fun u_131 H locs hw hP0 hD0 hS0 => ?_)))
      replace hP : va_P D vwCl [(cc_l u0 (K 0) 558 (u_125.2.1 0)), (cc_l s0 (K 0) 16 (u_125.2.1 1)), (cc_O m0 12 [m_0, m_1, m_2, .ref w0, m_4, m_5, .ref u0, .ref s0, .int (u_125.2.2.2.1 0), m_9, m_10, m_11, m_12, m_13, m_14, m_15, m_16, m_17, m_18, m_19, .int 0, m_21, m_22, m_23, m_24, m_25, m_26, m_27, m_28, m_29, m_30, m_31, m_32, m_33, .int (u_131.2.2.2.1 0), .ref e0, m_36, .ref q0, .int (u_131.2.2.2.1 1), .long (u_131.2.2.2.2.1 0), .long (u_131.2.2.2.2.1 1), m_41, m_42, m_43, m_44, m_45, m_46, m_47, m_48, m_49, m_50, m_51, m_52, m_53, m_54, m_55, m_56, m_57, m_58, m_59]), (cc_l w0 (K 0) 5500 (u_131.2.1 0)), (cc_rl e0 (K 2) 13 (u_131.2.2.1 0)), (cc_rl q0 (K 2) 400 (u_131.2.2.1 1))] H := hP0
      replace hD := as_D hP hD0 rfl
      replace hS := hS0
      clear hP0 hD0 hS0
      obtain ⟨k_132, k_133, k_134, k_135, -⟩ := hw
      replace hE := (((((hE.trans (Lt2_in k_135)).trans (Lt2_in rfl)).trans (Lt2_in rfl)).trans (Lt2_in rfl)).trans (Lt2_in rfl)).trans (Lt2_in rfl)
      refine lv_aload_n hx hb dX12_stokeNow_32 rfl (lv_at hl 0 rfl) (va_get (ci := 12) (v := .ref w0) (C := RX12) (T := TX12) (N := 60) hx hb hts hw12 hown hK hP 2 rfl rfl 3 (by decide +kernel) (hts _ mm_X12_stokeNow_833) (fun _ h9 => h9) rfl dX12_stokeNow_33 (lv_bipush (v := 11) hx hb dX12_stokeNow_36 (by decide +kernel) (lv_iload_n hx hb dX12_stokeNow_38 rfl (lv_at hl 1 rfl) (lv_iadd hx hb dX12_stokeNow_39 (lv_topi (fun x_136 ex_136 => ?_))))))
      replace hE := hE.trans (Lt_in ex_136)
      have hx_136 : x_136.toInt = (11 + x.toInt) := by rw [ex_136]; exact i_add (show (11 : Int32).toInt = 11 from rfl) rfl (by omega)
      refine va_iald hx hb hK hP 3 0 rfl rfl (i_in hx_136 (by omega)) dX12_stokeNow_40 (lv_topi (fun x_137 ex_137 => ?_))
      replace hE := hE.trans (Lt_in ex_137)
      have px_137 := RwOK.at k_133 hx_136 (show 0 ≤ (11 + x.toInt) ∧ (11 + x.toInt) < 100 by omega)
      rw [← ex_137] at px_137
      have hx_137 := PR.r_11 px_137 (by omega)
      rw [← hQ]
      have hP9 := hP.sub (ws' := [(cc_O m0 12 [m_0, m_1, m_2, .ref w0, m_4, m_5, .ref u0, .ref s0, .int (u_125.2.2.2.1 0), m_9, m_10, m_11, m_12, m_13, m_14, m_15, m_16, m_17, m_18, m_19, .int 0, m_21, m_22, m_23, m_24, m_25, m_26, m_27, m_28, m_29, m_30, m_31, m_32, m_33, .int (u_131.2.2.2.1 0), .ref e0, m_36, .ref q0, .int (u_131.2.2.2.1 1), .long (u_131.2.2.2.2.1 0), .long (u_131.2.2.2.2.1 1), m_41, m_42, m_43, m_44, m_45, m_46, m_47, m_48, m_49, m_50, m_51, m_52, m_53, m_54, m_55, m_56, m_57, m_58, m_59]), (cc_l w0 (K 0) 5500 (u_131.2.1 0)), (cc_rl e0 (K 2) 13 (u_131.2.2.1 0)), (cc_rl q0 (K 2) 400 (u_131.2.2.1 1)), (cc_l u0 (K 0) 558 (u_125.2.1 0)), (cc_l s0 (K 0) 16 (u_125.2.1 1))]) [2, 3, 4, 5, 0, 1] rfl
      have hD9 := sub_D hP9 hD [2, 3, 4, 5, 0, 1] (by decide +kernel) rfl
      exact W.iret (v := x_137) hx hb hr (fun t ht hW => ⟨⟨x_137, ((fun _ => 0, fun i => match i with | 0 => (u_131.2.1 0) | 1 => (u_125.2.1 0) | _ => (u_125.2.1 1), fun i => match i with | 0 => (u_131.2.2.1 0) | _ => (u_131.2.2.1 1), fun i => match i with | 0 => (u_125.2.2.2.1 0) | 1 => (u_131.2.2.2.1 0) | _ => (u_131.2.2.2.1 1), fun i => match i with | 0 => (u_131.2.2.2.2.1 0) | _ => (u_131.2.2.2.2.1 1), fun _ => fun _ => none) : Su), rfl, ⟨(show (-3) ≤ x_137.toInt ∧ x_137.toInt ≤ 20 by omega), (show 0 ≤ ((u_125.2.2.2.1 0) : Int32).toInt ∧ ((u_125.2.2.2.1 0) : Int32).toInt ≤ 16 by omega), (show 0 ≤ ((u_131.2.2.2.1 1) : Int32).toInt ∧ ((u_131.2.2.2.1 1) : Int32).toInt ≤ 1 by omega), k_133, k_134, k_127, k_128, hE.symm, trivial⟩, (⟨by rw [ht]; exact hP9, hD9⟩ : Wd D A _ t)⟩, hS.F ht⟩) hS.2.2 dX12_stokeNow_41
    · have c_123i := i_eq (x := r_118.toInt) (y := 0) rfl rfl c_123
      replace hE := hE.trans (if_pos c_123)
      refine lv_bipush (v := (-3)) hx hb dX12_stokeNow_19 (by decide +kernel) ?_
      rw [← hQ]
      have hP9 := hP.sub (ws' := [(cc_O m0 12 [m_0, m_1, m_2, .ref w0, m_4, m_5, .ref u0, .ref s0, .int nu, m_9, m_10, m_11, m_12, m_13, m_14, m_15, m_16, m_17, m_18, m_19, .int 0, m_21, m_22, m_23, m_24, m_25, m_26, m_27, m_28, m_29, m_30, m_31, m_32, m_33, .int (u_119.2.2.2.1 0), .ref e0, m_36, .ref q0, .int (u_119.2.2.2.1 1), .long (u_119.2.2.2.2.1 0), .long (u_119.2.2.2.2.1 1), m_41, m_42, m_43, m_44, m_45, m_46, m_47, m_48, m_49, m_50, m_51, m_52, m_53, m_54, m_55, m_56, m_57, m_58, m_59]), (cc_l w0 (K 0) 5500 fw), (cc_rl e0 (K 2) 13 (u_119.2.2.1 0)), (cc_rl q0 (K 2) 400 (u_119.2.2.1 1)), (cc_l u0 (K 0) 558 fu), (cc_l s0 (K 0) 16 fs)]) [2, 3, 4, 5, 0, 1] rfl
      have hD9 := sub_D hP9 hD [2, 3, 4, 5, 0, 1] (by decide +kernel) rfl
      exact W.iret (v := (-3)) hx hb hr (fun t ht hW => ⟨⟨(-3), ((fun _ => 0, fun i => match i with | 0 => fw | 1 => fu | _ => fs, fun i => match i with | 0 => (u_119.2.2.1 0) | _ => (u_119.2.2.1 1), fun i => match i with | 0 => nu | 1 => (u_119.2.2.2.1 0) | _ => (u_119.2.2.2.1 1), fun i => match i with | 0 => (u_119.2.2.2.2.1 0) | _ => (u_119.2.2.2.2.1 1), fun _ => fun _ => none) : Su), rfl, ⟨(show (-3) ≤ ((-3) : Int32).toInt ∧ ((-3) : Int32).toInt ≤ 20 by decide), (show 0 ≤ (nu : Int32).toInt ∧ (nu : Int32).toInt ≤ 16 by omega), (show 0 ≤ ((u_119.2.2.2.1 1) : Int32).toInt ∧ ((u_119.2.2.2.1 1) : Int32).toInt ≤ 1 by omega), zfw, zgr, zfu, zfs, hE.symm, trivial⟩, (⟨by rw [ht]; exact hP9, hD9⟩ : Wd D A _ t)⟩, hS.F ht⟩) hS.2.2 dX12_stokeNow_21
  · replace hE := (hE).trans (if_neg (by first | decide | (intro h9; have h8 := congrArg Int32.toInt h9; omega)))
    refine lv_if_ne (tgt := 11) hx hb dX12_stokeNow_5 (by decide +kernel) (fun c_138 => absurd (by decide +kernel) c_138) (fun c_138 => ?_)
    refine lv_bipush (v := (-2)) hx hb dX12_stokeNow_8 (by decide +kernel) ?_
    rw [← hQ]
    have hP9 := hP.sub (ws' := [(cc_O m0 12 [m_0, m_1, m_2, .ref w0, m_4, m_5, .ref u0, .ref s0, .int nu, m_9, m_10, m_11, m_12, m_13, m_14, m_15, m_16, m_17, m_18, m_19, .int 0, m_21, m_22, m_23, m_24, m_25, m_26, m_27, m_28, m_29, m_30, m_31, m_32, m_33, .int lw, .ref e0, m_36, .ref q0, .int bro, .long val, .long sm, m_41, m_42, m_43, m_44, m_45, m_46, m_47, m_48, m_49, m_50, m_51, m_52, m_53, m_54, m_55, m_56, m_57, m_58, m_59]), (cc_l w0 (K 0) 5500 fw), (cc_rl e0 (K 2) 13 fe), (cc_rl q0 (K 2) 400 frs), (cc_l u0 (K 0) 558 fu), (cc_l s0 (K 0) 16 fs)]) [0, 1, 2, 3, 4, 5] rfl
    have hD9 := sub_D hP9 hD [0, 1, 2, 3, 4, 5] (by decide +kernel) rfl
    exact W.iret (v := (-2)) hx hb hr (fun t ht hW => ⟨⟨(-2), ((fun _ => 0, fun i => match i with | 0 => fw | 1 => fu | _ => fs, fun i => match i with | 0 => fe | _ => frs, fun i => match i with | 0 => nu | 1 => lw | _ => bro, fun i => match i with | 0 => val | _ => sm, fun _ => fun _ => none) : Su), rfl, ⟨(show (-3) ≤ ((-2) : Int32).toInt ∧ ((-2) : Int32).toInt ≤ 20 by decide), (show 0 ≤ (nu : Int32).toInt ∧ (nu : Int32).toInt ≤ 16 by omega), (show 0 ≤ (bro : Int32).toInt ∧ (bro : Int32).toInt ≤ 1 by omega), zfw, zgr, zfu, zfs, hE.symm, trivial⟩, (⟨by rw [ht]; exact hP9, hD9⟩ : Wd D A _ t)⟩, hS.F ht⟩) hS.2.2 dX12_stokeNow_10
set_option maxRecDepth 100000 in
noncomputable def E_v_dampNow (x : Int32) (y : Int32) (nu : Int32) (fw : Nat → Int32) (fu : Nat → Int32) (fs : Nat → Int32) : Int32 × Int32 × (Nat → Int32) × (Nat → Int32) × (Nat → Int32) :=
  Lt ((y : Int32).toInt64 : Int64) (fun x_123 => Lt (E_v_in x_123 1 20) (fun r_124 => if r_124 = 1 then (Lt (E_v_isHouse x fw) (fun r_130 => if r_130 = 1 then (Lt2 (E_v_remember 1 nu fw fu fs) (fun u_136_2_2_2_1_0 q0_u_136_2_2_2_1_0 => Lt2 q0_u_136_2_2_2_1_0 (fun u_136_2_1_0 u_136_2_1_1 => Lt (11 + x : Int32) (fun x_141 => Lt (11 + x : Int32) (fun x_142 => Lt (fw (x_142 : Int32).toNatClampNeg : Int32) (fun x_143 => Lt (x_143 - y : Int32) (fun x_144 => Lt ((x_144 : Int32).toInt64 : Int64) (fun x_145 => Lt (E_v_within_20 x_145) (fun r_146 => Lt (upd fw (x_141 : Int32).toNatClampNeg r_146 : Nat → Int32) (fun f_149 => Lt (11 + x : Int32) (fun x_150 => Lt (f_149 (x_150 : Int32).toNatClampNeg : Int32) (fun x_151 => ((x_151, u_136_2_2_2_1_0, f_149, u_136_2_1_0, u_136_2_1_1) : Int32 × Int32 × (Nat → Int32) × (Nat → Int32) × (Nat → Int32)))))))))))))) else ((((-2), nu, fw, fu, fs) : Int32 × Int32 × (Nat → Int32) × (Nat → Int32) × (Nat → Int32))))) else ((((-1), nu, fw, fu, fs) : Int32 × Int32 × (Nat → Int32) × (Nat → Int32) × (Nat → Int32)))))
set_option maxHeartbeats 4000000 in
set_option maxRecDepth 100000 in
theorem v_dampNow (l : Launch) (D : va_G) (K : Nat → ClassId) (m0 : Nat) (x : Int32) (y : Int32) (m_0 : Value) (m_1 : Value) (m_2 : Value) (w0 : Nat) (m_4 : Value) (m_5 : Value) (u0 : Nat) (s0 : Nat) (nu : Int32) (m_9 : Value) (m_10 : Value) (m_11 : Value) (m_12 : Value) (m_13 : Value) (m_14 : Value) (m_15 : Value) (m_16 : Value) (m_17 : Value) (m_18 : Value) (m_19 : Value) (m_20 : Value) (m_21 : Value) (m_22 : Value) (m_23 : Value) (m_24 : Value) (m_25 : Value) (m_26 : Value) (m_27 : Value) (m_28 : Value) (m_29 : Value) (m_30 : Value) (m_31 : Value) (m_32 : Value) (m_33 : Value) (m_34 : Value) (m_35 : Value) (m_36 : Value) (m_37 : Value) (m_38 : Value) (m_39 : Value) (m_40 : Value) (m_41 : Value) (m_42 : Value) (m_43 : Value) (m_44 : Value) (m_45 : Value) (m_46 : Value) (m_47 : Value) (m_48 : Value) (m_49 : Value) (m_50 : Value) (m_51 : Value) (m_52 : Value) (m_53 : Value) (m_54 : Value) (m_55 : Value) (m_56 : Value) (m_57 : Value) (m_58 : Value) (m_59 : Value) (fw : Nat → Int32) (gr : Nat → Int32) (fu : Nat → Int32) (fs : Nat → Int32) (sz : Nat) (znu : 0 ≤ nu.toInt ∧ nu.toInt ≤ 16) (zfw : RwOK fw) (zgr : FzM gr fw) (zfu : Pu 558 fu) (zfs : Rg 16 0 3 fs) : Met l yX12_dampNow wsX12_dampNow ({ frames := 2, cells := 0, slots := 0, locals := 46 }) (va_Pc [.ref m0, .int x, .int y] (Pre D K [(cc_O m0 12 [m_0, m_1, m_2, .ref w0, m_4, m_5, .ref u0, .ref s0, .int nu, m_9, m_10, m_11, m_12, m_13, m_14, m_15, m_16, m_17, m_18, m_19, m_20, m_21, m_22, m_23, m_24, m_25, m_26, m_27, m_28, m_29, m_30, m_31, m_32, m_33, m_34, m_35, m_36, m_37, m_38, m_39, m_40, m_41, m_42, m_43, m_44, m_45, m_46, m_47, m_48, m_49, m_50, m_51, m_52, m_53, m_54, m_55, m_56, m_57, m_58, m_59]), (cc_l w0 (K 0) 5500 fw), (cc_l u0 (K 0) 558 fu), (cc_l s0 (K 0) 16 fs)] sz)) (va_Qi (S := Su) (fun (r : Int32) (u : Su) => ((-2) ≤ r.toInt ∧ r.toInt ≤ 20) ∧ (0 ≤ (u.2.2.2.1 0).toInt ∧ (u.2.2.2.1 0).toInt ≤ 16) ∧ (RwOK (u.2.1 0)) ∧ (FzM gr (u.2.1 0)) ∧ (Pu 558 (u.2.1 1)) ∧ (Rg 16 0 3 (u.2.1 2)) ∧ ((r, (u.2.2.2.1 0), (u.2.1 0), (u.2.1 1), (u.2.1 2)) = E_v_dampNow x y nu fw fu fs) ∧ True) (fun u t => Wd D (va_A [(cc_O m0 12 [m_0, m_1, m_2, .ref w0, m_4, m_5, .ref u0, .ref s0, .int nu, m_9, m_10, m_11, m_12, m_13, m_14, m_15, m_16, m_17, m_18, m_19, m_20, m_21, m_22, m_23, m_24, m_25, m_26, m_27, m_28, m_29, m_30, m_31, m_32, m_33, m_34, m_35, m_36, m_37, m_38, m_39, m_40, m_41, m_42, m_43, m_44, m_45, m_46, m_47, m_48, m_49, m_50, m_51, m_52, m_53, m_54, m_55, m_56, m_57, m_58, m_59]), (cc_l w0 (K 0) 5500 fw), (cc_l u0 (K 0) 558 fu), (cc_l s0 (K 0) 16 fs)] sz) ((fun u => [(cc_O m0 12 [m_0, m_1, m_2, .ref w0, m_4, m_5, .ref u0, .ref s0, .int (u.2.2.2.1 0), m_9, m_10, m_11, m_12, m_13, m_14, m_15, m_16, m_17, m_18, m_19, m_20, m_21, m_22, m_23, m_24, m_25, m_26, m_27, m_28, m_29, m_30, m_31, m_32, m_33, m_34, m_35, m_36, m_37, m_38, m_39, m_40, m_41, m_42, m_43, m_44, m_45, m_46, m_47, m_48, m_49, m_50, m_51, m_52, m_53, m_54, m_55, m_56, m_57, m_58, m_59]), (cc_l w0 (K 0) 5500 (u.2.1 0)), (cc_l u0 (K 0) 558 (u.2.1 1)), (cc_l s0 (K 0) 16 (u.2.1 2))]) u) t) (va_A [(cc_O m0 12 [m_0, m_1, m_2, .ref w0, m_4, m_5, .ref u0, .ref s0, .int nu, m_9, m_10, m_11, m_12, m_13, m_14, m_15, m_16, m_17, m_18, m_19, m_20, m_21, m_22, m_23, m_24, m_25, m_26, m_27, m_28, m_29, m_30, m_31, m_32, m_33, m_34, m_35, m_36, m_37, m_38, m_39, m_40, m_41, m_42, m_43, m_44, m_45, m_46, m_47, m_48, m_49, m_50, m_51, m_52, m_53, m_54, m_55, m_56, m_57, m_58, m_59]), (cc_l w0 (K 0) 5500 fw), (cc_l u0 (K 0) 558 fu), (cc_l s0 (K 0) 16 fs)] sz)) 0 0 (va_A [(cc_O m0 12 [m_0, m_1, m_2, .ref w0, m_4, m_5, .ref u0, .ref s0, .int nu, m_9, m_10, m_11, m_12, m_13, m_14, m_15, m_16, m_17, m_18, m_19, m_20, m_21, m_22, m_23, m_24, m_25, m_26, m_27, m_28, m_29, m_30, m_31, m_32, m_33, m_34, m_35, m_36, m_37, m_38, m_39, m_40, m_41, m_42, m_43, m_44, m_45, m_46, m_47, m_48, m_49, m_50, m_51, m_52, m_53, m_54, m_55, m_56, m_57, m_58, m_59]), (cc_l w0 (K 0) 5500 fw), (cc_l u0 (K 0) 558 fu), (cc_l s0 (K 0) 16 fs)] sz) := by
  refine Met.ofW (cc := cX12_dampNow) (maxL := 3) (ret := (some .int)) (by decide +kernel) rfl ?_
  intro p e s m args below meth c s₁ B hml hv
  obtain ⟨rfl, hsz, hP, hK, hD0, hN⟩ := hv
  have hx := B.exec
  have hb := B.bytes
  have hr := B.returns
  have hts := atoms_spec (ws := wsX12_dampNow) B.pre
  have hown : s.vm.findClass RX12 = some m.cls := findClass_of_methodNamed B.named
  have hlocks := B.notSynchronized
  subst hsz
  have hD := hD0.self (sz := s.heap.size)
  generalize hAe : va_A [(cc_O m0 12 [m_0, m_1, m_2, .ref w0, m_4, m_5, .ref u0, .ref s0, .int nu, m_9, m_10, m_11, m_12, m_13, m_14, m_15, m_16, m_17, m_18, m_19, m_20, m_21, m_22, m_23, m_24, m_25, m_26, m_27, m_28, m_29, m_30, m_31, m_32, m_33, m_34, m_35, m_36, m_37, m_38, m_39, m_40, m_41, m_42, m_43, m_44, m_45, m_46, m_47, m_48, m_49, m_50, m_51, m_52, m_53, m_54, m_55, m_56, m_57, m_58, m_59]), (cc_l w0 (K 0) 5500 fw), (cc_l u0 (K 0) 558 fu), (cc_l s0 (K 0) 16 fs)] s.heap.size = A at hD ⊢
  have hA : ∀ q : Nat, s.heap.size ≤ q → A q := fun q h => by rw [← hAe]; exact Or.inr h
  clear hAe
  have hS : va_S A s.heap s.heap [] := va_S.rf
  replace hP : va_P D vwCl [(cc_O m0 12 [m_0, m_1, m_2, .ref w0, m_4, m_5, .ref u0, .ref s0, .int nu, m_9, m_10, m_11, m_12, m_13, m_14, m_15, m_16, m_17, m_18, m_19, m_20, m_21, m_22, m_23, m_24, m_25, m_26, m_27, m_28, m_29, m_30, m_31, m_32, m_33, m_34, m_35, m_36, m_37, m_38, m_39, m_40, m_41, m_42, m_43, m_44, m_45, m_46, m_47, m_48, m_49, m_50, m_51, m_52, m_53, m_54, m_55, m_56, m_57, m_58, m_59]), (cc_l w0 (K 0) 5500 fw), (cc_l u0 (K 0) 558 fu), (cc_l s0 (K 0) 16 fs)] s.heap := hP
  have hl := lv_entry [.ref m0, .int x, .int y] (n := 3) (Nat.le_of_ble_eq_true rfl)
  rw [lg_entry_eq]
  generalize (lg_sl [.ref m0, .int x, .int y] ++ List.replicate (3 - (lg_sl [.ref m0, .int x, .int y]).length) Slot.unset).toArray = ls at hl ⊢
  have hl : lv_has ls 3 [(0, .ref m0), (1, .int x), (2, .int y)] := hl
  have hw12 : ∀ w ∈ wsX120, w ∈ wsX12_dampNow := fun w h => (List.mem_cons_of_mem _ (List.mem_append_right _ h))
  generalize hQ : MQ below _ _ s _ _ _ = Q
  have hE := E_v_dampNow.eq_def x y nu fw fu fs
  refine lv_iload_n hx hb dX12_dampNow_0 rfl (lv_at hl 2 rfl) (lv_i2l hx hb dX12_dampNow_1 rfl (lv_topl (fun x_123 ex_123 => ?_)))
  replace hE := hE.trans (Lt_in ex_123)
  have hx_123 : x_123.toInt = y.toInt := by rw [ex_123]; exact i_wide rfl
  have hbx_123 := i_rng (a := y) rfl
  refine lv_lconst (v := 1) hx hb dX12_dampNow_2 (by decide +kernel) (lv_ldc2 (v := 20) hx hb hown (hts _ mm_X12_dampNow_1044) dX12_dampNow_3 (pci (va_runS (As := [.long x_123, .long 1, .long 20]) (rest := []) ⟨hx, hb, hml, hown, hts⟩ (v_in l D K y.toInt 1 20 x_123 1 20 s.heap.size hx_123 (show (1 : Int64).toInt = 1 from rfl) (show (20 : Int64).toInt = 20 from rfl)) (va_cwS 3 hts gX12_dampNow_X12_in rfl rfl rfl (by decide +kernel) ⟨Nat.le_of_ble_eq_true rfl, Nat.le_of_ble_eq_true rfl⟩) (mkS hK hN (va_P.nil) (va_D.nil (A := fun _ => True))) rfl rfl hl.1 rfl (lv_room (Nat.le_of_ble_eq_true rfl)) dX12_dampNow_6 ⟨Nat.le_of_ble_eq_true rfl, Nat.le_of_ble_eq_true rfl⟩) (fun r_124 hw => ?_)))
  obtain ⟨hw, k_125, -⟩ := hw
  replace hE := hE.trans (Lt_in k_125)
  rcases hw with ⟨rfl, h_126, h_127⟩ | ⟨rfl, h_128⟩
  · replace hE := (hE).trans (if_pos rfl)
    refine lv_if_ne (tgt := 14) hx hb dX12_dampNow_9 (by decide +kernel) (fun c_129 => ?_) (fun c_129 => absurd c_129 (by decide +kernel))
    refine lv_aload_n hx hb dX12_dampNow_14 rfl (lv_at hl 0 rfl) (lv_iload_n hx hb dX12_dampNow_15 rfl (lv_at hl 1 rfl) (pci (va_runV (As := [.int x]) (rest := []) ⟨hx, hb, hml, hown, hts⟩ (v_isHouse l D K x.toInt m0 x m_0 m_1 m_2 w0 m_4 m_5 (.ref u0) (.ref s0) (.int nu) m_9 m_10 m_11 m_12 m_13 m_14 m_15 m_16 m_17 m_18 m_19 m_20 m_21 m_22 m_23 m_24 m_25 m_26 m_27 m_28 m_29 m_30 m_31 m_32 m_33 m_34 m_35 m_36 m_37 m_38 m_39 m_40 m_41 m_42 m_43 m_44 m_45 m_46 m_47 m_48 m_49 m_50 m_51 m_52 m_53 m_54 m_55 m_56 m_57 m_58 m_59 fw s.heap.size rfl zfw) (cwV 1 hts gX12_dampNow_X12_isHouse rfl rfl rfl (by decide +kernel) ⟨Nat.le_of_ble_eq_true rfl, Nat.le_of_ble_eq_true rfl⟩) (mkV hK hN (hP.sub [0, 1] rfl) (hD.sub [0, 1] (by decide +kernel) rfl) (ci := 12) (q0 := 0) rfl rfl) rfl rfl hl.1 rfl (lv_room (Nat.le_of_ble_eq_true rfl)) dX12_dampNow_16 ⟨Nat.le_of_ble_eq_true rfl, Nat.le_of_ble_eq_true rfl⟩) (fun r_130 hw => ?_)))
    obtain ⟨hw, k_131, -⟩ := hw
    replace hE := hE.trans (Lt_in k_131)
    rcases hw with ⟨rfl, h_132, h_133⟩ | rfl
    · replace hE := (hE).trans (if_pos rfl)
      refine lv_if_ne (tgt := 25) hx hb dX12_dampNow_19 (by decide +kernel) (fun c_134 => ?_) (fun c_134 => absurd c_134 (by decide +kernel))
      refine lv_aload_n hx hb dX12_dampNow_25 rfl (lv_at hl 0 rfl) (lv_iconst (v := 1) hx hb dX12_dampNow_26 (by decide +kernel) (kcv (S := Su) (wr := []) (va_runV (As := [.int 1]) (rest := []) ⟨hx, hb, hml, hown, hts⟩ (v_remember l D K m0 1 m_0 m_1 m_2 w0 m_4 m_5 u0 s0 nu m_9 m_10 m_11 m_12 m_13 m_14 m_15 m_16 m_17 m_18 m_19 m_20 m_21 m_22 m_23 m_24 m_25 m_26 m_27 m_28 m_29 m_30 m_31 m_32 m_33 m_34 m_35 m_36 m_37 m_38 m_39 m_40 m_41 m_42 m_43 m_44 m_45 m_46 m_47 m_48 m_49 m_50 m_51 m_52 m_53 m_54 m_55 m_56 m_57 m_58 m_59 fw gr fu fs s.heap.size (by first | omega | decide) (by first | omega | decide) zfw zgr zfu zfs) (cwV 1 hts gX12_dampNow_X12_remember rfl rfl rfl (by decide +kernel) ⟨Nat.le_of_ble_eq_true rfl, Nat.le_of_ble_eq_true rfl⟩) (mkV hK hN (hP.sub [0, 1, 2, 3] rfl) (hD.sub [0, 1, 2, 3] (by decide +kernel) rfl) (ci := 12) (q0 := 0) rfl rfl) rfl rfl hl.1 rfl (lv_room (Nat.le_of_ble_eq_true rfl)) dX12_dampNow_27 ⟨Nat.le_of_ble_eq_true rfl, Nat.le_of_ble_eq_true rfl⟩) hP hD hS hA [0, 1, 2, 3] [] rfl rfl (by decide +kernel) (by decide +kernel) (fun u_136 H locs hw hP0 hD0 hS0 => ?_)))
      replace hP : va_P D vwCl [(cc_O m0 12 [m_0, m_1, m_2, .ref w0, m_4, m_5, .ref u0, .ref s0, .int (u_136.2.2.2.1 0), m_9, m_10, m_11, m_12, m_13, m_14, m_15, m_16, m_17, m_18, m_19, m_20, m_21, m_22, m_23, m_24, m_25, m_26, m_27, m_28, m_29, m_30, m_31, m_32, m_33, m_34, m_35, m_36, m_37, m_38, m_39, m_40, m_41, m_42, m_43, m_44, m_45, m_46, m_47, m_48, m_49, m_50, m_51, m_52, m_53, m_54, m_55, m_56, m_57, m_58, m_59]), (cc_l w0 (K 0) 5500 fw), (cc_l u0 (K 0) 558 (u_136.2.1 0)), (cc_l s0 (K 0) 16 (u_136.2.1 1))] H := hP0
      replace hD := as_D hP hD0 rfl
      replace hS := hS0
      clear hP0 hD0 hS0
      obtain ⟨k_137, k_138, k_139, k_140, -⟩ := hw
      replace hE := (hE.trans (Lt2_in k_140)).trans (Lt2_in rfl)
      refine lv_aload_n hx hb dX12_dampNow_30 rfl (lv_at hl 0 rfl) (va_get (ci := 12) (v := .ref w0) (C := RX12) (T := TX12) (N := 60) hx hb hts hw12 hown hK hP 0 rfl rfl 3 (by decide +kernel) (hts _ mm_X12_dampNow_833) (fun _ h9 => h9) rfl dX12_dampNow_31 (lv_bipush (v := 11) hx hb dX12_dampNow_34 (by decide +kernel) (lv_iload_n hx hb dX12_dampNow_36 rfl (lv_at hl 1 rfl) (lv_iadd hx hb dX12_dampNow_37 (lv_topi (fun x_141 ex_141 => ?_))))))
      replace hE := hE.trans (Lt_in ex_141)
      have hx_141 : x_141.toInt = (11 + x.toInt) := by rw [ex_141]; exact i_add (show (11 : Int32).toInt = 11 from rfl) rfl (by omega)
      refine lv_aload_n hx hb dX12_dampNow_38 rfl (lv_at hl 0 rfl) (va_get (ci := 12) (v := .ref w0) (C := RX12) (T := TX12) (N := 60) hx hb hts hw12 hown hK hP 0 rfl rfl 3 (by decide +kernel) (hts _ mm_X12_dampNow_833) (fun _ h9 => h9) rfl dX12_dampNow_39 (lv_bipush (v := 11) hx hb dX12_dampNow_42 (by decide +kernel) (lv_iload_n hx hb dX12_dampNow_44 rfl (lv_at hl 1 rfl) (lv_iadd hx hb dX12_dampNow_45 (lv_topi (fun x_142 ex_142 => ?_))))))
      replace hE := hE.trans (Lt_in ex_142)
      have hx_142 : x_142.toInt = (11 + x.toInt) := by rw [ex_142]; exact i_add (show (11 : Int32).toInt = 11 from rfl) rfl (by omega)
      refine va_iald hx hb hK hP 1 0 rfl rfl (i_in hx_142 (by omega)) dX12_dampNow_46 (lv_topi (fun x_143 ex_143 => ?_))
      replace hE := hE.trans (Lt_in ex_143)
      have px_143 := RwOK.at zfw hx_142 (show 0 ≤ (11 + x.toInt) ∧ (11 + x.toInt) < 100 by omega)
      rw [← ex_143] at px_143
      have hx_143 := PR.r_11 px_143 (by omega)
      refine lv_iload_n hx hb dX12_dampNow_47 rfl (lv_at hl 2 rfl) (lv_isub hx hb dX12_dampNow_48 (lv_topi (fun x_144 ex_144 => ?_)))
      replace hE := hE.trans (Lt_in ex_144)
      have hx_144 : x_144.toInt = (x_143.toInt - y.toInt) := by rw [ex_144]; exact i_sub rfl rfl (by omega)
      refine lv_i2l hx hb dX12_dampNow_49 rfl (lv_topl (fun x_145 ex_145 => ?_))
      replace hE := hE.trans (Lt_in ex_145)
      have hx_145 : x_145.toInt = (x_143.toInt - y.toInt) := by rw [ex_145]; exact i_wide hx_144
      refine lv_iconst (v := 0) hx hb dX12_dampNow_50 (by decide +kernel) (lv_bipush (v := 20) hx hb dX12_dampNow_51 (by decide +kernel) (pci (va_runS (As := [.long x_145, .int 0, .int 20]) (rest := [.int x_141, .ref w0]) ⟨hx, hb, hml, hown, hts⟩ (v_within_20 l D K x_145 H.size) (va_cwS 3 hts gX12_dampNow_X12_within rfl rfl rfl (by decide +kernel) ⟨Nat.le_of_ble_eq_true rfl, Nat.le_of_ble_eq_true rfl⟩) (mkS hK hN (va_P.nil) (va_D.nil (A := fun _ => True))) rfl rfl hl.1 rfl (lv_room (Nat.le_of_ble_eq_true rfl)) dX12_dampNow_53 ⟨Nat.le_of_ble_eq_true rfl, Nat.le_of_ble_eq_true rfl⟩) (fun r_146 hw => ?_)))
      obtain ⟨h_148, k_147, -⟩ := hw
      replace hE := hE.trans (Lt_in k_147)
      refine va_iast hx hb hK hP hD hS 1 0 rfl rfl (i_in hx_141 (by omega)) dX12_dampNow_56 (fun H locs hP0 hD0 hS0 => ?_)
      replace hP := hP0
      replace hD := hD0
      replace hS := hS0
      clear hP0 hD0 hS0
      generalize hf_149 : (upd fw (x_141 : Int32).toNatClampNeg r_146) = f_149 at hP hD
      replace hE := hE.trans (Lt_in hf_149.symm)
      have hf_149_0 : RwOK f_149 := by rw [← hf_149]; exact RwOK.upd zfw hx_141 (by omega) rfl (PR.w_11 (by omega) (by omega))
      have hf_149_1 : FzM gr f_149 := by rw [← hf_149]; exact FzM.put zgr hx_141 (by omega)
      have kf_149 : f_149 ((11 + x.toInt)).toNat = r_146 := by rw [← hf_149, i_clamp hx_141]; exact pk_us
      replace hP : va_P D vwCl [(cc_O m0 12 [m_0, m_1, m_2, .ref w0, m_4, m_5, .ref u0, .ref s0, .int (u_136.2.2.2.1 0), m_9, m_10, m_11, m_12, m_13, m_14, m_15, m_16, m_17, m_18, m_19, m_20, m_21, m_22, m_23, m_24, m_25, m_26, m_27, m_28, m_29, m_30, m_31, m_32, m_33, m_34, m_35, m_36, m_37, m_38, m_39, m_40, m_41, m_42, m_43, m_44, m_45, m_46, m_47, m_48, m_49, m_50, m_51, m_52, m_53, m_54, m_55, m_56, m_57, m_58, m_59]), (cc_l w0 (K 0) 5500 f_149), (cc_l u0 (K 0) 558 (u_136.2.1 0)), (cc_l s0 (K 0) 16 (u_136.2.1 1))] H := hP
      replace hD := as_D hP hD rfl
      refine lv_aload_n hx hb dX12_dampNow_57 rfl (lv_at hl 0 rfl) (va_get (ci := 12) (v := .ref w0) (C := RX12) (T := TX12) (N := 60) hx hb hts hw12 hown hK hP 0 rfl rfl 3 (by decide +kernel) (hts _ mm_X12_dampNow_833) (fun _ h9 => h9) rfl dX12_dampNow_58 (lv_bipush (v := 11) hx hb dX12_dampNow_61 (by decide +kernel) (lv_iload_n hx hb dX12_dampNow_63 rfl (lv_at hl 1 rfl) (lv_iadd hx hb dX12_dampNow_64 (lv_topi (fun x_150 ex_150 => ?_))))))
      replace hE := hE.trans (Lt_in ex_150)
      have hx_150 : x_150.toInt = (11 + x.toInt) := by rw [ex_150]; exact i_add (show (11 : Int32).toInt = 11 from rfl) rfl (by omega)
      refine va_iald hx hb hK hP 1 0 rfl rfl (i_in hx_150 (by omega)) dX12_dampNow_65 (lv_topi (fun x_151 ex_151 => ?_))
      replace hE := hE.trans (Lt_in ex_151)
      have erx_151 : x_151 = r_146 := ex_151.trans (by rw [i_clamp hx_150]; exact kf_149)
      have hrx_151 : x_151.toInt = r_146.toInt := (congrArg Int32.toInt erx_151).trans rfl
      rw [← hQ]
      have hP9 := hP.sub (ws' := [(cc_O m0 12 [m_0, m_1, m_2, .ref w0, m_4, m_5, .ref u0, .ref s0, .int (u_136.2.2.2.1 0), m_9, m_10, m_11, m_12, m_13, m_14, m_15, m_16, m_17, m_18, m_19, m_20, m_21, m_22, m_23, m_24, m_25, m_26, m_27, m_28, m_29, m_30, m_31, m_32, m_33, m_34, m_35, m_36, m_37, m_38, m_39, m_40, m_41, m_42, m_43, m_44, m_45, m_46, m_47, m_48, m_49, m_50, m_51, m_52, m_53, m_54, m_55, m_56, m_57, m_58, m_59]), (cc_l w0 (K 0) 5500 f_149), (cc_l u0 (K 0) 558 (u_136.2.1 0)), (cc_l s0 (K 0) 16 (u_136.2.1 1))]) [0, 1, 2, 3] rfl
      have hD9 := sub_D hP9 hD [0, 1, 2, 3] (by decide +kernel) rfl
      exact W.iret (v := x_151) hx hb hr (fun t ht hW => ⟨⟨x_151, ((fun _ => 0, fun i => match i with | 0 => f_149 | 1 => (u_136.2.1 0) | _ => (u_136.2.1 1), fun _ => fun _ => 0, fun i => match i with | _ => (u_136.2.2.2.1 0), fun _ => 0, fun _ => fun _ => none) : Su), rfl, ⟨(show (-2) ≤ x_151.toInt ∧ x_151.toInt ≤ 20 by rw [hrx_151]; omega), (show 0 ≤ ((u_136.2.2.2.1 0) : Int32).toInt ∧ ((u_136.2.2.2.1 0) : Int32).toInt ≤ 16 by omega), hf_149_0, hf_149_1, k_138, k_139, hE.symm, trivial⟩, (⟨by rw [ht]; exact hP9, hD9⟩ : Wd D A _ t)⟩, hS.F ht⟩) hS.2.2 dX12_dampNow_66
    · replace hE := (hE).trans (if_neg (by first | decide | (intro h9; have h8 := congrArg Int32.toInt h9; omega)))
      refine lv_if_ne (tgt := 25) hx hb dX12_dampNow_19 (by decide +kernel) (fun c_152 => absurd (by decide +kernel) c_152) (fun c_152 => ?_)
      refine lv_bipush (v := (-2)) hx hb dX12_dampNow_22 (by decide +kernel) ?_
      rw [← hQ]
      have hP9 := hP.sub (ws' := [(cc_O m0 12 [m_0, m_1, m_2, .ref w0, m_4, m_5, .ref u0, .ref s0, .int nu, m_9, m_10, m_11, m_12, m_13, m_14, m_15, m_16, m_17, m_18, m_19, m_20, m_21, m_22, m_23, m_24, m_25, m_26, m_27, m_28, m_29, m_30, m_31, m_32, m_33, m_34, m_35, m_36, m_37, m_38, m_39, m_40, m_41, m_42, m_43, m_44, m_45, m_46, m_47, m_48, m_49, m_50, m_51, m_52, m_53, m_54, m_55, m_56, m_57, m_58, m_59]), (cc_l w0 (K 0) 5500 fw), (cc_l u0 (K 0) 558 fu), (cc_l s0 (K 0) 16 fs)]) [0, 1, 2, 3] rfl
      have hD9 := sub_D hP9 hD [0, 1, 2, 3] (by decide +kernel) rfl
      exact W.iret (v := (-2)) hx hb hr (fun t ht hW => ⟨⟨(-2), ((fun _ => 0, fun i => match i with | 0 => fw | 1 => fu | _ => fs, fun _ => fun _ => 0, fun i => match i with | _ => nu, fun _ => 0, fun _ => fun _ => none) : Su), rfl, ⟨(show (-2) ≤ ((-2) : Int32).toInt ∧ ((-2) : Int32).toInt ≤ 20 by decide), (show 0 ≤ (nu : Int32).toInt ∧ (nu : Int32).toInt ≤ 16 by omega), zfw, zgr, zfu, zfs, hE.symm, trivial⟩, (⟨by rw [ht]; exact hP9, hD9⟩ : Wd D A _ t)⟩, hS.F ht⟩) hS.2.2 dX12_dampNow_24
  · replace hE := (hE).trans (if_neg (by first | decide | (intro h9; have h8 := congrArg Int32.toInt h9; omega)))
    refine lv_if_ne (tgt := 14) hx hb dX12_dampNow_9 (by decide +kernel) (fun c_153 => absurd (by decide +kernel) c_153) (fun c_153 => ?_)
    refine lv_iconst (v := (-1)) hx hb dX12_dampNow_12 (by decide +kernel) ?_
    rw [← hQ]
    have hP9 := hP.sub (ws' := [(cc_O m0 12 [m_0, m_1, m_2, .ref w0, m_4, m_5, .ref u0, .ref s0, .int nu, m_9, m_10, m_11, m_12, m_13, m_14, m_15, m_16, m_17, m_18, m_19, m_20, m_21, m_22, m_23, m_24, m_25, m_26, m_27, m_28, m_29, m_30, m_31, m_32, m_33, m_34, m_35, m_36, m_37, m_38, m_39, m_40, m_41, m_42, m_43, m_44, m_45, m_46, m_47, m_48, m_49, m_50, m_51, m_52, m_53, m_54, m_55, m_56, m_57, m_58, m_59]), (cc_l w0 (K 0) 5500 fw), (cc_l u0 (K 0) 558 fu), (cc_l s0 (K 0) 16 fs)]) [0, 1, 2, 3] rfl
    have hD9 := sub_D hP9 hD [0, 1, 2, 3] (by decide +kernel) rfl
    exact W.iret (v := (-1)) hx hb hr (fun t ht hW => ⟨⟨(-1), ((fun _ => 0, fun i => match i with | 0 => fw | 1 => fu | _ => fs, fun _ => fun _ => 0, fun i => match i with | _ => nu, fun _ => 0, fun _ => fun _ => none) : Su), rfl, ⟨(show (-2) ≤ ((-1) : Int32).toInt ∧ ((-1) : Int32).toInt ≤ 20 by decide), (show 0 ≤ (nu : Int32).toInt ∧ (nu : Int32).toInt ≤ 16 by omega), zfw, zgr, zfu, zfs, hE.symm, trivial⟩, (⟨by rw [ht]; exact hP9, hD9⟩ : Wd D A _ t)⟩, hS.F ht⟩) hS.2.2 dX12_dampNow_13
set_option maxRecDepth 100000 in
noncomputable def E_v_buyNow (x : Int32) (y : Int32) (nu : Int32) (fw : Nat → Int32) (fu : Nat → Int32) (fs : Nat → Int32) : Int32 × Int32 × (Nat → Int32) × (Nat → Int32) × (Nat → Int32) :=
  Lt ((y : Int32).toInt64 : Int64) (fun x_123 => Lt (E_v_in x_123 1 999) (fun r_124 => if r_124 = 1 then (Lt (E_v_isHouse x fw) (fun r_130 => if r_130 = 1 then (Lt2 (E_v_remember 2 nu fw fu fs) (fun u_136_2_2_2_1_0 q0_u_136_2_2_2_1_0 => Lt2 q0_u_136_2_2_2_1_0 (fun u_136_2_1_0 u_136_2_1_1 => Lt (19 + x : Int32) (fun x_141 => Lt (19 + x : Int32) (fun x_142 => Lt (fw (x_142 : Int32).toNatClampNeg : Int32) (fun x_143 => Lt (x_143 + y : Int32) (fun x_144 => Lt ((x_144 : Int32).toInt64 : Int64) (fun x_145 => Lt (E_v_within_999 x_145) (fun r_146 => Lt (upd fw (x_141 : Int32).toNatClampNeg r_146 : Nat → Int32) (fun f_149 => Lt (19 + x : Int32) (fun x_150 => Lt (f_149 (x_150 : Int32).toNatClampNeg : Int32) (fun x_151 => ((x_151, u_136_2_2_2_1_0, f_149, u_136_2_1_0, u_136_2_1_1) : Int32 × Int32 × (Nat → Int32) × (Nat → Int32) × (Nat → Int32)))))))))))))) else ((((-2), nu, fw, fu, fs) : Int32 × Int32 × (Nat → Int32) × (Nat → Int32) × (Nat → Int32))))) else ((((-1), nu, fw, fu, fs) : Int32 × Int32 × (Nat → Int32) × (Nat → Int32) × (Nat → Int32)))))
set_option maxHeartbeats 4000000 in
set_option maxRecDepth 100000 in
theorem v_buyNow (l : Launch) (D : va_G) (K : Nat → ClassId) (m0 : Nat) (x : Int32) (y : Int32) (m_0 : Value) (m_1 : Value) (m_2 : Value) (w0 : Nat) (m_4 : Value) (m_5 : Value) (u0 : Nat) (s0 : Nat) (nu : Int32) (m_9 : Value) (m_10 : Value) (m_11 : Value) (m_12 : Value) (m_13 : Value) (m_14 : Value) (m_15 : Value) (m_16 : Value) (m_17 : Value) (m_18 : Value) (m_19 : Value) (m_20 : Value) (m_21 : Value) (m_22 : Value) (m_23 : Value) (m_24 : Value) (m_25 : Value) (m_26 : Value) (m_27 : Value) (m_28 : Value) (m_29 : Value) (m_30 : Value) (m_31 : Value) (m_32 : Value) (m_33 : Value) (m_34 : Value) (m_35 : Value) (m_36 : Value) (m_37 : Value) (m_38 : Value) (m_39 : Value) (m_40 : Value) (m_41 : Value) (m_42 : Value) (m_43 : Value) (m_44 : Value) (m_45 : Value) (m_46 : Value) (m_47 : Value) (m_48 : Value) (m_49 : Value) (m_50 : Value) (m_51 : Value) (m_52 : Value) (m_53 : Value) (m_54 : Value) (m_55 : Value) (m_56 : Value) (m_57 : Value) (m_58 : Value) (m_59 : Value) (fw : Nat → Int32) (gr : Nat → Int32) (fu : Nat → Int32) (fs : Nat → Int32) (sz : Nat) (znu : 0 ≤ nu.toInt ∧ nu.toInt ≤ 16) (zfw : RwOK fw) (zgr : FzM gr fw) (zfu : Pu 558 fu) (zfs : Rg 16 0 3 fs) : Met l yX12_buyNow wsX12_buyNow ({ frames := 2, cells := 0, slots := 0, locals := 46 }) (va_Pc [.ref m0, .int x, .int y] (Pre D K [(cc_O m0 12 [m_0, m_1, m_2, .ref w0, m_4, m_5, .ref u0, .ref s0, .int nu, m_9, m_10, m_11, m_12, m_13, m_14, m_15, m_16, m_17, m_18, m_19, m_20, m_21, m_22, m_23, m_24, m_25, m_26, m_27, m_28, m_29, m_30, m_31, m_32, m_33, m_34, m_35, m_36, m_37, m_38, m_39, m_40, m_41, m_42, m_43, m_44, m_45, m_46, m_47, m_48, m_49, m_50, m_51, m_52, m_53, m_54, m_55, m_56, m_57, m_58, m_59]), (cc_l w0 (K 0) 5500 fw), (cc_l u0 (K 0) 558 fu), (cc_l s0 (K 0) 16 fs)] sz)) (va_Qi (S := Su) (fun (r : Int32) (u : Su) => ((-2) ≤ r.toInt ∧ r.toInt ≤ 999) ∧ (0 ≤ (u.2.2.2.1 0).toInt ∧ (u.2.2.2.1 0).toInt ≤ 16) ∧ (RwOK (u.2.1 0)) ∧ (FzM gr (u.2.1 0)) ∧ (Pu 558 (u.2.1 1)) ∧ (Rg 16 0 3 (u.2.1 2)) ∧ ((r, (u.2.2.2.1 0), (u.2.1 0), (u.2.1 1), (u.2.1 2)) = E_v_buyNow x y nu fw fu fs) ∧ True) (fun u t => Wd D (va_A [(cc_O m0 12 [m_0, m_1, m_2, .ref w0, m_4, m_5, .ref u0, .ref s0, .int nu, m_9, m_10, m_11, m_12, m_13, m_14, m_15, m_16, m_17, m_18, m_19, m_20, m_21, m_22, m_23, m_24, m_25, m_26, m_27, m_28, m_29, m_30, m_31, m_32, m_33, m_34, m_35, m_36, m_37, m_38, m_39, m_40, m_41, m_42, m_43, m_44, m_45, m_46, m_47, m_48, m_49, m_50, m_51, m_52, m_53, m_54, m_55, m_56, m_57, m_58, m_59]), (cc_l w0 (K 0) 5500 fw), (cc_l u0 (K 0) 558 fu), (cc_l s0 (K 0) 16 fs)] sz) ((fun u => [(cc_O m0 12 [m_0, m_1, m_2, .ref w0, m_4, m_5, .ref u0, .ref s0, .int (u.2.2.2.1 0), m_9, m_10, m_11, m_12, m_13, m_14, m_15, m_16, m_17, m_18, m_19, m_20, m_21, m_22, m_23, m_24, m_25, m_26, m_27, m_28, m_29, m_30, m_31, m_32, m_33, m_34, m_35, m_36, m_37, m_38, m_39, m_40, m_41, m_42, m_43, m_44, m_45, m_46, m_47, m_48, m_49, m_50, m_51, m_52, m_53, m_54, m_55, m_56, m_57, m_58, m_59]), (cc_l w0 (K 0) 5500 (u.2.1 0)), (cc_l u0 (K 0) 558 (u.2.1 1)), (cc_l s0 (K 0) 16 (u.2.1 2))]) u) t) (va_A [(cc_O m0 12 [m_0, m_1, m_2, .ref w0, m_4, m_5, .ref u0, .ref s0, .int nu, m_9, m_10, m_11, m_12, m_13, m_14, m_15, m_16, m_17, m_18, m_19, m_20, m_21, m_22, m_23, m_24, m_25, m_26, m_27, m_28, m_29, m_30, m_31, m_32, m_33, m_34, m_35, m_36, m_37, m_38, m_39, m_40, m_41, m_42, m_43, m_44, m_45, m_46, m_47, m_48, m_49, m_50, m_51, m_52, m_53, m_54, m_55, m_56, m_57, m_58, m_59]), (cc_l w0 (K 0) 5500 fw), (cc_l u0 (K 0) 558 fu), (cc_l s0 (K 0) 16 fs)] sz)) 0 0 (va_A [(cc_O m0 12 [m_0, m_1, m_2, .ref w0, m_4, m_5, .ref u0, .ref s0, .int nu, m_9, m_10, m_11, m_12, m_13, m_14, m_15, m_16, m_17, m_18, m_19, m_20, m_21, m_22, m_23, m_24, m_25, m_26, m_27, m_28, m_29, m_30, m_31, m_32, m_33, m_34, m_35, m_36, m_37, m_38, m_39, m_40, m_41, m_42, m_43, m_44, m_45, m_46, m_47, m_48, m_49, m_50, m_51, m_52, m_53, m_54, m_55, m_56, m_57, m_58, m_59]), (cc_l w0 (K 0) 5500 fw), (cc_l u0 (K 0) 558 fu), (cc_l s0 (K 0) 16 fs)] sz) := by
  refine Met.ofW (cc := cX12_buyNow) (maxL := 3) (ret := (some .int)) (by decide +kernel) rfl ?_
  intro p e s m args below meth c s₁ B hml hv
  obtain ⟨rfl, hsz, hP, hK, hD0, hN⟩ := hv
  have hx := B.exec
  have hb := B.bytes
  have hr := B.returns
  have hts := atoms_spec (ws := wsX12_buyNow) B.pre
  have hown : s.vm.findClass RX12 = some m.cls := findClass_of_methodNamed B.named
  have hlocks := B.notSynchronized
  subst hsz
  have hD := hD0.self (sz := s.heap.size)
  generalize hAe : va_A [(cc_O m0 12 [m_0, m_1, m_2, .ref w0, m_4, m_5, .ref u0, .ref s0, .int nu, m_9, m_10, m_11, m_12, m_13, m_14, m_15, m_16, m_17, m_18, m_19, m_20, m_21, m_22, m_23, m_24, m_25, m_26, m_27, m_28, m_29, m_30, m_31, m_32, m_33, m_34, m_35, m_36, m_37, m_38, m_39, m_40, m_41, m_42, m_43, m_44, m_45, m_46, m_47, m_48, m_49, m_50, m_51, m_52, m_53, m_54, m_55, m_56, m_57, m_58, m_59]), (cc_l w0 (K 0) 5500 fw), (cc_l u0 (K 0) 558 fu), (cc_l s0 (K 0) 16 fs)] s.heap.size = A at hD ⊢
  have hA : ∀ q : Nat, s.heap.size ≤ q → A q := fun q h => by rw [← hAe]; exact Or.inr h
  clear hAe
  have hS : va_S A s.heap s.heap [] := va_S.rf
  replace hP : va_P D vwCl [(cc_O m0 12 [m_0, m_1, m_2, .ref w0, m_4, m_5, .ref u0, .ref s0, .int nu, m_9, m_10, m_11, m_12, m_13, m_14, m_15, m_16, m_17, m_18, m_19, m_20, m_21, m_22, m_23, m_24, m_25, m_26, m_27, m_28, m_29, m_30, m_31, m_32, m_33, m_34, m_35, m_36, m_37, m_38, m_39, m_40, m_41, m_42, m_43, m_44, m_45, m_46, m_47, m_48, m_49, m_50, m_51, m_52, m_53, m_54, m_55, m_56, m_57, m_58, m_59]), (cc_l w0 (K 0) 5500 fw), (cc_l u0 (K 0) 558 fu), (cc_l s0 (K 0) 16 fs)] s.heap := hP
  have hl := lv_entry [.ref m0, .int x, .int y] (n := 3) (Nat.le_of_ble_eq_true rfl)
  rw [lg_entry_eq]
  generalize (lg_sl [.ref m0, .int x, .int y] ++ List.replicate (3 - (lg_sl [.ref m0, .int x, .int y]).length) Slot.unset).toArray = ls at hl ⊢
  have hl : lv_has ls 3 [(0, .ref m0), (1, .int x), (2, .int y)] := hl
  have hw12 : ∀ w ∈ wsX120, w ∈ wsX12_buyNow := fun w h => (List.mem_cons_of_mem _ (List.mem_append_right _ h))
  generalize hQ : MQ below _ _ s _ _ _ = Q
  have hE := E_v_buyNow.eq_def x y nu fw fu fs
  refine lv_iload_n hx hb dX12_buyNow_0 rfl (lv_at hl 2 rfl) (lv_i2l hx hb dX12_buyNow_1 rfl (lv_topl (fun x_123 ex_123 => ?_)))
  replace hE := hE.trans (Lt_in ex_123)
  have hx_123 : x_123.toInt = y.toInt := by rw [ex_123]; exact i_wide rfl
  have hbx_123 := i_rng (a := y) rfl
  refine lv_lconst (v := 1) hx hb dX12_buyNow_2 (by decide +kernel) (lv_ldc2 (v := 999) hx hb hown (hts _ mm_X12_buyNow_978) dX12_buyNow_3 (pci (va_runS (As := [.long x_123, .long 1, .long 999]) (rest := []) ⟨hx, hb, hml, hown, hts⟩ (v_in l D K y.toInt 1 999 x_123 1 999 s.heap.size hx_123 (show (1 : Int64).toInt = 1 from rfl) (show (999 : Int64).toInt = 999 from rfl)) (va_cwS 3 hts gX12_buyNow_X12_in rfl rfl rfl (by decide +kernel) ⟨Nat.le_of_ble_eq_true rfl, Nat.le_of_ble_eq_true rfl⟩) (mkS hK hN (va_P.nil) (va_D.nil (A := fun _ => True))) rfl rfl hl.1 rfl (lv_room (Nat.le_of_ble_eq_true rfl)) dX12_buyNow_6 ⟨Nat.le_of_ble_eq_true rfl, Nat.le_of_ble_eq_true rfl⟩) (fun r_124 hw => ?_)))
  obtain ⟨hw, k_125, -⟩ := hw
  replace hE := hE.trans (Lt_in k_125)
  rcases hw with ⟨rfl, h_126, h_127⟩ | ⟨rfl, h_128⟩
  · replace hE := (hE).trans (if_pos rfl)
    refine lv_if_ne (tgt := 14) hx hb dX12_buyNow_9 (by decide +kernel) (fun c_129 => ?_) (fun c_129 => absurd c_129 (by decide +kernel))
    refine lv_aload_n hx hb dX12_buyNow_14 rfl (lv_at hl 0 rfl) (lv_iload_n hx hb dX12_buyNow_15 rfl (lv_at hl 1 rfl) (pci (va_runV (As := [.int x]) (rest := []) ⟨hx, hb, hml, hown, hts⟩ (v_isHouse l D K x.toInt m0 x m_0 m_1 m_2 w0 m_4 m_5 (.ref u0) (.ref s0) (.int nu) m_9 m_10 m_11 m_12 m_13 m_14 m_15 m_16 m_17 m_18 m_19 m_20 m_21 m_22 m_23 m_24 m_25 m_26 m_27 m_28 m_29 m_30 m_31 m_32 m_33 m_34 m_35 m_36 m_37 m_38 m_39 m_40 m_41 m_42 m_43 m_44 m_45 m_46 m_47 m_48 m_49 m_50 m_51 m_52 m_53 m_54 m_55 m_56 m_57 m_58 m_59 fw s.heap.size rfl zfw) (cwV 1 hts gX12_buyNow_X12_isHouse rfl rfl rfl (by decide +kernel) ⟨Nat.le_of_ble_eq_true rfl, Nat.le_of_ble_eq_true rfl⟩) (mkV hK hN (hP.sub [0, 1] rfl) (hD.sub [0, 1] (by decide +kernel) rfl) (ci := 12) (q0 := 0) rfl rfl) rfl rfl hl.1 rfl (lv_room (Nat.le_of_ble_eq_true rfl)) dX12_buyNow_16 ⟨Nat.le_of_ble_eq_true rfl, Nat.le_of_ble_eq_true rfl⟩) (fun r_130 hw => ?_)))
    obtain ⟨hw, k_131, -⟩ := hw
    replace hE := hE.trans (Lt_in k_131)
    rcases hw with ⟨rfl, h_132, h_133⟩ | rfl
    · replace hE := (hE).trans (if_pos rfl)
      refine lv_if_ne (tgt := 25) hx hb dX12_buyNow_19 (by decide +kernel) (fun c_134 => ?_) (fun c_134 => absurd c_134 (by decide +kernel))
      refine lv_aload_n hx hb dX12_buyNow_25 rfl (lv_at hl 0 rfl) (lv_iconst (v := 2) hx hb dX12_buyNow_26 (by decide +kernel) (kcv (S := Su) (wr := []) (va_runV (As := [.int 2]) (rest := []) ⟨hx, hb, hml, hown, hts⟩ (v_remember l D K m0 2 m_0 m_1 m_2 w0 m_4 m_5 u0 s0 nu m_9 m_10 m_11 m_12 m_13 m_14 m_15 m_16 m_17 m_18 m_19 m_20 m_21 m_22 m_23 m_24 m_25 m_26 m_27 m_28 m_29 m_30 m_31 m_32 m_33 m_34 m_35 m_36 m_37 m_38 m_39 m_40 m_41 m_42 m_43 m_44 m_45 m_46 m_47 m_48 m_49 m_50 m_51 m_52 m_53 m_54 m_55 m_56 m_57 m_58 m_59 fw gr fu fs s.heap.size (by first | omega | decide) (by first | omega | decide) zfw zgr zfu zfs) (cwV 1 hts gX12_buyNow_X12_remember rfl rfl rfl (by decide +kernel) ⟨Nat.le_of_ble_eq_true rfl, Nat.le_of_ble_eq_true rfl⟩) (mkV hK hN (hP.sub [0, 1, 2, 3] rfl) (hD.sub [0, 1, 2, 3] (by decide +kernel) rfl) (ci := 12) (q0 := 0) rfl rfl) rfl rfl hl.1 rfl (lv_room (Nat.le_of_ble_eq_true rfl)) dX12_buyNow_27 ⟨Nat.le_of_ble_eq_true rfl, Nat.le_of_ble_eq_true rfl⟩) hP hD hS hA [0, 1, 2, 3] [] rfl rfl (by decide +kernel) (by decide +kernel) (fun u_136 H locs hw hP0 hD0 hS0 => ?_)))
      replace hP : va_P D vwCl [(cc_O m0 12 [m_0, m_1, m_2, .ref w0, m_4, m_5, .ref u0, .ref s0, .int (u_136.2.2.2.1 0), m_9, m_10, m_11, m_12, m_13, m_14, m_15, m_16, m_17, m_18, m_19, m_20, m_21, m_22, m_23, m_24, m_25, m_26, m_27, m_28, m_29, m_30, m_31, m_32, m_33, m_34, m_35, m_36, m_37, m_38, m_39, m_40, m_41, m_42, m_43, m_44, m_45, m_46, m_47, m_48, m_49, m_50, m_51, m_52, m_53, m_54, m_55, m_56, m_57, m_58, m_59]), (cc_l w0 (K 0) 5500 fw), (cc_l u0 (K 0) 558 (u_136.2.1 0)), (cc_l s0 (K 0) 16 (u_136.2.1 1))] H := hP0
      replace hD := as_D hP hD0 rfl
      replace hS := hS0
      clear hP0 hD0 hS0
      obtain ⟨k_137, k_138, k_139, k_140, -⟩ := hw
      replace hE := (hE.trans (Lt2_in k_140)).trans (Lt2_in rfl)
      refine lv_aload_n hx hb dX12_buyNow_30 rfl (lv_at hl 0 rfl) (va_get (ci := 12) (v := .ref w0) (C := RX12) (T := TX12) (N := 60) hx hb hts hw12 hown hK hP 0 rfl rfl 3 (by decide +kernel) (hts _ mm_X12_buyNow_833) (fun _ h9 => h9) rfl dX12_buyNow_31 (lv_bipush (v := 19) hx hb dX12_buyNow_34 (by decide +kernel) (lv_iload_n hx hb dX12_buyNow_36 rfl (lv_at hl 1 rfl) (lv_iadd hx hb dX12_buyNow_37 (lv_topi (fun x_141 ex_141 => ?_))))))
      replace hE := hE.trans (Lt_in ex_141)
      have hx_141 : x_141.toInt = (19 + x.toInt) := by rw [ex_141]; exact i_add (show (19 : Int32).toInt = 19 from rfl) rfl (by omega)
      refine lv_aload_n hx hb dX12_buyNow_38 rfl (lv_at hl 0 rfl) (va_get (ci := 12) (v := .ref w0) (C := RX12) (T := TX12) (N := 60) hx hb hts hw12 hown hK hP 0 rfl rfl 3 (by decide +kernel) (hts _ mm_X12_buyNow_833) (fun _ h9 => h9) rfl dX12_buyNow_39 (lv_bipush (v := 19) hx hb dX12_buyNow_42 (by decide +kernel) (lv_iload_n hx hb dX12_buyNow_44 rfl (lv_at hl 1 rfl) (lv_iadd hx hb dX12_buyNow_45 (lv_topi (fun x_142 ex_142 => ?_))))))
      replace hE := hE.trans (Lt_in ex_142)
      have hx_142 : x_142.toInt = (19 + x.toInt) := by rw [ex_142]; exact i_add (show (19 : Int32).toInt = 19 from rfl) rfl (by omega)
      refine va_iald hx hb hK hP 1 0 rfl rfl (i_in hx_142 (by omega)) dX12_buyNow_46 (lv_topi (fun x_143 ex_143 => ?_))
      replace hE := hE.trans (Lt_in ex_143)
      have px_143 := RwOK.at zfw hx_142 (show 0 ≤ (19 + x.toInt) ∧ (19 + x.toInt) < 100 by omega)
      rw [← ex_143] at px_143
      refine lv_iload_n hx hb dX12_buyNow_47 rfl (lv_at hl 2 rfl) (lv_iadd hx hb dX12_buyNow_48 (lv_topi (fun x_144 ex_144 => ?_)))
      replace hE := hE.trans (Lt_in ex_144)
      refine lv_i2l hx hb dX12_buyNow_49 rfl (lv_topl (fun x_145 ex_145 => ?_))
      replace hE := hE.trans (Lt_in ex_145)
      have hx_145 : x_145.toInt = x_144.toInt := by rw [ex_145]; exact i_wide rfl
      have hbx_145 := i_rng (a := x_144) rfl
      refine lv_iconst (v := 0) hx hb dX12_buyNow_50 (by decide +kernel) (lv_sipush (v := 999) hx hb dX12_buyNow_51 (by decide +kernel) (pci (va_runS (As := [.long x_145, .int 0, .int 999]) (rest := [.int x_141, .ref w0]) ⟨hx, hb, hml, hown, hts⟩ (v_within_999 l D K x_145 H.size) (va_cwS 3 hts gX12_buyNow_X12_within rfl rfl rfl (by decide +kernel) ⟨Nat.le_of_ble_eq_true rfl, Nat.le_of_ble_eq_true rfl⟩) (mkS hK hN (va_P.nil) (va_D.nil (A := fun _ => True))) rfl rfl hl.1 rfl (lv_room (Nat.le_of_ble_eq_true rfl)) dX12_buyNow_54 ⟨Nat.le_of_ble_eq_true rfl, Nat.le_of_ble_eq_true rfl⟩) (fun r_146 hw => ?_)))
      obtain ⟨h_148, k_147, -⟩ := hw
      replace hE := hE.trans (Lt_in k_147)
      refine va_iast hx hb hK hP hD hS 1 0 rfl rfl (i_in hx_141 (by omega)) dX12_buyNow_57 (fun H locs hP0 hD0 hS0 => ?_)
      replace hP := hP0
      replace hD := hD0
      replace hS := hS0
      clear hP0 hD0 hS0
      generalize hf_149 : (upd fw (x_141 : Int32).toNatClampNeg r_146) = f_149 at hP hD
      replace hE := hE.trans (Lt_in hf_149.symm)
      have hf_149_0 : RwOK f_149 := by rw [← hf_149]; exact RwOK.upd zfw hx_141 (by omega) rfl (PR.free (by omega))
      have hf_149_1 : FzM gr f_149 := by rw [← hf_149]; exact FzM.put zgr hx_141 (by omega)
      have kf_149 : f_149 ((19 + x.toInt)).toNat = r_146 := by rw [← hf_149, i_clamp hx_141]; exact pk_us
      replace hP : va_P D vwCl [(cc_O m0 12 [m_0, m_1, m_2, .ref w0, m_4, m_5, .ref u0, .ref s0, .int (u_136.2.2.2.1 0), m_9, m_10, m_11, m_12, m_13, m_14, m_15, m_16, m_17, m_18, m_19, m_20, m_21, m_22, m_23, m_24, m_25, m_26, m_27, m_28, m_29, m_30, m_31, m_32, m_33, m_34, m_35, m_36, m_37, m_38, m_39, m_40, m_41, m_42, m_43, m_44, m_45, m_46, m_47, m_48, m_49, m_50, m_51, m_52, m_53, m_54, m_55, m_56, m_57, m_58, m_59]), (cc_l w0 (K 0) 5500 f_149), (cc_l u0 (K 0) 558 (u_136.2.1 0)), (cc_l s0 (K 0) 16 (u_136.2.1 1))] H := hP
      replace hD := as_D hP hD rfl
      refine lv_aload_n hx hb dX12_buyNow_58 rfl (lv_at hl 0 rfl) (va_get (ci := 12) (v := .ref w0) (C := RX12) (T := TX12) (N := 60) hx hb hts hw12 hown hK hP 0 rfl rfl 3 (by decide +kernel) (hts _ mm_X12_buyNow_833) (fun _ h9 => h9) rfl dX12_buyNow_59 (lv_bipush (v := 19) hx hb dX12_buyNow_62 (by decide +kernel) (lv_iload_n hx hb dX12_buyNow_64 rfl (lv_at hl 1 rfl) (lv_iadd hx hb dX12_buyNow_65 (lv_topi (fun x_150 ex_150 => ?_))))))
      replace hE := hE.trans (Lt_in ex_150)
      have hx_150 : x_150.toInt = (19 + x.toInt) := by rw [ex_150]; exact i_add (show (19 : Int32).toInt = 19 from rfl) rfl (by omega)
      refine va_iald hx hb hK hP 1 0 rfl rfl (i_in hx_150 (by omega)) dX12_buyNow_66 (lv_topi (fun x_151 ex_151 => ?_))
      replace hE := hE.trans (Lt_in ex_151)
      have erx_151 : x_151 = r_146 := ex_151.trans (by rw [i_clamp hx_150]; exact kf_149)
      have hrx_151 : x_151.toInt = r_146.toInt := (congrArg Int32.toInt erx_151).trans rfl
      rw [← hQ]
      have hP9 := hP.sub (ws' := [(cc_O m0 12 [m_0, m_1, m_2, .ref w0, m_4, m_5, .ref u0, .ref s0, .int (u_136.2.2.2.1 0), m_9, m_10, m_11, m_12, m_13, m_14, m_15, m_16, m_17, m_18, m_19, m_20, m_21, m_22, m_23, m_24, m_25, m_26, m_27, m_28, m_29, m_30, m_31, m_32, m_33, m_34, m_35, m_36, m_37, m_38, m_39, m_40, m_41, m_42, m_43, m_44, m_45, m_46, m_47, m_48, m_49, m_50, m_51, m_52, m_53, m_54, m_55, m_56, m_57, m_58, m_59]), (cc_l w0 (K 0) 5500 f_149), (cc_l u0 (K 0) 558 (u_136.2.1 0)), (cc_l s0 (K 0) 16 (u_136.2.1 1))]) [0, 1, 2, 3] rfl
      have hD9 := sub_D hP9 hD [0, 1, 2, 3] (by decide +kernel) rfl
      exact W.iret (v := x_151) hx hb hr (fun t ht hW => ⟨⟨x_151, ((fun _ => 0, fun i => match i with | 0 => f_149 | 1 => (u_136.2.1 0) | _ => (u_136.2.1 1), fun _ => fun _ => 0, fun i => match i with | _ => (u_136.2.2.2.1 0), fun _ => 0, fun _ => fun _ => none) : Su), rfl, ⟨(show (-2) ≤ x_151.toInt ∧ x_151.toInt ≤ 999 by rw [hrx_151]; omega), (show 0 ≤ ((u_136.2.2.2.1 0) : Int32).toInt ∧ ((u_136.2.2.2.1 0) : Int32).toInt ≤ 16 by omega), hf_149_0, hf_149_1, k_138, k_139, hE.symm, trivial⟩, (⟨by rw [ht]; exact hP9, hD9⟩ : Wd D A _ t)⟩, hS.F ht⟩) hS.2.2 dX12_buyNow_67
    · replace hE := (hE).trans (if_neg (by first | decide | (intro h9; have h8 := congrArg Int32.toInt h9; omega)))
      refine lv_if_ne (tgt := 25) hx hb dX12_buyNow_19 (by decide +kernel) (fun c_152 => absurd (by decide +kernel) c_152) (fun c_152 => ?_)
      refine lv_bipush (v := (-2)) hx hb dX12_buyNow_22 (by decide +kernel) ?_
      rw [← hQ]
      have hP9 := hP.sub (ws' := [(cc_O m0 12 [m_0, m_1, m_2, .ref w0, m_4, m_5, .ref u0, .ref s0, .int nu, m_9, m_10, m_11, m_12, m_13, m_14, m_15, m_16, m_17, m_18, m_19, m_20, m_21, m_22, m_23, m_24, m_25, m_26, m_27, m_28, m_29, m_30, m_31, m_32, m_33, m_34, m_35, m_36, m_37, m_38, m_39, m_40, m_41, m_42, m_43, m_44, m_45, m_46, m_47, m_48, m_49, m_50, m_51, m_52, m_53, m_54, m_55, m_56, m_57, m_58, m_59]), (cc_l w0 (K 0) 5500 fw), (cc_l u0 (K 0) 558 fu), (cc_l s0 (K 0) 16 fs)]) [0, 1, 2, 3] rfl
      have hD9 := sub_D hP9 hD [0, 1, 2, 3] (by decide +kernel) rfl
      exact W.iret (v := (-2)) hx hb hr (fun t ht hW => ⟨⟨(-2), ((fun _ => 0, fun i => match i with | 0 => fw | 1 => fu | _ => fs, fun _ => fun _ => 0, fun i => match i with | _ => nu, fun _ => 0, fun _ => fun _ => none) : Su), rfl, ⟨(show (-2) ≤ ((-2) : Int32).toInt ∧ ((-2) : Int32).toInt ≤ 999 by decide), (show 0 ≤ (nu : Int32).toInt ∧ (nu : Int32).toInt ≤ 16 by omega), zfw, zgr, zfu, zfs, hE.symm, trivial⟩, (⟨by rw [ht]; exact hP9, hD9⟩ : Wd D A _ t)⟩, hS.F ht⟩) hS.2.2 dX12_buyNow_24
  · replace hE := (hE).trans (if_neg (by first | decide | (intro h9; have h8 := congrArg Int32.toInt h9; omega)))
    refine lv_if_ne (tgt := 14) hx hb dX12_buyNow_9 (by decide +kernel) (fun c_153 => absurd (by decide +kernel) c_153) (fun c_153 => ?_)
    refine lv_iconst (v := (-1)) hx hb dX12_buyNow_12 (by decide +kernel) ?_
    rw [← hQ]
    have hP9 := hP.sub (ws' := [(cc_O m0 12 [m_0, m_1, m_2, .ref w0, m_4, m_5, .ref u0, .ref s0, .int nu, m_9, m_10, m_11, m_12, m_13, m_14, m_15, m_16, m_17, m_18, m_19, m_20, m_21, m_22, m_23, m_24, m_25, m_26, m_27, m_28, m_29, m_30, m_31, m_32, m_33, m_34, m_35, m_36, m_37, m_38, m_39, m_40, m_41, m_42, m_43, m_44, m_45, m_46, m_47, m_48, m_49, m_50, m_51, m_52, m_53, m_54, m_55, m_56, m_57, m_58, m_59]), (cc_l w0 (K 0) 5500 fw), (cc_l u0 (K 0) 558 fu), (cc_l s0 (K 0) 16 fs)]) [0, 1, 2, 3] rfl
    have hD9 := sub_D hP9 hD [0, 1, 2, 3] (by decide +kernel) rfl
    exact W.iret (v := (-1)) hx hb hr (fun t ht hW => ⟨⟨(-1), ((fun _ => 0, fun i => match i with | 0 => fw | 1 => fu | _ => fs, fun _ => fun _ => 0, fun i => match i with | _ => nu, fun _ => 0, fun _ => fun _ => none) : Su), rfl, ⟨(show (-2) ≤ ((-1) : Int32).toInt ∧ ((-1) : Int32).toInt ≤ 999 by decide), (show 0 ≤ (nu : Int32).toInt ∧ (nu : Int32).toInt ≤ 16 by omega), zfw, zgr, zfu, zfs, hE.symm, trivial⟩, (⟨by rw [ht]; exact hP9, hD9⟩ : Wd D A _ t)⟩, hS.F ht⟩) hS.2.2 dX12_buyNow_13
set_option maxRecDepth 100000 in
noncomputable def E_v_stoke (x : Int32) (thr : Int32) (sta : Int32) (nu : Int32) (lw : Int32) (bro : Int32) (val : Int64) (sm : Int64) (fw : Nat → Int32) (fe : Nat → Int64) (frs : Nat → Int64) (fu : Nat → Int32) (fs : Nat → Int32) (frf : Nat → Int32) : Int32 × Int32 × Int32 × Int32 × Int32 × Int64 × Int64 × (Nat → Int32) × (Nat → Int64) × (Nat → Int64) × (Nat → Int32) × (Nat → Int32) × (Nat → Int32) :=
  Lt2 (E_v_stokeNow x nu lw bro val sm fw fe frs fu fs) (fun r_91 q0_r_91 => Lt2 q0_r_91 (fun u_92_2_2_2_1_0 q1_u_92_2_2_2_1_0 => Lt2 q1_u_92_2_2_2_1_0 (fun u_92_2_2_2_1_1 q2_u_92_2_2_2_1_1 => Lt2 q2_u_92_2_2_2_1_1 (fun u_92_2_2_2_1_2 q3_u_92_2_2_2_1_2 => Lt2 q3_u_92_2_2_2_1_2 (fun u_92_2_2_2_2_1_0 q4_u_92_2_2_2_2_1_0 => Lt2 q4_u_92_2_2_2_2_1_0 (fun u_92_2_2_2_2_1_1 q5_u_92_2_2_2_2_1_1 => Lt2 q5_u_92_2_2_2_2_1_1 (fun u_92_2_1_0 q6_u_92_2_1_0 => Lt2 q6_u_92_2_1_0 (fun u_92_2_2_1_0 q7_u_92_2_2_1_0 => Lt2 q7_u_92_2_2_1_0 (fun u_92_2_2_1_1 q8_u_92_2_2_1_1 => Lt2 q8_u_92_2_2_1_1 (fun u_92_2_1_1 u_92_2_1_2 => Lt2 (E_v_tell r_91 sta frf) (fun r_101 q0_r_101 => Lt2 q0_r_101 (fun u_102_2_2_2_1_0 u_102_2_1_0 => ((r_101, u_102_2_2_2_1_0, u_92_2_2_2_1_0, u_92_2_2_2_1_1, u_92_2_2_2_1_2, u_92_2_2_2_2_1_0, u_92_2_2_2_2_1_1, u_92_2_1_0, u_92_2_2_1_0, u_92_2_2_1_1, u_92_2_1_1, u_92_2_1_2, u_102_2_1_0) : Int32 × Int32 × Int32 × Int32 × Int32 × Int64 × Int64 × (Nat → Int32) × (Nat → Int64) × (Nat → Int64) × (Nat → Int32) × (Nat → Int32) × (Nat → Int32))))))))))))))
set_option maxHeartbeats 4000000 in
set_option maxRecDepth 100000 in
theorem v_stoke (l : Launch) (D : va_G) (K : Nat → ClassId) (m0 : Nat) (x : Int32) (thr : Int32) (sta : Int32) (r0 : Nat) (w0 : Nat) (m_4 : Value) (m_5 : Value) (u0 : Nat) (s0 : Nat) (nu : Int32) (m_9 : Value) (m_10 : Value) (m_11 : Value) (m_12 : Value) (m_13 : Value) (m_14 : Value) (m_15 : Value) (m_16 : Value) (m_17 : Value) (m_18 : Value) (m_19 : Value) (m_21 : Value) (m_22 : Value) (m_23 : Value) (m_24 : Value) (m_25 : Value) (m_26 : Value) (m_27 : Value) (m_28 : Value) (m_29 : Value) (m_30 : Value) (m_31 : Value) (m_32 : Value) (m_33 : Value) (lw : Int32) (e0 : Nat) (m_36 : Value) (q0 : Nat) (bro : Int32) (val : Int64) (sm : Int64) (m_41 : Value) (m_42 : Value) (m_43 : Value) (m_44 : Value) (m_45 : Value) (m_46 : Value) (m_47 : Value) (m_48 : Value) (m_49 : Value) (m_50 : Value) (m_51 : Value) (m_52 : Value) (m_53 : Value) (m_54 : Value) (m_55 : Value) (m_56 : Value) (m_57 : Value) (m_58 : Value) (m_59 : Value) (fw : Nat → Int32) (gr : Nat → Int32) (fe : Nat → Int64) (frs : Nat → Int64) (fu : Nat → Int32) (fs : Nat → Int32) (frf : Nat → Int32) (sz : Nat) (zbro : 0 ≤ bro.toInt ∧ bro.toInt ≤ 1) (znu : 0 ≤ nu.toInt ∧ nu.toInt ≤ 16) (zfw : RwOK fw) (zgr : FzM gr fw) (zfu : Pu 558 fu) (zfs : Rg 16 0 3 fs) : Met l yX12_stoke wsX12_stoke ({ frames := 8, cells := 0, slots := 0, locals := 188 }) (va_Pc [.ref m0, .int x] (Pre D K [(cc_O m0 12 [.int thr, .int sta, .ref r0, .ref w0, m_4, m_5, .ref u0, .ref s0, .int nu, m_9, m_10, m_11, m_12, m_13, m_14, m_15, m_16, m_17, m_18, m_19, .int 0, m_21, m_22, m_23, m_24, m_25, m_26, m_27, m_28, m_29, m_30, m_31, m_32, m_33, .int lw, .ref e0, m_36, .ref q0, .int bro, .long val, .long sm, m_41, m_42, m_43, m_44, m_45, m_46, m_47, m_48, m_49, m_50, m_51, m_52, m_53, m_54, m_55, m_56, m_57, m_58, m_59]), (cc_l w0 (K 0) 5500 fw), (cc_rl e0 (K 2) 13 fe), (cc_rl q0 (K 2) 400 frs), (cc_l u0 (K 0) 558 fu), (cc_l s0 (K 0) 16 fs), (cc_l r0 (K 0) 7 frf)] sz)) (va_Qi (S := Su) (fun (r : Int32) (u : Su) => ((-6) ≤ r.toInt) ∧ ((-6) ≤ (u.2.2.2.1 0).toInt ∧ (u.2.2.2.1 0).toInt ≤ 0) ∧ (0 ≤ (u.2.2.2.1 1).toInt ∧ (u.2.2.2.1 1).toInt ≤ 16) ∧ (0 ≤ (u.2.2.2.1 3).toInt ∧ (u.2.2.2.1 3).toInt ≤ 1) ∧ (RwOK (u.2.1 0)) ∧ (FzM gr (u.2.1 0)) ∧ (Pu 558 (u.2.1 1)) ∧ (Rg 16 0 3 (u.2.1 2)) ∧ ((r, (u.2.2.2.1 0), (u.2.2.2.1 1), (u.2.2.2.1 2), (u.2.2.2.1 3), (u.2.2.2.2.1 0), (u.2.2.2.2.1 1), (u.2.1 0), (u.2.2.1 0), (u.2.2.1 1), (u.2.1 1), (u.2.1 2), (u.2.1 3)) = E_v_stoke x thr sta nu lw bro val sm fw fe frs fu fs frf) ∧ True) (fun u t => Wd D (va_A [(cc_O m0 12 [.int thr, .int sta, .ref r0, .ref w0, m_4, m_5, .ref u0, .ref s0, .int nu, m_9, m_10, m_11, m_12, m_13, m_14, m_15, m_16, m_17, m_18, m_19, .int 0, m_21, m_22, m_23, m_24, m_25, m_26, m_27, m_28, m_29, m_30, m_31, m_32, m_33, .int lw, .ref e0, m_36, .ref q0, .int bro, .long val, .long sm, m_41, m_42, m_43, m_44, m_45, m_46, m_47, m_48, m_49, m_50, m_51, m_52, m_53, m_54, m_55, m_56, m_57, m_58, m_59]), (cc_l w0 (K 0) 5500 fw), (cc_rl e0 (K 2) 13 fe), (cc_rl q0 (K 2) 400 frs), (cc_l u0 (K 0) 558 fu), (cc_l s0 (K 0) 16 fs), (cc_l r0 (K 0) 7 frf)] sz) ((fun u => [(cc_O m0 12 [.int 0, .int (u.2.2.2.1 0), .ref r0, .ref w0, m_4, m_5, .ref u0, .ref s0, .int (u.2.2.2.1 1), m_9, m_10, m_11, m_12, m_13, m_14, m_15, m_16, m_17, m_18, m_19, .int 0, m_21, m_22, m_23, m_24, m_25, m_26, m_27, m_28, m_29, m_30, m_31, m_32, m_33, .int (u.2.2.2.1 2), .ref e0, m_36, .ref q0, .int (u.2.2.2.1 3), .long (u.2.2.2.2.1 0), .long (u.2.2.2.2.1 1), m_41, m_42, m_43, m_44, m_45, m_46, m_47, m_48, m_49, m_50, m_51, m_52, m_53, m_54, m_55, m_56, m_57, m_58, m_59]), (cc_l w0 (K 0) 5500 (u.2.1 0)), (cc_rl e0 (K 2) 13 (u.2.2.1 0)), (cc_rl q0 (K 2) 400 (u.2.2.1 1)), (cc_l u0 (K 0) 558 (u.2.1 1)), (cc_l s0 (K 0) 16 (u.2.1 2)), (cc_l r0 (K 0) 7 (u.2.1 3))]) u) t) (va_A [(cc_O m0 12 [.int thr, .int sta, .ref r0, .ref w0, m_4, m_5, .ref u0, .ref s0, .int nu, m_9, m_10, m_11, m_12, m_13, m_14, m_15, m_16, m_17, m_18, m_19, .int 0, m_21, m_22, m_23, m_24, m_25, m_26, m_27, m_28, m_29, m_30, m_31, m_32, m_33, .int lw, .ref e0, m_36, .ref q0, .int bro, .long val, .long sm, m_41, m_42, m_43, m_44, m_45, m_46, m_47, m_48, m_49, m_50, m_51, m_52, m_53, m_54, m_55, m_56, m_57, m_58, m_59]), (cc_l w0 (K 0) 5500 fw), (cc_rl e0 (K 2) 13 fe), (cc_rl q0 (K 2) 400 frs), (cc_l u0 (K 0) 558 fu), (cc_l s0 (K 0) 16 fs), (cc_l r0 (K 0) 7 frf)] sz)) 0 0 (va_A [(cc_O m0 12 [.int thr, .int sta, .ref r0, .ref w0, m_4, m_5, .ref u0, .ref s0, .int nu, m_9, m_10, m_11, m_12, m_13, m_14, m_15, m_16, m_17, m_18, m_19, .int 0, m_21, m_22, m_23, m_24, m_25, m_26, m_27, m_28, m_29, m_30, m_31, m_32, m_33, .int lw, .ref e0, m_36, .ref q0, .int bro, .long val, .long sm, m_41, m_42, m_43, m_44, m_45, m_46, m_47, m_48, m_49, m_50, m_51, m_52, m_53, m_54, m_55, m_56, m_57, m_58, m_59]), (cc_l w0 (K 0) 5500 fw), (cc_rl e0 (K 2) 13 fe), (cc_rl q0 (K 2) 400 frs), (cc_l u0 (K 0) 558 fu), (cc_l s0 (K 0) 16 fs), (cc_l r0 (K 0) 7 frf)] sz) := by
  refine Met.ofW (cc := cX12_stoke) (maxL := 2) (ret := (some .int)) (by decide +kernel) rfl ?_
  intro p e s m args below meth c s₁ B hml hv
  obtain ⟨rfl, hsz, hP, hK, hD0, hN⟩ := hv
  have hx := B.exec
  have hb := B.bytes
  have hr := B.returns
  have hts := atoms_spec (ws := wsX12_stoke) B.pre
  have hown : s.vm.findClass RX12 = some m.cls := findClass_of_methodNamed B.named
  have hlocks := B.notSynchronized
  subst hsz
  have hD := hD0.self (sz := s.heap.size)
  generalize hAe : va_A [(cc_O m0 12 [.int thr, .int sta, .ref r0, .ref w0, m_4, m_5, .ref u0, .ref s0, .int nu, m_9, m_10, m_11, m_12, m_13, m_14, m_15, m_16, m_17, m_18, m_19, .int 0, m_21, m_22, m_23, m_24, m_25, m_26, m_27, m_28, m_29, m_30, m_31, m_32, m_33, .int lw, .ref e0, m_36, .ref q0, .int bro, .long val, .long sm, m_41, m_42, m_43, m_44, m_45, m_46, m_47, m_48, m_49, m_50, m_51, m_52, m_53, m_54, m_55, m_56, m_57, m_58, m_59]), (cc_l w0 (K 0) 5500 fw), (cc_rl e0 (K 2) 13 fe), (cc_rl q0 (K 2) 400 frs), (cc_l u0 (K 0) 558 fu), (cc_l s0 (K 0) 16 fs), (cc_l r0 (K 0) 7 frf)] s.heap.size = A at hD ⊢
  have hA : ∀ q : Nat, s.heap.size ≤ q → A q := fun q h => by rw [← hAe]; exact Or.inr h
  clear hAe
  have hS : va_S A s.heap s.heap [] := va_S.rf
  replace hP : va_P D vwCl [(cc_O m0 12 [.int thr, .int sta, .ref r0, .ref w0, m_4, m_5, .ref u0, .ref s0, .int nu, m_9, m_10, m_11, m_12, m_13, m_14, m_15, m_16, m_17, m_18, m_19, .int 0, m_21, m_22, m_23, m_24, m_25, m_26, m_27, m_28, m_29, m_30, m_31, m_32, m_33, .int lw, .ref e0, m_36, .ref q0, .int bro, .long val, .long sm, m_41, m_42, m_43, m_44, m_45, m_46, m_47, m_48, m_49, m_50, m_51, m_52, m_53, m_54, m_55, m_56, m_57, m_58, m_59]), (cc_l w0 (K 0) 5500 fw), (cc_rl e0 (K 2) 13 fe), (cc_rl q0 (K 2) 400 frs), (cc_l u0 (K 0) 558 fu), (cc_l s0 (K 0) 16 fs), (cc_l r0 (K 0) 7 frf)] s.heap := hP
  have hl := lv_entry [.ref m0, .int x] (n := 2) (Nat.le_of_ble_eq_true rfl)
  rw [lg_entry_eq]
  generalize (lg_sl [.ref m0, .int x] ++ List.replicate (2 - (lg_sl [.ref m0, .int x]).length) Slot.unset).toArray = ls at hl ⊢
  have hl : lv_has ls 2 [(0, .ref m0), (1, .int x)] := hl
  have hw12 : ∀ w ∈ wsX120, w ∈ wsX12_stoke := fun w h => (List.mem_cons_of_mem _ (List.mem_append_right _ h))
  generalize hQ : MQ below _ _ s _ _ _ = Q
  have hE := E_v_stoke.eq_def x thr sta nu lw bro val sm fw fe frs fu fs frf
  refine lv_aload_n hx hb dX12_stoke_0 rfl (lv_at hl 0 rfl) (lv_iconst (v := 0) hx hb dX12_stoke_1 (by decide +kernel) (va_put (ci := 12) (v := .int 0) (ty := .int) (C := RX12) (T := TX12) (N := 60) hx hb hts hw12 tyX12 tyX12_ok nmX12 hown hK hP hD hS 0 rfl rfl 0 (by decide +kernel) (hts _ mm_X12_stoke_830) (fun _ h9 => h9) rfl (by decide +kernel) (by first | rfl | decide) (by first | rfl | decide) (Nat.le_of_ble_eq_true rfl) dX12_stoke_2 (fun H locs hP0 hD0 hS0 => ?_)))
  replace hP : va_P D vwCl [(cc_O m0 12 [.int 0, .int sta, .ref r0, .ref w0, m_4, m_5, .ref u0, .ref s0, .int nu, m_9, m_10, m_11, m_12, m_13, m_14, m_15, m_16, m_17, m_18, m_19, .int 0, m_21, m_22, m_23, m_24, m_25, m_26, m_27, m_28, m_29, m_30, m_31, m_32, m_33, .int lw, .ref e0, m_36, .ref q0, .int bro, .long val, .long sm, m_41, m_42, m_43, m_44, m_45, m_46, m_47, m_48, m_49, m_50, m_51, m_52, m_53, m_54, m_55, m_56, m_57, m_58, m_59]), (cc_l w0 (K 0) 5500 fw), (cc_rl e0 (K 2) 13 fe), (cc_rl q0 (K 2) 400 frs), (cc_l u0 (K 0) 558 fu), (cc_l s0 (K 0) 16 fs), (cc_l r0 (K 0) 7 frf)] H := hP0
  replace hD := as_D hP hD0 rfl
  replace hS := hS0
  clear hP0 hD0 hS0
  refine lv_aload_n hx hb dX12_stoke_5 rfl (lv_at hl 0 rfl) (lv_aload_n hx hb dX12_stoke_6 rfl (lv_at hl 0 rfl) (lv_iload_n hx hb dX12_stoke_7 rfl (lv_at hl 1 rfl) (kci (S := Su) (wr := [(cc_l r0 (K 0) 7 frf)]) (va_runV (As := [.int x]) (rest := [.ref m0]) ⟨hx, hb, hml, hown, hts⟩ (v_stokeNow l D K m0 x (.int 0) (.int sta) (.ref r0) w0 m_4 m_5 u0 s0 nu m_9 m_10 m_11 m_12 m_13 m_14 m_15 m_16 m_17 m_18 m_19 m_21 m_22 m_23 m_24 m_25 m_26 m_27 m_28 m_29 m_30 m_31 m_32 m_33 lw e0 m_36 q0 bro val sm m_41 m_42 m_43 m_44 m_45 m_46 m_47 m_48 m_49 m_50 m_51 m_52 m_53 m_54 m_55 m_56 m_57 m_58 m_59 fw gr fe frs fu fs H.size (by first | omega | decide) (by first | omega | decide) zfw zgr zfu zfs) (cwV 1 hts gX12_stoke_X12_stokeNow rfl rfl rfl (by decide +kernel) ⟨Nat.le_of_ble_eq_true rfl, Nat.le_of_ble_eq_true rfl⟩) (mkV hK hN (hP.sub [0, 1, 2, 3, 4, 5] rfl) (hD.sub [0, 1, 2, 3, 4, 5] (by decide +kernel) rfl) (ci := 12) (q0 := 0) rfl rfl) rfl rfl hl.1 rfl (lv_room (Nat.le_of_ble_eq_true rfl)) dX12_stoke_8 ⟨Nat.le_of_ble_eq_true rfl, Nat.le_of_ble_eq_true rfl⟩) hP hD hS hA [0, 1, 2, 3, 4, 5] [6] rfl rfl (by decide +kernel) (by decide +kernel) (fun r_91 u_92 H locs hw hP0 hD0 hS0 => ?_))))
  replace hP : va_P D vwCl [(cc_l r0 (K 0) 7 frf), (cc_O m0 12 [.int 0, .int sta, .ref r0, .ref w0, m_4, m_5, .ref u0, .ref s0, .int (u_92.2.2.2.1 0), m_9, m_10, m_11, m_12, m_13, m_14, m_15, m_16, m_17, m_18, m_19, .int 0, m_21, m_22, m_23, m_24, m_25, m_26, m_27, m_28, m_29, m_30, m_31, m_32, m_33, .int (u_92.2.2.2.1 1), .ref e0, m_36, .ref q0, .int (u_92.2.2.2.1 2), .long (u_92.2.2.2.2.1 0), .long (u_92.2.2.2.2.1 1), m_41, m_42, m_43, m_44, m_45, m_46, m_47, m_48, m_49, m_50, m_51, m_52, m_53, m_54, m_55, m_56, m_57, m_58, m_59]), (cc_l w0 (K 0) 5500 (u_92.2.1 0)), (cc_rl e0 (K 2) 13 (u_92.2.2.1 0)), (cc_rl q0 (K 2) 400 (u_92.2.2.1 1)), (cc_l u0 (K 0) 558 (u_92.2.1 1)), (cc_l s0 (K 0) 16 (u_92.2.1 2))] H := hP0
  replace hD := as_D hP hD0 rfl
  replace hS := hS0
  clear hP0 hD0 hS0
  obtain ⟨h_100, k_93, k_94, k_95, k_96, k_97, k_98, k_99, -⟩ := hw
  replace hE := (((((((((hE.trans (Lt2_in k_99)).trans (Lt2_in rfl)).trans (Lt2_in rfl)).trans (Lt2_in rfl)).trans (Lt2_in rfl)).trans (Lt2_in rfl)).trans (Lt2_in rfl)).trans (Lt2_in rfl)).trans (Lt2_in rfl)).trans (Lt2_in rfl)
  refine kci (S := Su) (wr := [(cc_l w0 (K 0) 5500 (u_92.2.1 0)), (cc_rl e0 (K 2) 13 (u_92.2.2.1 0)), (cc_rl q0 (K 2) 400 (u_92.2.2.1 1)), (cc_l u0 (K 0) 558 (u_92.2.1 1)), (cc_l s0 (K 0) 16 (u_92.2.1 2))]) (va_runV (As := [.int r_91]) (rest := []) ⟨hx, hb, hml, hown, hts⟩ (v_tell l D K m0 r_91 (.int 0) sta r0 (.ref w0) m_4 m_5 (.ref u0) (.ref s0) (.int (u_92.2.2.2.1 0)) m_9 m_10 m_11 m_12 m_13 m_14 m_15 m_16 m_17 m_18 m_19 (.int 0) m_21 m_22 m_23 m_24 m_25 m_26 m_27 m_28 m_29 m_30 m_31 m_32 m_33 (.int (u_92.2.2.2.1 1)) (.ref e0) m_36 (.ref q0) (.int (u_92.2.2.2.1 2)) (.long (u_92.2.2.2.2.1 0)) (.long (u_92.2.2.2.2.1 1)) m_41 m_42 m_43 m_44 m_45 m_46 m_47 m_48 m_49 m_50 m_51 m_52 m_53 m_54 m_55 m_56 m_57 m_58 m_59 frf H.size (by first | omega | decide)) (cwV 1 hts gX12_stoke_X12_tell rfl rfl rfl (by decide +kernel) ⟨Nat.le_of_ble_eq_true rfl, Nat.le_of_ble_eq_true rfl⟩) (mkV hK hN (hP.sub [1, 0] rfl) (hD.sub [1, 0] (by decide +kernel) rfl) (ci := 12) (q0 := 0) rfl rfl) rfl rfl hl.1 rfl (lv_room (Nat.le_of_ble_eq_true rfl)) dX12_stoke_11 ⟨Nat.le_of_ble_eq_true rfl, Nat.le_of_ble_eq_true rfl⟩) hP hD hS hA [1, 0] [2, 3, 4, 5, 6] rfl rfl (by decide +kernel) (by decide +kernel) (fun r_101 u_102 H locs hw hP0 hD0 hS0 => ?_)
  replace hP : va_P D vwCl [(cc_l w0 (K 0) 5500 (u_92.2.1 0)), (cc_rl e0 (K 2) 13 (u_92.2.2.1 0)), (cc_rl q0 (K 2) 400 (u_92.2.2.1 1)), (cc_l u0 (K 0) 558 (u_92.2.1 1)), (cc_l s0 (K 0) 16 (u_92.2.1 2)), (cc_O m0 12 [.int 0, .int (u_102.2.2.2.1 0), .ref r0, .ref w0, m_4, m_5, .ref u0, .ref s0, .int (u_92.2.2.2.1 0), m_9, m_10, m_11, m_12, m_13, m_14, m_15, m_16, m_17, m_18, m_19, .int 0, m_21, m_22, m_23, m_24, m_25, m_26, m_27, m_28, m_29, m_30, m_31, m_32, m_33, .int (u_92.2.2.2.1 1), .ref e0, m_36, .ref q0, .int (u_92.2.2.2.1 2), .long (u_92.2.2.2.2.1 0), .long (u_92.2.2.2.2.1 1), m_41, m_42, m_43, m_44, m_45, m_46, m_47, m_48, m_49, m_50, m_51, m_52, m_53, m_54, m_55, m_56, m_57, m_58, m_59]), (cc_l r0 (K 0) 7 (u_102.2.1 0))] H := hP0
  replace hD := as_D hP hD0 rfl
  replace hS := hS0
  clear hP0 hD0 hS0
  obtain ⟨h_105, k_103, k_104, -⟩ := hw
  replace hE := (hE.trans (Lt2_in k_104)).trans (Lt2_in rfl)
  rw [← hQ]
  have hP9 := hP.sub (ws' := [(cc_O m0 12 [.int 0, .int (u_102.2.2.2.1 0), .ref r0, .ref w0, m_4, m_5, .ref u0, .ref s0, .int (u_92.2.2.2.1 0), m_9, m_10, m_11, m_12, m_13, m_14, m_15, m_16, m_17, m_18, m_19, .int 0, m_21, m_22, m_23, m_24, m_25, m_26, m_27, m_28, m_29, m_30, m_31, m_32, m_33, .int (u_92.2.2.2.1 1), .ref e0, m_36, .ref q0, .int (u_92.2.2.2.1 2), .long (u_92.2.2.2.2.1 0), .long (u_92.2.2.2.2.1 1), m_41, m_42, m_43, m_44, m_45, m_46, m_47, m_48, m_49, m_50, m_51, m_52, m_53, m_54, m_55, m_56, m_57, m_58, m_59]), (cc_l w0 (K 0) 5500 (u_92.2.1 0)), (cc_rl e0 (K 2) 13 (u_92.2.2.1 0)), (cc_rl q0 (K 2) 400 (u_92.2.2.1 1)), (cc_l u0 (K 0) 558 (u_92.2.1 1)), (cc_l s0 (K 0) 16 (u_92.2.1 2)), (cc_l r0 (K 0) 7 (u_102.2.1 0))]) [5, 0, 1, 2, 3, 4, 6] rfl
  have hD9 := sub_D hP9 hD [5, 0, 1, 2, 3, 4, 6] (by decide +kernel) rfl
  exact W.iret (v := r_101) hx hb hr (fun t ht hW => ⟨⟨r_101, ((fun _ => 0, fun i => match i with | 0 => (u_92.2.1 0) | 1 => (u_92.2.1 1) | 2 => (u_92.2.1 2) | _ => (u_102.2.1 0), fun i => match i with | 0 => (u_92.2.2.1 0) | _ => (u_92.2.2.1 1), fun i => match i with | 0 => (u_102.2.2.2.1 0) | 1 => (u_92.2.2.2.1 0) | 2 => (u_92.2.2.2.1 1) | _ => (u_92.2.2.2.1 2), fun i => match i with | 0 => (u_92.2.2.2.2.1 0) | _ => (u_92.2.2.2.2.1 1), fun _ => fun _ => none) : Su), rfl, ⟨(show (-6) ≤ r_101.toInt by omega), (show (-6) ≤ ((u_102.2.2.2.1 0) : Int32).toInt ∧ ((u_102.2.2.2.1 0) : Int32).toInt ≤ 0 by omega), (show 0 ≤ ((u_92.2.2.2.1 0) : Int32).toInt ∧ ((u_92.2.2.2.1 0) : Int32).toInt ≤ 16 by omega), (show 0 ≤ ((u_92.2.2.2.1 2) : Int32).toInt ∧ ((u_92.2.2.2.1 2) : Int32).toInt ≤ 1 by omega), k_95, k_96, k_97, k_98, hE.symm, trivial⟩, (⟨by rw [ht]; exact hP9, hD9⟩ : Wd D A _ t)⟩, hS.F ht⟩) hS.2.2 dX12_stoke_14
set_option maxRecDepth 100000 in
noncomputable def E_v_damp (x : Int32) (y : Int32) (thr : Int32) (sta : Int32) (nu : Int32) (lw : Int32) (bro : Int32) (val : Int64) (sm : Int64) (fw : Nat → Int32) (fe : Nat → Int64) (frs : Nat → Int64) (fu : Nat → Int32) (fs : Nat → Int32) (frf : Nat → Int32) : Int32 × Int32 × Int32 × (Nat → Int32) × (Nat → Int32) × (Nat → Int32) × (Nat → Int32) :=
  Lt2 (E_v_dampNow x y nu fw fu fs) (fun r_89 q0_r_89 => Lt2 q0_r_89 (fun u_90_2_2_2_1_0 q1_u_90_2_2_2_1_0 => Lt2 q1_u_90_2_2_2_1_0 (fun u_90_2_1_0 q2_u_90_2_1_0 => Lt2 q2_u_90_2_1_0 (fun u_90_2_1_1 u_90_2_1_2 => Lt2 (E_v_tell r_89 sta frf) (fun r_98 q0_r_98 => Lt2 q0_r_98 (fun u_99_2_2_2_1_0 u_99_2_1_0 => ((r_98, u_99_2_2_2_1_0, u_90_2_2_2_1_0, u_90_2_1_0, u_90_2_1_1, u_90_2_1_2, u_99_2_1_0) : Int32 × Int32 × Int32 × (Nat → Int32) × (Nat → Int32) × (Nat → Int32) × (Nat → Int32))))))))
set_option maxHeartbeats 4000000 in
set_option maxRecDepth 100000 in
theorem v_damp (l : Launch) (D : va_G) (K : Nat → ClassId) (m0 : Nat) (x : Int32) (y : Int32) (thr : Int32) (sta : Int32) (r0 : Nat) (w0 : Nat) (m_4 : Value) (m_5 : Value) (u0 : Nat) (s0 : Nat) (nu : Int32) (m_9 : Value) (m_10 : Value) (m_11 : Value) (m_12 : Value) (m_13 : Value) (m_14 : Value) (m_15 : Value) (m_16 : Value) (m_17 : Value) (m_18 : Value) (m_19 : Value) (m_21 : Value) (m_22 : Value) (m_23 : Value) (m_24 : Value) (m_25 : Value) (m_26 : Value) (m_27 : Value) (m_28 : Value) (m_29 : Value) (m_30 : Value) (m_31 : Value) (m_32 : Value) (m_33 : Value) (lw : Int32) (e0 : Nat) (m_36 : Value) (q0 : Nat) (bro : Int32) (val : Int64) (sm : Int64) (m_41 : Value) (m_42 : Value) (m_43 : Value) (m_44 : Value) (m_45 : Value) (m_46 : Value) (m_47 : Value) (m_48 : Value) (m_49 : Value) (m_50 : Value) (m_51 : Value) (m_52 : Value) (m_53 : Value) (m_54 : Value) (m_55 : Value) (m_56 : Value) (m_57 : Value) (m_58 : Value) (m_59 : Value) (fw : Nat → Int32) (gr : Nat → Int32) (fe : Nat → Int64) (frs : Nat → Int64) (fu : Nat → Int32) (fs : Nat → Int32) (frf : Nat → Int32) (sz : Nat) (zbro : 0 ≤ bro.toInt ∧ bro.toInt ≤ 1) (znu : 0 ≤ nu.toInt ∧ nu.toInt ≤ 16) (zfw : RwOK fw) (zgr : FzM gr fw) (zfu : Pu 558 fu) (zfs : Rg 16 0 3 fs) : Met l yX12_damp wsX12_damp ({ frames := 3, cells := 0, slots := 0, locals := 68 }) (va_Pc [.ref m0, .int x, .int y] (Pre D K [(cc_O m0 12 [.int thr, .int sta, .ref r0, .ref w0, m_4, m_5, .ref u0, .ref s0, .int nu, m_9, m_10, m_11, m_12, m_13, m_14, m_15, m_16, m_17, m_18, m_19, .int 0, m_21, m_22, m_23, m_24, m_25, m_26, m_27, m_28, m_29, m_30, m_31, m_32, m_33, .int lw, .ref e0, m_36, .ref q0, .int bro, .long val, .long sm, m_41, m_42, m_43, m_44, m_45, m_46, m_47, m_48, m_49, m_50, m_51, m_52, m_53, m_54, m_55, m_56, m_57, m_58, m_59]), (cc_l w0 (K 0) 5500 fw), (cc_rl e0 (K 2) 13 fe), (cc_rl q0 (K 2) 400 frs), (cc_l u0 (K 0) 558 fu), (cc_l s0 (K 0) 16 fs), (cc_l r0 (K 0) 7 frf)] sz)) (va_Qi (S := Su) (fun (r : Int32) (u : Su) => ((-6) ≤ r.toInt) ∧ ((-6) ≤ (u.2.2.2.1 0).toInt ∧ (u.2.2.2.1 0).toInt ≤ 0) ∧ (0 ≤ (u.2.2.2.1 1).toInt ∧ (u.2.2.2.1 1).toInt ≤ 16) ∧ (RwOK (u.2.1 0)) ∧ (FzM gr (u.2.1 0)) ∧ (Pu 558 (u.2.1 1)) ∧ (Rg 16 0 3 (u.2.1 2)) ∧ ((r, (u.2.2.2.1 0), (u.2.2.2.1 1), (u.2.1 0), (u.2.1 1), (u.2.1 2), (u.2.1 3)) = E_v_damp x y thr sta nu lw bro val sm fw fe frs fu fs frf) ∧ True) (fun u t => Wd D (va_A [(cc_O m0 12 [.int thr, .int sta, .ref r0, .ref w0, m_4, m_5, .ref u0, .ref s0, .int nu, m_9, m_10, m_11, m_12, m_13, m_14, m_15, m_16, m_17, m_18, m_19, .int 0, m_21, m_22, m_23, m_24, m_25, m_26, m_27, m_28, m_29, m_30, m_31, m_32, m_33, .int lw, .ref e0, m_36, .ref q0, .int bro, .long val, .long sm, m_41, m_42, m_43, m_44, m_45, m_46, m_47, m_48, m_49, m_50, m_51, m_52, m_53, m_54, m_55, m_56, m_57, m_58, m_59]), (cc_l w0 (K 0) 5500 fw), (cc_rl e0 (K 2) 13 fe), (cc_rl q0 (K 2) 400 frs), (cc_l u0 (K 0) 558 fu), (cc_l s0 (K 0) 16 fs), (cc_l r0 (K 0) 7 frf)] sz) ((fun u => [(cc_O m0 12 [.int 0, .int (u.2.2.2.1 0), .ref r0, .ref w0, m_4, m_5, .ref u0, .ref s0, .int (u.2.2.2.1 1), m_9, m_10, m_11, m_12, m_13, m_14, m_15, m_16, m_17, m_18, m_19, .int 0, m_21, m_22, m_23, m_24, m_25, m_26, m_27, m_28, m_29, m_30, m_31, m_32, m_33, .int lw, .ref e0, m_36, .ref q0, .int bro, .long val, .long sm, m_41, m_42, m_43, m_44, m_45, m_46, m_47, m_48, m_49, m_50, m_51, m_52, m_53, m_54, m_55, m_56, m_57, m_58, m_59]), (cc_l w0 (K 0) 5500 (u.2.1 0)), (cc_rl e0 (K 2) 13 fe), (cc_rl q0 (K 2) 400 frs), (cc_l u0 (K 0) 558 (u.2.1 1)), (cc_l s0 (K 0) 16 (u.2.1 2)), (cc_l r0 (K 0) 7 (u.2.1 3))]) u) t) (va_A [(cc_O m0 12 [.int thr, .int sta, .ref r0, .ref w0, m_4, m_5, .ref u0, .ref s0, .int nu, m_9, m_10, m_11, m_12, m_13, m_14, m_15, m_16, m_17, m_18, m_19, .int 0, m_21, m_22, m_23, m_24, m_25, m_26, m_27, m_28, m_29, m_30, m_31, m_32, m_33, .int lw, .ref e0, m_36, .ref q0, .int bro, .long val, .long sm, m_41, m_42, m_43, m_44, m_45, m_46, m_47, m_48, m_49, m_50, m_51, m_52, m_53, m_54, m_55, m_56, m_57, m_58, m_59]), (cc_l w0 (K 0) 5500 fw), (cc_rl e0 (K 2) 13 fe), (cc_rl q0 (K 2) 400 frs), (cc_l u0 (K 0) 558 fu), (cc_l s0 (K 0) 16 fs), (cc_l r0 (K 0) 7 frf)] sz)) 0 0 (va_A [(cc_O m0 12 [.int thr, .int sta, .ref r0, .ref w0, m_4, m_5, .ref u0, .ref s0, .int nu, m_9, m_10, m_11, m_12, m_13, m_14, m_15, m_16, m_17, m_18, m_19, .int 0, m_21, m_22, m_23, m_24, m_25, m_26, m_27, m_28, m_29, m_30, m_31, m_32, m_33, .int lw, .ref e0, m_36, .ref q0, .int bro, .long val, .long sm, m_41, m_42, m_43, m_44, m_45, m_46, m_47, m_48, m_49, m_50, m_51, m_52, m_53, m_54, m_55, m_56, m_57, m_58, m_59]), (cc_l w0 (K 0) 5500 fw), (cc_rl e0 (K 2) 13 fe), (cc_rl q0 (K 2) 400 frs), (cc_l u0 (K 0) 558 fu), (cc_l s0 (K 0) 16 fs), (cc_l r0 (K 0) 7 frf)] sz) := by
  refine Met.ofW (cc := cX12_damp) (maxL := 3) (ret := (some .int)) (by decide +kernel) rfl ?_
  intro p e s m args below meth c s₁ B hml hv
  obtain ⟨rfl, hsz, hP, hK, hD0, hN⟩ := hv
  have hx := B.exec
  have hb := B.bytes
  have hr := B.returns
  have hts := atoms_spec (ws := wsX12_damp) B.pre
  have hown : s.vm.findClass RX12 = some m.cls := findClass_of_methodNamed B.named
  have hlocks := B.notSynchronized
  subst hsz
  have hD := hD0.self (sz := s.heap.size)
  generalize hAe : va_A [(cc_O m0 12 [.int thr, .int sta, .ref r0, .ref w0, m_4, m_5, .ref u0, .ref s0, .int nu, m_9, m_10, m_11, m_12, m_13, m_14, m_15, m_16, m_17, m_18, m_19, .int 0, m_21, m_22, m_23, m_24, m_25, m_26, m_27, m_28, m_29, m_30, m_31, m_32, m_33, .int lw, .ref e0, m_36, .ref q0, .int bro, .long val, .long sm, m_41, m_42, m_43, m_44, m_45, m_46, m_47, m_48, m_49, m_50, m_51, m_52, m_53, m_54, m_55, m_56, m_57, m_58, m_59]), (cc_l w0 (K 0) 5500 fw), (cc_rl e0 (K 2) 13 fe), (cc_rl q0 (K 2) 400 frs), (cc_l u0 (K 0) 558 fu), (cc_l s0 (K 0) 16 fs), (cc_l r0 (K 0) 7 frf)] s.heap.size = A at hD ⊢
  have hA : ∀ q : Nat, s.heap.size ≤ q → A q := fun q h => by rw [← hAe]; exact Or.inr h
  clear hAe
  have hS : va_S A s.heap s.heap [] := va_S.rf
  replace hP : va_P D vwCl [(cc_O m0 12 [.int thr, .int sta, .ref r0, .ref w0, m_4, m_5, .ref u0, .ref s0, .int nu, m_9, m_10, m_11, m_12, m_13, m_14, m_15, m_16, m_17, m_18, m_19, .int 0, m_21, m_22, m_23, m_24, m_25, m_26, m_27, m_28, m_29, m_30, m_31, m_32, m_33, .int lw, .ref e0, m_36, .ref q0, .int bro, .long val, .long sm, m_41, m_42, m_43, m_44, m_45, m_46, m_47, m_48, m_49, m_50, m_51, m_52, m_53, m_54, m_55, m_56, m_57, m_58, m_59]), (cc_l w0 (K 0) 5500 fw), (cc_rl e0 (K 2) 13 fe), (cc_rl q0 (K 2) 400 frs), (cc_l u0 (K 0) 558 fu), (cc_l s0 (K 0) 16 fs), (cc_l r0 (K 0) 7 frf)] s.heap := hP
  have hl := lv_entry [.ref m0, .int x, .int y] (n := 3) (Nat.le_of_ble_eq_true rfl)
  rw [lg_entry_eq]
  generalize (lg_sl [.ref m0, .int x, .int y] ++ List.replicate (3 - (lg_sl [.ref m0, .int x, .int y]).length) Slot.unset).toArray = ls at hl ⊢
  have hl : lv_has ls 3 [(0, .ref m0), (1, .int x), (2, .int y)] := hl
  have hw12 : ∀ w ∈ wsX120, w ∈ wsX12_damp := fun w h => (List.mem_cons_of_mem _ (List.mem_append_right _ h))
  generalize hQ : MQ below _ _ s _ _ _ = Q
  have hE := E_v_damp.eq_def x y thr sta nu lw bro val sm fw fe frs fu fs frf
  refine lv_aload_n hx hb dX12_damp_0 rfl (lv_at hl 0 rfl) (lv_iconst (v := 0) hx hb dX12_damp_1 (by decide +kernel) (va_put (ci := 12) (v := .int 0) (ty := .int) (C := RX12) (T := TX12) (N := 60) hx hb hts hw12 tyX12 tyX12_ok nmX12 hown hK hP hD hS 0 rfl rfl 0 (by decide +kernel) (hts _ mm_X12_damp_830) (fun _ h9 => h9) rfl (by decide +kernel) (by first | rfl | decide) (by first | rfl | decide) (Nat.le_of_ble_eq_true rfl) dX12_damp_2 (fun H locs hP0 hD0 hS0 => ?_)))
  replace hP : va_P D vwCl [(cc_O m0 12 [.int 0, .int sta, .ref r0, .ref w0, m_4, m_5, .ref u0, .ref s0, .int nu, m_9, m_10, m_11, m_12, m_13, m_14, m_15, m_16, m_17, m_18, m_19, .int 0, m_21, m_22, m_23, m_24, m_25, m_26, m_27, m_28, m_29, m_30, m_31, m_32, m_33, .int lw, .ref e0, m_36, .ref q0, .int bro, .long val, .long sm, m_41, m_42, m_43, m_44, m_45, m_46, m_47, m_48, m_49, m_50, m_51, m_52, m_53, m_54, m_55, m_56, m_57, m_58, m_59]), (cc_l w0 (K 0) 5500 fw), (cc_rl e0 (K 2) 13 fe), (cc_rl q0 (K 2) 400 frs), (cc_l u0 (K 0) 558 fu), (cc_l s0 (K 0) 16 fs), (cc_l r0 (K 0) 7 frf)] H := hP0
  replace hD := as_D hP hD0 rfl
  replace hS := hS0
  clear hP0 hD0 hS0
  refine lv_aload_n hx hb dX12_damp_5 rfl (lv_at hl 0 rfl) (lv_aload_n hx hb dX12_damp_6 rfl (lv_at hl 0 rfl) (lv_iload_n hx hb dX12_damp_7 rfl (lv_at hl 1 rfl) (lv_iload_n hx hb dX12_damp_8 rfl (lv_at hl 2 rfl) (kci (S := Su) (wr := [(cc_rl e0 (K 2) 13 fe), (cc_rl q0 (K 2) 400 frs), (cc_l r0 (K 0) 7 frf)]) (va_runV (As := [.int x, .int y]) (rest := [.ref m0]) ⟨hx, hb, hml, hown, hts⟩ (v_dampNow l D K m0 x y (.int 0) (.int sta) (.ref r0) w0 m_4 m_5 u0 s0 nu m_9 m_10 m_11 m_12 m_13 m_14 m_15 m_16 m_17 m_18 m_19 (.int 0) m_21 m_22 m_23 m_24 m_25 m_26 m_27 m_28 m_29 m_30 m_31 m_32 m_33 (.int lw) (.ref e0) m_36 (.ref q0) (.int bro) (.long val) (.long sm) m_41 m_42 m_43 m_44 m_45 m_46 m_47 m_48 m_49 m_50 m_51 m_52 m_53 m_54 m_55 m_56 m_57 m_58 m_59 fw gr fu fs H.size (by first | omega | decide) zfw zgr zfu zfs) (cwV 2 hts gX12_damp_X12_dampNow rfl rfl rfl (by decide +kernel) ⟨Nat.le_of_ble_eq_true rfl, Nat.le_of_ble_eq_true rfl⟩) (mkV hK hN (hP.sub [0, 1, 4, 5] rfl) (hD.sub [0, 1, 4, 5] (by decide +kernel) rfl) (ci := 12) (q0 := 0) rfl rfl) rfl rfl hl.1 rfl (lv_room (Nat.le_of_ble_eq_true rfl)) dX12_damp_9 ⟨Nat.le_of_ble_eq_true rfl, Nat.le_of_ble_eq_true rfl⟩) hP hD hS hA [0, 1, 4, 5] [2, 3, 6] rfl rfl (by decide +kernel) (by decide +kernel) (fun r_89 u_90 H locs hw hP0 hD0 hS0 => ?_)))))
  replace hP : va_P D vwCl [(cc_rl e0 (K 2) 13 fe), (cc_rl q0 (K 2) 400 frs), (cc_l r0 (K 0) 7 frf), (cc_O m0 12 [.int 0, .int sta, .ref r0, .ref w0, m_4, m_5, .ref u0, .ref s0, .int (u_90.2.2.2.1 0), m_9, m_10, m_11, m_12, m_13, m_14, m_15, m_16, m_17, m_18, m_19, .int 0, m_21, m_22, m_23, m_24, m_25, m_26, m_27, m_28, m_29, m_30, m_31, m_32, m_33, .int lw, .ref e0, m_36, .ref q0, .int bro, .long val, .long sm, m_41, m_42, m_43, m_44, m_45, m_46, m_47, m_48, m_49, m_50, m_51, m_52, m_53, m_54, m_55, m_56, m_57, m_58, m_59]), (cc_l w0 (K 0) 5500 (u_90.2.1 0)), (cc_l u0 (K 0) 558 (u_90.2.1 1)), (cc_l s0 (K 0) 16 (u_90.2.1 2))] H := hP0
  replace hD := as_D hP hD0 rfl
  replace hS := hS0
  clear hP0 hD0 hS0
  obtain ⟨h_97, k_91, k_92, k_93, k_94, k_95, k_96, -⟩ := hw
  replace hE := (((hE.trans (Lt2_in k_96)).trans (Lt2_in rfl)).trans (Lt2_in rfl)).trans (Lt2_in rfl)
  refine kci (S := Su) (wr := [(cc_rl e0 (K 2) 13 fe), (cc_rl q0 (K 2) 400 frs), (cc_l w0 (K 0) 5500 (u_90.2.1 0)), (cc_l u0 (K 0) 558 (u_90.2.1 1)), (cc_l s0 (K 0) 16 (u_90.2.1 2))]) (va_runV (As := [.int r_89]) (rest := []) ⟨hx, hb, hml, hown, hts⟩ (v_tell l D K m0 r_89 (.int 0) sta r0 (.ref w0) m_4 m_5 (.ref u0) (.ref s0) (.int (u_90.2.2.2.1 0)) m_9 m_10 m_11 m_12 m_13 m_14 m_15 m_16 m_17 m_18 m_19 (.int 0) m_21 m_22 m_23 m_24 m_25 m_26 m_27 m_28 m_29 m_30 m_31 m_32 m_33 (.int lw) (.ref e0) m_36 (.ref q0) (.int bro) (.long val) (.long sm) m_41 m_42 m_43 m_44 m_45 m_46 m_47 m_48 m_49 m_50 m_51 m_52 m_53 m_54 m_55 m_56 m_57 m_58 m_59 frf H.size (by first | omega | decide)) (cwV 1 hts gX12_damp_X12_tell rfl rfl rfl (by decide +kernel) ⟨Nat.le_of_ble_eq_true rfl, Nat.le_of_ble_eq_true rfl⟩) (mkV hK hN (hP.sub [3, 2] rfl) (hD.sub [3, 2] (by decide +kernel) rfl) (ci := 12) (q0 := 0) rfl rfl) rfl rfl hl.1 rfl (lv_room (Nat.le_of_ble_eq_true rfl)) dX12_damp_12 ⟨Nat.le_of_ble_eq_true rfl, Nat.le_of_ble_eq_true rfl⟩) hP hD hS hA [3, 2] [0, 1, 4, 5, 6] rfl rfl (by decide +kernel) (by decide +kernel) (fun r_98 u_99 H locs hw hP0 hD0 hS0 => ?_)
  replace hP : va_P D vwCl [(cc_rl e0 (K 2) 13 fe), (cc_rl q0 (K 2) 400 frs), (cc_l w0 (K 0) 5500 (u_90.2.1 0)), (cc_l u0 (K 0) 558 (u_90.2.1 1)), (cc_l s0 (K 0) 16 (u_90.2.1 2)), (cc_O m0 12 [.int 0, .int (u_99.2.2.2.1 0), .ref r0, .ref w0, m_4, m_5, .ref u0, .ref s0, .int (u_90.2.2.2.1 0), m_9, m_10, m_11, m_12, m_13, m_14, m_15, m_16, m_17, m_18, m_19, .int 0, m_21, m_22, m_23, m_24, m_25, m_26, m_27, m_28, m_29, m_30, m_31, m_32, m_33, .int lw, .ref e0, m_36, .ref q0, .int bro, .long val, .long sm, m_41, m_42, m_43, m_44, m_45, m_46, m_47, m_48, m_49, m_50, m_51, m_52, m_53, m_54, m_55, m_56, m_57, m_58, m_59]), (cc_l r0 (K 0) 7 (u_99.2.1 0))] H := hP0
  replace hD := as_D hP hD0 rfl
  replace hS := hS0
  clear hP0 hD0 hS0
  obtain ⟨h_102, k_100, k_101, -⟩ := hw
  replace hE := (hE.trans (Lt2_in k_101)).trans (Lt2_in rfl)
  rw [← hQ]
  have hP9 := hP.sub (ws' := [(cc_O m0 12 [.int 0, .int (u_99.2.2.2.1 0), .ref r0, .ref w0, m_4, m_5, .ref u0, .ref s0, .int (u_90.2.2.2.1 0), m_9, m_10, m_11, m_12, m_13, m_14, m_15, m_16, m_17, m_18, m_19, .int 0, m_21, m_22, m_23, m_24, m_25, m_26, m_27, m_28, m_29, m_30, m_31, m_32, m_33, .int lw, .ref e0, m_36, .ref q0, .int bro, .long val, .long sm, m_41, m_42, m_43, m_44, m_45, m_46, m_47, m_48, m_49, m_50, m_51, m_52, m_53, m_54, m_55, m_56, m_57, m_58, m_59]), (cc_l w0 (K 0) 5500 (u_90.2.1 0)), (cc_rl e0 (K 2) 13 fe), (cc_rl q0 (K 2) 400 frs), (cc_l u0 (K 0) 558 (u_90.2.1 1)), (cc_l s0 (K 0) 16 (u_90.2.1 2)), (cc_l r0 (K 0) 7 (u_99.2.1 0))]) [5, 2, 0, 1, 3, 4, 6] rfl
  have hD9 := sub_D hP9 hD [5, 2, 0, 1, 3, 4, 6] (by decide +kernel) rfl
  exact W.iret (v := r_98) hx hb hr (fun t ht hW => ⟨⟨r_98, ((fun _ => 0, fun i => match i with | 0 => (u_90.2.1 0) | 1 => (u_90.2.1 1) | 2 => (u_90.2.1 2) | _ => (u_99.2.1 0), fun _ => fun _ => 0, fun i => match i with | 0 => (u_99.2.2.2.1 0) | _ => (u_90.2.2.2.1 0), fun _ => 0, fun _ => fun _ => none) : Su), rfl, ⟨(show (-6) ≤ r_98.toInt by omega), (show (-6) ≤ ((u_99.2.2.2.1 0) : Int32).toInt ∧ ((u_99.2.2.2.1 0) : Int32).toInt ≤ 0 by omega), (show 0 ≤ ((u_90.2.2.2.1 0) : Int32).toInt ∧ ((u_90.2.2.2.1 0) : Int32).toInt ≤ 16 by omega), k_92, k_93, k_94, k_95, hE.symm, trivial⟩, (⟨by rw [ht]; exact hP9, hD9⟩ : Wd D A _ t)⟩, hS.F ht⟩) hS.2.2 dX12_damp_15
set_option maxRecDepth 100000 in
noncomputable def E_v_buy (x : Int32) (y : Int32) (thr : Int32) (sta : Int32) (nu : Int32) (lw : Int32) (bro : Int32) (val : Int64) (sm : Int64) (fw : Nat → Int32) (fe : Nat → Int64) (frs : Nat → Int64) (fu : Nat → Int32) (fs : Nat → Int32) (frf : Nat → Int32) : Int32 × Int32 × Int32 × (Nat → Int32) × (Nat → Int32) × (Nat → Int32) × (Nat → Int32) :=
  Lt2 (E_v_buyNow x y nu fw fu fs) (fun r_89 q0_r_89 => Lt2 q0_r_89 (fun u_90_2_2_2_1_0 q1_u_90_2_2_2_1_0 => Lt2 q1_u_90_2_2_2_1_0 (fun u_90_2_1_0 q2_u_90_2_1_0 => Lt2 q2_u_90_2_1_0 (fun u_90_2_1_1 u_90_2_1_2 => Lt2 (E_v_tell r_89 sta frf) (fun r_98 q0_r_98 => Lt2 q0_r_98 (fun u_99_2_2_2_1_0 u_99_2_1_0 => ((r_98, u_99_2_2_2_1_0, u_90_2_2_2_1_0, u_90_2_1_0, u_90_2_1_1, u_90_2_1_2, u_99_2_1_0) : Int32 × Int32 × Int32 × (Nat → Int32) × (Nat → Int32) × (Nat → Int32) × (Nat → Int32))))))))
set_option maxHeartbeats 4000000 in
set_option maxRecDepth 100000 in
theorem v_buy (l : Launch) (D : va_G) (K : Nat → ClassId) (m0 : Nat) (x : Int32) (y : Int32) (thr : Int32) (sta : Int32) (r0 : Nat) (w0 : Nat) (m_4 : Value) (m_5 : Value) (u0 : Nat) (s0 : Nat) (nu : Int32) (m_9 : Value) (m_10 : Value) (m_11 : Value) (m_12 : Value) (m_13 : Value) (m_14 : Value) (m_15 : Value) (m_16 : Value) (m_17 : Value) (m_18 : Value) (m_19 : Value) (m_21 : Value) (m_22 : Value) (m_23 : Value) (m_24 : Value) (m_25 : Value) (m_26 : Value) (m_27 : Value) (m_28 : Value) (m_29 : Value) (m_30 : Value) (m_31 : Value) (m_32 : Value) (m_33 : Value) (lw : Int32) (e0 : Nat) (m_36 : Value) (q0 : Nat) (bro : Int32) (val : Int64) (sm : Int64) (m_41 : Value) (m_42 : Value) (m_43 : Value) (m_44 : Value) (m_45 : Value) (m_46 : Value) (m_47 : Value) (m_48 : Value) (m_49 : Value) (m_50 : Value) (m_51 : Value) (m_52 : Value) (m_53 : Value) (m_54 : Value) (m_55 : Value) (m_56 : Value) (m_57 : Value) (m_58 : Value) (m_59 : Value) (fw : Nat → Int32) (gr : Nat → Int32) (fe : Nat → Int64) (frs : Nat → Int64) (fu : Nat → Int32) (fs : Nat → Int32) (frf : Nat → Int32) (sz : Nat) (zbro : 0 ≤ bro.toInt ∧ bro.toInt ≤ 1) (znu : 0 ≤ nu.toInt ∧ nu.toInt ≤ 16) (zfw : RwOK fw) (zgr : FzM gr fw) (zfu : Pu 558 fu) (zfs : Rg 16 0 3 fs) : Met l yX12_buy wsX12_buy ({ frames := 3, cells := 0, slots := 0, locals := 68 }) (va_Pc [.ref m0, .int x, .int y] (Pre D K [(cc_O m0 12 [.int thr, .int sta, .ref r0, .ref w0, m_4, m_5, .ref u0, .ref s0, .int nu, m_9, m_10, m_11, m_12, m_13, m_14, m_15, m_16, m_17, m_18, m_19, .int 0, m_21, m_22, m_23, m_24, m_25, m_26, m_27, m_28, m_29, m_30, m_31, m_32, m_33, .int lw, .ref e0, m_36, .ref q0, .int bro, .long val, .long sm, m_41, m_42, m_43, m_44, m_45, m_46, m_47, m_48, m_49, m_50, m_51, m_52, m_53, m_54, m_55, m_56, m_57, m_58, m_59]), (cc_l w0 (K 0) 5500 fw), (cc_rl e0 (K 2) 13 fe), (cc_rl q0 (K 2) 400 frs), (cc_l u0 (K 0) 558 fu), (cc_l s0 (K 0) 16 fs), (cc_l r0 (K 0) 7 frf)] sz)) (va_Qi (S := Su) (fun (r : Int32) (u : Su) => ((-6) ≤ r.toInt) ∧ ((-6) ≤ (u.2.2.2.1 0).toInt ∧ (u.2.2.2.1 0).toInt ≤ 0) ∧ (0 ≤ (u.2.2.2.1 1).toInt ∧ (u.2.2.2.1 1).toInt ≤ 16) ∧ (RwOK (u.2.1 0)) ∧ (FzM gr (u.2.1 0)) ∧ (Pu 558 (u.2.1 1)) ∧ (Rg 16 0 3 (u.2.1 2)) ∧ ((r, (u.2.2.2.1 0), (u.2.2.2.1 1), (u.2.1 0), (u.2.1 1), (u.2.1 2), (u.2.1 3)) = E_v_buy x y thr sta nu lw bro val sm fw fe frs fu fs frf) ∧ True) (fun u t => Wd D (va_A [(cc_O m0 12 [.int thr, .int sta, .ref r0, .ref w0, m_4, m_5, .ref u0, .ref s0, .int nu, m_9, m_10, m_11, m_12, m_13, m_14, m_15, m_16, m_17, m_18, m_19, .int 0, m_21, m_22, m_23, m_24, m_25, m_26, m_27, m_28, m_29, m_30, m_31, m_32, m_33, .int lw, .ref e0, m_36, .ref q0, .int bro, .long val, .long sm, m_41, m_42, m_43, m_44, m_45, m_46, m_47, m_48, m_49, m_50, m_51, m_52, m_53, m_54, m_55, m_56, m_57, m_58, m_59]), (cc_l w0 (K 0) 5500 fw), (cc_rl e0 (K 2) 13 fe), (cc_rl q0 (K 2) 400 frs), (cc_l u0 (K 0) 558 fu), (cc_l s0 (K 0) 16 fs), (cc_l r0 (K 0) 7 frf)] sz) ((fun u => [(cc_O m0 12 [.int 0, .int (u.2.2.2.1 0), .ref r0, .ref w0, m_4, m_5, .ref u0, .ref s0, .int (u.2.2.2.1 1), m_9, m_10, m_11, m_12, m_13, m_14, m_15, m_16, m_17, m_18, m_19, .int 0, m_21, m_22, m_23, m_24, m_25, m_26, m_27, m_28, m_29, m_30, m_31, m_32, m_33, .int lw, .ref e0, m_36, .ref q0, .int bro, .long val, .long sm, m_41, m_42, m_43, m_44, m_45, m_46, m_47, m_48, m_49, m_50, m_51, m_52, m_53, m_54, m_55, m_56, m_57, m_58, m_59]), (cc_l w0 (K 0) 5500 (u.2.1 0)), (cc_rl e0 (K 2) 13 fe), (cc_rl q0 (K 2) 400 frs), (cc_l u0 (K 0) 558 (u.2.1 1)), (cc_l s0 (K 0) 16 (u.2.1 2)), (cc_l r0 (K 0) 7 (u.2.1 3))]) u) t) (va_A [(cc_O m0 12 [.int thr, .int sta, .ref r0, .ref w0, m_4, m_5, .ref u0, .ref s0, .int nu, m_9, m_10, m_11, m_12, m_13, m_14, m_15, m_16, m_17, m_18, m_19, .int 0, m_21, m_22, m_23, m_24, m_25, m_26, m_27, m_28, m_29, m_30, m_31, m_32, m_33, .int lw, .ref e0, m_36, .ref q0, .int bro, .long val, .long sm, m_41, m_42, m_43, m_44, m_45, m_46, m_47, m_48, m_49, m_50, m_51, m_52, m_53, m_54, m_55, m_56, m_57, m_58, m_59]), (cc_l w0 (K 0) 5500 fw), (cc_rl e0 (K 2) 13 fe), (cc_rl q0 (K 2) 400 frs), (cc_l u0 (K 0) 558 fu), (cc_l s0 (K 0) 16 fs), (cc_l r0 (K 0) 7 frf)] sz)) 0 0 (va_A [(cc_O m0 12 [.int thr, .int sta, .ref r0, .ref w0, m_4, m_5, .ref u0, .ref s0, .int nu, m_9, m_10, m_11, m_12, m_13, m_14, m_15, m_16, m_17, m_18, m_19, .int 0, m_21, m_22, m_23, m_24, m_25, m_26, m_27, m_28, m_29, m_30, m_31, m_32, m_33, .int lw, .ref e0, m_36, .ref q0, .int bro, .long val, .long sm, m_41, m_42, m_43, m_44, m_45, m_46, m_47, m_48, m_49, m_50, m_51, m_52, m_53, m_54, m_55, m_56, m_57, m_58, m_59]), (cc_l w0 (K 0) 5500 fw), (cc_rl e0 (K 2) 13 fe), (cc_rl q0 (K 2) 400 frs), (cc_l u0 (K 0) 558 fu), (cc_l s0 (K 0) 16 fs), (cc_l r0 (K 0) 7 frf)] sz) := by
  refine Met.ofW (cc := cX12_buy) (maxL := 3) (ret := (some .int)) (by decide +kernel) rfl ?_
  intro p e s m args below meth c s₁ B hml hv
  obtain ⟨rfl, hsz, hP, hK, hD0, hN⟩ := hv
  have hx := B.exec
  have hb := B.bytes
  have hr := B.returns
  have hts := atoms_spec (ws := wsX12_buy) B.pre
  have hown : s.vm.findClass RX12 = some m.cls := findClass_of_methodNamed B.named
  have hlocks := B.notSynchronized
  subst hsz
  have hD := hD0.self (sz := s.heap.size)
  generalize hAe : va_A [(cc_O m0 12 [.int thr, .int sta, .ref r0, .ref w0, m_4, m_5, .ref u0, .ref s0, .int nu, m_9, m_10, m_11, m_12, m_13, m_14, m_15, m_16, m_17, m_18, m_19, .int 0, m_21, m_22, m_23, m_24, m_25, m_26, m_27, m_28, m_29, m_30, m_31, m_32, m_33, .int lw, .ref e0, m_36, .ref q0, .int bro, .long val, .long sm, m_41, m_42, m_43, m_44, m_45, m_46, m_47, m_48, m_49, m_50, m_51, m_52, m_53, m_54, m_55, m_56, m_57, m_58, m_59]), (cc_l w0 (K 0) 5500 fw), (cc_rl e0 (K 2) 13 fe), (cc_rl q0 (K 2) 400 frs), (cc_l u0 (K 0) 558 fu), (cc_l s0 (K 0) 16 fs), (cc_l r0 (K 0) 7 frf)] s.heap.size = A at hD ⊢
  have hA : ∀ q : Nat, s.heap.size ≤ q → A q := fun q h => by rw [← hAe]; exact Or.inr h
  clear hAe
  have hS : va_S A s.heap s.heap [] := va_S.rf
  replace hP : va_P D vwCl [(cc_O m0 12 [.int thr, .int sta, .ref r0, .ref w0, m_4, m_5, .ref u0, .ref s0, .int nu, m_9, m_10, m_11, m_12, m_13, m_14, m_15, m_16, m_17, m_18, m_19, .int 0, m_21, m_22, m_23, m_24, m_25, m_26, m_27, m_28, m_29, m_30, m_31, m_32, m_33, .int lw, .ref e0, m_36, .ref q0, .int bro, .long val, .long sm, m_41, m_42, m_43, m_44, m_45, m_46, m_47, m_48, m_49, m_50, m_51, m_52, m_53, m_54, m_55, m_56, m_57, m_58, m_59]), (cc_l w0 (K 0) 5500 fw), (cc_rl e0 (K 2) 13 fe), (cc_rl q0 (K 2) 400 frs), (cc_l u0 (K 0) 558 fu), (cc_l s0 (K 0) 16 fs), (cc_l r0 (K 0) 7 frf)] s.heap := hP
  have hl := lv_entry [.ref m0, .int x, .int y] (n := 3) (Nat.le_of_ble_eq_true rfl)
  rw [lg_entry_eq]
  generalize (lg_sl [.ref m0, .int x, .int y] ++ List.replicate (3 - (lg_sl [.ref m0, .int x, .int y]).length) Slot.unset).toArray = ls at hl ⊢
  have hl : lv_has ls 3 [(0, .ref m0), (1, .int x), (2, .int y)] := hl
  have hw12 : ∀ w ∈ wsX120, w ∈ wsX12_buy := fun w h => (List.mem_cons_of_mem _ (List.mem_append_right _ h))
  generalize hQ : MQ below _ _ s _ _ _ = Q
  have hE := E_v_buy.eq_def x y thr sta nu lw bro val sm fw fe frs fu fs frf
  refine lv_aload_n hx hb dX12_buy_0 rfl (lv_at hl 0 rfl) (lv_iconst (v := 0) hx hb dX12_buy_1 (by decide +kernel) (va_put (ci := 12) (v := .int 0) (ty := .int) (C := RX12) (T := TX12) (N := 60) hx hb hts hw12 tyX12 tyX12_ok nmX12 hown hK hP hD hS 0 rfl rfl 0 (by decide +kernel) (hts _ mm_X12_buy_830) (fun _ h9 => h9) rfl (by decide +kernel) (by first | rfl | decide) (by first | rfl | decide) (Nat.le_of_ble_eq_true rfl) dX12_buy_2 (fun H locs hP0 hD0 hS0 => ?_)))
  replace hP : va_P D vwCl [(cc_O m0 12 [.int 0, .int sta, .ref r0, .ref w0, m_4, m_5, .ref u0, .ref s0, .int nu, m_9, m_10, m_11, m_12, m_13, m_14, m_15, m_16, m_17, m_18, m_19, .int 0, m_21, m_22, m_23, m_24, m_25, m_26, m_27, m_28, m_29, m_30, m_31, m_32, m_33, .int lw, .ref e0, m_36, .ref q0, .int bro, .long val, .long sm, m_41, m_42, m_43, m_44, m_45, m_46, m_47, m_48, m_49, m_50, m_51, m_52, m_53, m_54, m_55, m_56, m_57, m_58, m_59]), (cc_l w0 (K 0) 5500 fw), (cc_rl e0 (K 2) 13 fe), (cc_rl q0 (K 2) 400 frs), (cc_l u0 (K 0) 558 fu), (cc_l s0 (K 0) 16 fs), (cc_l r0 (K 0) 7 frf)] H := hP0
  replace hD := as_D hP hD0 rfl
  replace hS := hS0
  clear hP0 hD0 hS0
  refine lv_aload_n hx hb dX12_buy_5 rfl (lv_at hl 0 rfl) (lv_aload_n hx hb dX12_buy_6 rfl (lv_at hl 0 rfl) (lv_iload_n hx hb dX12_buy_7 rfl (lv_at hl 1 rfl) (lv_iload_n hx hb dX12_buy_8 rfl (lv_at hl 2 rfl) (kci (S := Su) (wr := [(cc_rl e0 (K 2) 13 fe), (cc_rl q0 (K 2) 400 frs), (cc_l r0 (K 0) 7 frf)]) (va_runV (As := [.int x, .int y]) (rest := [.ref m0]) ⟨hx, hb, hml, hown, hts⟩ (v_buyNow l D K m0 x y (.int 0) (.int sta) (.ref r0) w0 m_4 m_5 u0 s0 nu m_9 m_10 m_11 m_12 m_13 m_14 m_15 m_16 m_17 m_18 m_19 (.int 0) m_21 m_22 m_23 m_24 m_25 m_26 m_27 m_28 m_29 m_30 m_31 m_32 m_33 (.int lw) (.ref e0) m_36 (.ref q0) (.int bro) (.long val) (.long sm) m_41 m_42 m_43 m_44 m_45 m_46 m_47 m_48 m_49 m_50 m_51 m_52 m_53 m_54 m_55 m_56 m_57 m_58 m_59 fw gr fu fs H.size (by first | omega | decide) zfw zgr zfu zfs) (cwV 2 hts gX12_buy_X12_buyNow rfl rfl rfl (by decide +kernel) ⟨Nat.le_of_ble_eq_true rfl, Nat.le_of_ble_eq_true rfl⟩) (mkV hK hN (hP.sub [0, 1, 4, 5] rfl) (hD.sub [0, 1, 4, 5] (by decide +kernel) rfl) (ci := 12) (q0 := 0) rfl rfl) rfl rfl hl.1 rfl (lv_room (Nat.le_of_ble_eq_true rfl)) dX12_buy_9 ⟨Nat.le_of_ble_eq_true rfl, Nat.le_of_ble_eq_true rfl⟩) hP hD hS hA [0, 1, 4, 5] [2, 3, 6] rfl rfl (by decide +kernel) (by decide +kernel) (fun r_89 u_90 H locs hw hP0 hD0 hS0 => ?_)))))
  replace hP : va_P D vwCl [(cc_rl e0 (K 2) 13 fe), (cc_rl q0 (K 2) 400 frs), (cc_l r0 (K 0) 7 frf), (cc_O m0 12 [.int 0, .int sta, .ref r0, .ref w0, m_4, m_5, .ref u0, .ref s0, .int (u_90.2.2.2.1 0), m_9, m_10, m_11, m_12, m_13, m_14, m_15, m_16, m_17, m_18, m_19, .int 0, m_21, m_22, m_23, m_24, m_25, m_26, m_27, m_28, m_29, m_30, m_31, m_32, m_33, .int lw, .ref e0, m_36, .ref q0, .int bro, .long val, .long sm, m_41, m_42, m_43, m_44, m_45, m_46, m_47, m_48, m_49, m_50, m_51, m_52, m_53, m_54, m_55, m_56, m_57, m_58, m_59]), (cc_l w0 (K 0) 5500 (u_90.2.1 0)), (cc_l u0 (K 0) 558 (u_90.2.1 1)), (cc_l s0 (K 0) 16 (u_90.2.1 2))] H := hP0
  replace hD := as_D hP hD0 rfl
  replace hS := hS0
  clear hP0 hD0 hS0
  obtain ⟨h_97, k_91, k_92, k_93, k_94, k_95, k_96, -⟩ := hw
  replace hE := (((hE.trans (Lt2_in k_96)).trans (Lt2_in rfl)).trans (Lt2_in rfl)).trans (Lt2_in rfl)
  refine kci (S := Su) (wr := [(cc_rl e0 (K 2) 13 fe), (cc_rl q0 (K 2) 400 frs), (cc_l w0 (K 0) 5500 (u_90.2.1 0)), (cc_l u0 (K 0) 558 (u_90.2.1 1)), (cc_l s0 (K 0) 16 (u_90.2.1 2))]) (va_runV (As := [.int r_89]) (rest := []) ⟨hx, hb, hml, hown, hts⟩ (v_tell l D K m0 r_89 (.int 0) sta r0 (.ref w0) m_4 m_5 (.ref u0) (.ref s0) (.int (u_90.2.2.2.1 0)) m_9 m_10 m_11 m_12 m_13 m_14 m_15 m_16 m_17 m_18 m_19 (.int 0) m_21 m_22 m_23 m_24 m_25 m_26 m_27 m_28 m_29 m_30 m_31 m_32 m_33 (.int lw) (.ref e0) m_36 (.ref q0) (.int bro) (.long val) (.long sm) m_41 m_42 m_43 m_44 m_45 m_46 m_47 m_48 m_49 m_50 m_51 m_52 m_53 m_54 m_55 m_56 m_57 m_58 m_59 frf H.size (by first | omega | decide)) (cwV 1 hts gX12_buy_X12_tell rfl rfl rfl (by decide +kernel) ⟨Nat.le_of_ble_eq_true rfl, Nat.le_of_ble_eq_true rfl⟩) (mkV hK hN (hP.sub [3, 2] rfl) (hD.sub [3, 2] (by decide +kernel) rfl) (ci := 12) (q0 := 0) rfl rfl) rfl rfl hl.1 rfl (lv_room (Nat.le_of_ble_eq_true rfl)) dX12_buy_12 ⟨Nat.le_of_ble_eq_true rfl, Nat.le_of_ble_eq_true rfl⟩) hP hD hS hA [3, 2] [0, 1, 4, 5, 6] rfl rfl (by decide +kernel) (by decide +kernel) (fun r_98 u_99 H locs hw hP0 hD0 hS0 => ?_)
  replace hP : va_P D vwCl [(cc_rl e0 (K 2) 13 fe), (cc_rl q0 (K 2) 400 frs), (cc_l w0 (K 0) 5500 (u_90.2.1 0)), (cc_l u0 (K 0) 558 (u_90.2.1 1)), (cc_l s0 (K 0) 16 (u_90.2.1 2)), (cc_O m0 12 [.int 0, .int (u_99.2.2.2.1 0), .ref r0, .ref w0, m_4, m_5, .ref u0, .ref s0, .int (u_90.2.2.2.1 0), m_9, m_10, m_11, m_12, m_13, m_14, m_15, m_16, m_17, m_18, m_19, .int 0, m_21, m_22, m_23, m_24, m_25, m_26, m_27, m_28, m_29, m_30, m_31, m_32, m_33, .int lw, .ref e0, m_36, .ref q0, .int bro, .long val, .long sm, m_41, m_42, m_43, m_44, m_45, m_46, m_47, m_48, m_49, m_50, m_51, m_52, m_53, m_54, m_55, m_56, m_57, m_58, m_59]), (cc_l r0 (K 0) 7 (u_99.2.1 0))] H := hP0
  replace hD := as_D hP hD0 rfl
  replace hS := hS0
  clear hP0 hD0 hS0
  obtain ⟨h_102, k_100, k_101, -⟩ := hw
  replace hE := (hE.trans (Lt2_in k_101)).trans (Lt2_in rfl)
  rw [← hQ]
  have hP9 := hP.sub (ws' := [(cc_O m0 12 [.int 0, .int (u_99.2.2.2.1 0), .ref r0, .ref w0, m_4, m_5, .ref u0, .ref s0, .int (u_90.2.2.2.1 0), m_9, m_10, m_11, m_12, m_13, m_14, m_15, m_16, m_17, m_18, m_19, .int 0, m_21, m_22, m_23, m_24, m_25, m_26, m_27, m_28, m_29, m_30, m_31, m_32, m_33, .int lw, .ref e0, m_36, .ref q0, .int bro, .long val, .long sm, m_41, m_42, m_43, m_44, m_45, m_46, m_47, m_48, m_49, m_50, m_51, m_52, m_53, m_54, m_55, m_56, m_57, m_58, m_59]), (cc_l w0 (K 0) 5500 (u_90.2.1 0)), (cc_rl e0 (K 2) 13 fe), (cc_rl q0 (K 2) 400 frs), (cc_l u0 (K 0) 558 (u_90.2.1 1)), (cc_l s0 (K 0) 16 (u_90.2.1 2)), (cc_l r0 (K 0) 7 (u_99.2.1 0))]) [5, 2, 0, 1, 3, 4, 6] rfl
  have hD9 := sub_D hP9 hD [5, 2, 0, 1, 3, 4, 6] (by decide +kernel) rfl
  exact W.iret (v := r_98) hx hb hr (fun t ht hW => ⟨⟨r_98, ((fun _ => 0, fun i => match i with | 0 => (u_90.2.1 0) | 1 => (u_90.2.1 1) | 2 => (u_90.2.1 2) | _ => (u_99.2.1 0), fun _ => fun _ => 0, fun i => match i with | 0 => (u_99.2.2.2.1 0) | _ => (u_90.2.2.2.1 0), fun _ => 0, fun _ => fun _ => none) : Su), rfl, ⟨(show (-6) ≤ r_98.toInt by omega), (show (-6) ≤ ((u_99.2.2.2.1 0) : Int32).toInt ∧ ((u_99.2.2.2.1 0) : Int32).toInt ≤ 0 by omega), (show 0 ≤ ((u_90.2.2.2.1 0) : Int32).toInt ∧ ((u_90.2.2.2.1 0) : Int32).toInt ≤ 16 by omega), k_92, k_93, k_94, k_95, hE.symm, trivial⟩, (⟨by rw [ht]; exact hP9, hD9⟩ : Wd D A _ t)⟩, hS.F ht⟩) hS.2.2 dX12_buy_15
