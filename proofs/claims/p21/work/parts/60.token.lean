theorem BX12_isSmall_0 : bsegs (ByteArray.data cX12_isSmall |>.toList.drop 0) 0 [(0, [26]), (1, [16, 97]), (3, [161, 0, 13]), (6, [26]), (7, [16, 122]), (9, [163, 0, 7]), (12, [4]), (13, [167, 0, 4]), (16, [3]), (17, [172])] = true := by decide +kernel
theorem dX12_isSmall_0 : decode cX12_isSmall 0 = .ok (.iload_n 0, 1) := dk_26 (bs_at BX12_isSmall_0 0 rfl)
theorem dX12_isSmall_1 : decode cX12_isSmall 1 = .ok (.bipush 97, 2) := dk_16 97 (bs_at BX12_isSmall_0 1 rfl) rfl
theorem dX12_isSmall_3 : decode cX12_isSmall 3 = .ok (.if_icmp .lt 13, 3) := dk_161 0 13 (bs_at BX12_isSmall_0 2 rfl) rfl
theorem dX12_isSmall_6 : decode cX12_isSmall 6 = .ok (.iload_n 0, 1) := dk_26 (bs_at BX12_isSmall_0 3 rfl)
theorem dX12_isSmall_7 : decode cX12_isSmall 7 = .ok (.bipush 122, 2) := dk_16 122 (bs_at BX12_isSmall_0 4 rfl) rfl
theorem dX12_isSmall_9 : decode cX12_isSmall 9 = .ok (.if_icmp .gt 7, 3) := dk_163 0 7 (bs_at BX12_isSmall_0 5 rfl) rfl
theorem dX12_isSmall_12 : decode cX12_isSmall 12 = .ok (.iconst 1, 1) := dk_4 (bs_at BX12_isSmall_0 6 rfl)
theorem dX12_isSmall_13 : decode cX12_isSmall 13 = .ok (.goto 4, 3) := dk_167 0 4 (bs_at BX12_isSmall_0 7 rfl) rfl
theorem dX12_isSmall_16 : decode cX12_isSmall 16 = .ok (.iconst 0, 1) := dk_3 (bs_at BX12_isSmall_0 8 rfl)
theorem dX12_isSmall_17 : decode cX12_isSmall 17 = .ok (.ireturn, 1) := dk_172 (bs_at BX12_isSmall_0 9 rfl)
theorem BX12_isDigit_0 : bsegs (ByteArray.data cX12_isDigit |>.toList.drop 0) 0 [(0, [26]), (1, [16, 48]), (3, [161, 0, 13]), (6, [26]), (7, [16, 57]), (9, [163, 0, 7]), (12, [4]), (13, [167, 0, 4]), (16, [3]), (17, [172])] = true := by decide +kernel
theorem dX12_isDigit_0 : decode cX12_isDigit 0 = .ok (.iload_n 0, 1) := dk_26 (bs_at BX12_isDigit_0 0 rfl)
theorem dX12_isDigit_1 : decode cX12_isDigit 1 = .ok (.bipush 48, 2) := dk_16 48 (bs_at BX12_isDigit_0 1 rfl) rfl
theorem dX12_isDigit_3 : decode cX12_isDigit 3 = .ok (.if_icmp .lt 13, 3) := dk_161 0 13 (bs_at BX12_isDigit_0 2 rfl) rfl
theorem dX12_isDigit_6 : decode cX12_isDigit 6 = .ok (.iload_n 0, 1) := dk_26 (bs_at BX12_isDigit_0 3 rfl)
theorem dX12_isDigit_7 : decode cX12_isDigit 7 = .ok (.bipush 57, 2) := dk_16 57 (bs_at BX12_isDigit_0 4 rfl) rfl
theorem dX12_isDigit_9 : decode cX12_isDigit 9 = .ok (.if_icmp .gt 7, 3) := dk_163 0 7 (bs_at BX12_isDigit_0 5 rfl) rfl
theorem dX12_isDigit_12 : decode cX12_isDigit 12 = .ok (.iconst 1, 1) := dk_4 (bs_at BX12_isDigit_0 6 rfl)
theorem dX12_isDigit_13 : decode cX12_isDigit 13 = .ok (.goto 4, 3) := dk_167 0 4 (bs_at BX12_isDigit_0 7 rfl) rfl
theorem dX12_isDigit_16 : decode cX12_isDigit 16 = .ok (.iconst 0, 1) := dk_3 (bs_at BX12_isDigit_0 8 rfl)
theorem dX12_isDigit_17 : decode cX12_isDigit 17 = .ok (.ireturn, 1) := dk_172 (bs_at BX12_isDigit_0 9 rfl)
theorem BX12_next_0 : bsegs (ByteArray.data cX12_next |>.toList.drop 0) 0 [(0, [42]), (1, [42]), (2, [180, 0, 236]), (5, [181, 0, 246]), (8, [42]), (9, [180, 0, 246]), (12, [42]), (13, [180, 0, 227]), (16, [162, 0, 30]), (19, [42]), (20, [180, 0, 35]), (23, [42]), (24, [180, 0, 246]), (27, [46]), (28, [16, 32]), (30, [160, 0, 16]), (33, [42]), (34, [89]), (35, [180, 0, 246]), (38, [4]), (39, [96]), (40, [181, 0, 246]), (43, [167, 255, 221]), (46, [42])] = true := by decide +kernel
theorem dX12_next_0 : decode cX12_next 0 = .ok (.aload_n 0, 1) := dk_42 (bs_at BX12_next_0 0 rfl)
theorem dX12_next_1 : decode cX12_next 1 = .ok (.aload_n 0, 1) := dk_42 (bs_at BX12_next_0 1 rfl)
theorem dX12_next_2 : decode cX12_next 2 = .ok (.getfield 236, 3) := dk_180 0 236 (bs_at BX12_next_0 2 rfl) rfl
theorem dX12_next_5 : decode cX12_next 5 = .ok (.putfield 246, 3) := dk_181 0 246 (bs_at BX12_next_0 3 rfl) rfl
theorem dX12_next_8 : decode cX12_next 8 = .ok (.aload_n 0, 1) := dk_42 (bs_at BX12_next_0 4 rfl)
theorem dX12_next_9 : decode cX12_next 9 = .ok (.getfield 246, 3) := dk_180 0 246 (bs_at BX12_next_0 5 rfl) rfl
theorem dX12_next_12 : decode cX12_next 12 = .ok (.aload_n 0, 1) := dk_42 (bs_at BX12_next_0 6 rfl)
theorem dX12_next_13 : decode cX12_next 13 = .ok (.getfield 227, 3) := dk_180 0 227 (bs_at BX12_next_0 7 rfl) rfl
theorem dX12_next_16 : decode cX12_next 16 = .ok (.if_icmp .ge 30, 3) := dk_162 0 30 (bs_at BX12_next_0 8 rfl) rfl
theorem dX12_next_19 : decode cX12_next 19 = .ok (.aload_n 0, 1) := dk_42 (bs_at BX12_next_0 9 rfl)
theorem dX12_next_20 : decode cX12_next 20 = .ok (.getfield 35, 3) := dk_180 0 35 (bs_at BX12_next_0 10 rfl) rfl
theorem dX12_next_23 : decode cX12_next 23 = .ok (.aload_n 0, 1) := dk_42 (bs_at BX12_next_0 11 rfl)
theorem dX12_next_24 : decode cX12_next 24 = .ok (.getfield 246, 3) := dk_180 0 246 (bs_at BX12_next_0 12 rfl) rfl
theorem dX12_next_27 : decode cX12_next 27 = .ok (.iaload, 1) := dk_46 (bs_at BX12_next_0 13 rfl)
theorem dX12_next_28 : decode cX12_next 28 = .ok (.bipush 32, 2) := dk_16 32 (bs_at BX12_next_0 14 rfl) rfl
theorem dX12_next_30 : decode cX12_next 30 = .ok (.if_icmp .ne 16, 3) := dk_160 0 16 (bs_at BX12_next_0 15 rfl) rfl
theorem dX12_next_33 : decode cX12_next 33 = .ok (.aload_n 0, 1) := dk_42 (bs_at BX12_next_0 16 rfl)
theorem dX12_next_34 : decode cX12_next 34 = .ok (.dup, 1) := dk_89 (bs_at BX12_next_0 17 rfl)
theorem dX12_next_35 : decode cX12_next 35 = .ok (.getfield 246, 3) := dk_180 0 246 (bs_at BX12_next_0 18 rfl) rfl
theorem dX12_next_38 : decode cX12_next 38 = .ok (.iconst 1, 1) := dk_4 (bs_at BX12_next_0 19 rfl)
theorem dX12_next_39 : decode cX12_next 39 = .ok (.iadd, 1) := dk_96 (bs_at BX12_next_0 20 rfl)
theorem dX12_next_40 : decode cX12_next 40 = .ok (.putfield 246, 3) := dk_181 0 246 (bs_at BX12_next_0 21 rfl) rfl
theorem dX12_next_43 : decode cX12_next 43 = .ok (.goto (-35), 3) := dk_167 255 221 (bs_at BX12_next_0 22 rfl) rfl
theorem dX12_next_46 : decode cX12_next 46 = .ok (.aload_n 0, 1) := dk_42 (bs_at BX12_next_0 23 rfl)
theorem BX12_next_47 : bsegs (ByteArray.data cX12_next |>.toList.drop 47) 47 [(47, [42]), (48, [180, 0, 246]), (51, [181, 0, 236]), (54, [42]), (55, [9]), (56, [181, 0, 249]), (59, [42]), (60, [42]), (61, [180, 0, 246]), (64, [42]), (65, [180, 0, 227]), (68, [160, 0, 7]), (71, [3]), (72, [167, 0, 42]), (75, [42]), (76, [180, 0, 35]), (79, [42]), (80, [180, 0, 246]), (83, [46]), (84, [184, 0, 253]), (87, [153, 0, 7]), (90, [4]), (91, [167, 0, 23]), (94, [42])] = true := by decide +kernel
theorem dX12_next_47 : decode cX12_next 47 = .ok (.aload_n 0, 1) := dk_42 (bs_at BX12_next_47 0 rfl)
theorem dX12_next_48 : decode cX12_next 48 = .ok (.getfield 246, 3) := dk_180 0 246 (bs_at BX12_next_47 1 rfl) rfl
theorem dX12_next_51 : decode cX12_next 51 = .ok (.putfield 236, 3) := dk_181 0 236 (bs_at BX12_next_47 2 rfl) rfl
theorem dX12_next_54 : decode cX12_next 54 = .ok (.aload_n 0, 1) := dk_42 (bs_at BX12_next_47 3 rfl)
theorem dX12_next_55 : decode cX12_next 55 = .ok (.lconst 0, 1) := dk_9 (bs_at BX12_next_47 4 rfl)
theorem dX12_next_56 : decode cX12_next 56 = .ok (.putfield 249, 3) := dk_181 0 249 (bs_at BX12_next_47 5 rfl) rfl
theorem dX12_next_59 : decode cX12_next 59 = .ok (.aload_n 0, 1) := dk_42 (bs_at BX12_next_47 6 rfl)
theorem dX12_next_60 : decode cX12_next 60 = .ok (.aload_n 0, 1) := dk_42 (bs_at BX12_next_47 7 rfl)
theorem dX12_next_61 : decode cX12_next 61 = .ok (.getfield 246, 3) := dk_180 0 246 (bs_at BX12_next_47 8 rfl) rfl
theorem dX12_next_64 : decode cX12_next 64 = .ok (.aload_n 0, 1) := dk_42 (bs_at BX12_next_47 9 rfl)
theorem dX12_next_65 : decode cX12_next 65 = .ok (.getfield 227, 3) := dk_180 0 227 (bs_at BX12_next_47 10 rfl) rfl
theorem dX12_next_68 : decode cX12_next 68 = .ok (.if_icmp .ne 7, 3) := dk_160 0 7 (bs_at BX12_next_47 11 rfl) rfl
theorem dX12_next_71 : decode cX12_next 71 = .ok (.iconst 0, 1) := dk_3 (bs_at BX12_next_47 12 rfl)
theorem dX12_next_72 : decode cX12_next 72 = .ok (.goto 42, 3) := dk_167 0 42 (bs_at BX12_next_47 13 rfl) rfl
theorem dX12_next_75 : decode cX12_next 75 = .ok (.aload_n 0, 1) := dk_42 (bs_at BX12_next_47 14 rfl)
theorem dX12_next_76 : decode cX12_next 76 = .ok (.getfield 35, 3) := dk_180 0 35 (bs_at BX12_next_47 15 rfl) rfl
theorem dX12_next_79 : decode cX12_next 79 = .ok (.aload_n 0, 1) := dk_42 (bs_at BX12_next_47 16 rfl)
theorem dX12_next_80 : decode cX12_next 80 = .ok (.getfield 246, 3) := dk_180 0 246 (bs_at BX12_next_47 17 rfl) rfl
theorem dX12_next_83 : decode cX12_next 83 = .ok (.iaload, 1) := dk_46 (bs_at BX12_next_47 18 rfl)
theorem dX12_next_84 : decode cX12_next 84 = .ok (.invokestatic 253, 3) := dk_184 0 253 (bs_at BX12_next_47 19 rfl) rfl
theorem dX12_next_87 : decode cX12_next 87 = .ok (.ifCond .eq 7, 3) := dk_153 0 7 (bs_at BX12_next_47 20 rfl) rfl
theorem dX12_next_90 : decode cX12_next 90 = .ok (.iconst 1, 1) := dk_4 (bs_at BX12_next_47 21 rfl)
theorem dX12_next_91 : decode cX12_next 91 = .ok (.goto 23, 3) := dk_167 0 23 (bs_at BX12_next_47 22 rfl) rfl
theorem dX12_next_94 : decode cX12_next 94 = .ok (.aload_n 0, 1) := dk_42 (bs_at BX12_next_47 23 rfl)
theorem BX12_next_95 : bsegs (ByteArray.data cX12_next |>.toList.drop 95) 95 [(95, [180, 0, 35]), (98, [42]), (99, [180, 0, 246]), (102, [46]), (103, [184, 1, 0]), (106, [153, 0, 7]), (109, [5]), (110, [167, 0, 4]), (113, [6]), (114, [181, 1, 3]), (117, [42]), (118, [180, 1, 3]), (121, [6]), (122, [160, 0, 27]), (125, [42]), (126, [42]), (127, [180, 0, 35]), (130, [42]), (131, [180, 0, 246]), (134, [46]), (135, [133]), (136, [181, 0, 249]), (139, [42]), (140, [89])] = true := by decide +kernel
theorem dX12_next_95 : decode cX12_next 95 = .ok (.getfield 35, 3) := dk_180 0 35 (bs_at BX12_next_95 0 rfl) rfl
theorem dX12_next_98 : decode cX12_next 98 = .ok (.aload_n 0, 1) := dk_42 (bs_at BX12_next_95 1 rfl)
theorem dX12_next_99 : decode cX12_next 99 = .ok (.getfield 246, 3) := dk_180 0 246 (bs_at BX12_next_95 2 rfl) rfl
theorem dX12_next_102 : decode cX12_next 102 = .ok (.iaload, 1) := dk_46 (bs_at BX12_next_95 3 rfl)
theorem dX12_next_103 : decode cX12_next 103 = .ok (.invokestatic 256, 3) := dk_184 1 0 (bs_at BX12_next_95 4 rfl) rfl
theorem dX12_next_106 : decode cX12_next 106 = .ok (.ifCond .eq 7, 3) := dk_153 0 7 (bs_at BX12_next_95 5 rfl) rfl
theorem dX12_next_109 : decode cX12_next 109 = .ok (.iconst 2, 1) := dk_5 (bs_at BX12_next_95 6 rfl)
theorem dX12_next_110 : decode cX12_next 110 = .ok (.goto 4, 3) := dk_167 0 4 (bs_at BX12_next_95 7 rfl) rfl
theorem dX12_next_113 : decode cX12_next 113 = .ok (.iconst 3, 1) := dk_6 (bs_at BX12_next_95 8 rfl)
theorem dX12_next_114 : decode cX12_next 114 = .ok (.putfield 259, 3) := dk_181 1 3 (bs_at BX12_next_95 9 rfl) rfl
theorem dX12_next_117 : decode cX12_next 117 = .ok (.aload_n 0, 1) := dk_42 (bs_at BX12_next_95 10 rfl)
theorem dX12_next_118 : decode cX12_next 118 = .ok (.getfield 259, 3) := dk_180 1 3 (bs_at BX12_next_95 11 rfl) rfl
theorem dX12_next_121 : decode cX12_next 121 = .ok (.iconst 3, 1) := dk_6 (bs_at BX12_next_95 12 rfl)
theorem dX12_next_122 : decode cX12_next 122 = .ok (.if_icmp .ne 27, 3) := dk_160 0 27 (bs_at BX12_next_95 13 rfl) rfl
theorem dX12_next_125 : decode cX12_next 125 = .ok (.aload_n 0, 1) := dk_42 (bs_at BX12_next_95 14 rfl)
theorem dX12_next_126 : decode cX12_next 126 = .ok (.aload_n 0, 1) := dk_42 (bs_at BX12_next_95 15 rfl)
theorem dX12_next_127 : decode cX12_next 127 = .ok (.getfield 35, 3) := dk_180 0 35 (bs_at BX12_next_95 16 rfl) rfl
theorem dX12_next_130 : decode cX12_next 130 = .ok (.aload_n 0, 1) := dk_42 (bs_at BX12_next_95 17 rfl)
theorem dX12_next_131 : decode cX12_next 131 = .ok (.getfield 246, 3) := dk_180 0 246 (bs_at BX12_next_95 18 rfl) rfl
theorem dX12_next_134 : decode cX12_next 134 = .ok (.iaload, 1) := dk_46 (bs_at BX12_next_95 19 rfl)
theorem dX12_next_135 : decode cX12_next 135 = .ok (.i2l, 1) := dk_133 (bs_at BX12_next_95 20 rfl)
theorem dX12_next_136 : decode cX12_next 136 = .ok (.putfield 249, 3) := dk_181 0 249 (bs_at BX12_next_95 21 rfl) rfl
theorem dX12_next_139 : decode cX12_next 139 = .ok (.aload_n 0, 1) := dk_42 (bs_at BX12_next_95 22 rfl)
theorem dX12_next_140 : decode cX12_next 140 = .ok (.dup, 1) := dk_89 (bs_at BX12_next_95 23 rfl)
theorem BX12_next_141 : bsegs (ByteArray.data cX12_next |>.toList.drop 141) 141 [(141, [180, 0, 236]), (144, [4]), (145, [96]), (146, [181, 0, 236]), (149, [42]), (150, [180, 1, 3]), (153, [4]), (154, [160, 0, 89]), (157, [42]), (158, [180, 0, 236]), (161, [42]), (162, [180, 0, 227]), (165, [162, 0, 78]), (168, [42]), (169, [180, 0, 35]), (172, [42]), (173, [180, 0, 236]), (176, [46]), (177, [184, 0, 253]), (180, [153, 0, 63]), (183, [42]), (184, [42]), (185, [180, 0, 236]), (188, [42])] = true := by decide +kernel
theorem dX12_next_141 : decode cX12_next 141 = .ok (.getfield 236, 3) := dk_180 0 236 (bs_at BX12_next_141 0 rfl) rfl
theorem dX12_next_144 : decode cX12_next 144 = .ok (.iconst 1, 1) := dk_4 (bs_at BX12_next_141 1 rfl)
theorem dX12_next_145 : decode cX12_next 145 = .ok (.iadd, 1) := dk_96 (bs_at BX12_next_141 2 rfl)
theorem dX12_next_146 : decode cX12_next 146 = .ok (.putfield 236, 3) := dk_181 0 236 (bs_at BX12_next_141 3 rfl) rfl
theorem dX12_next_149 : decode cX12_next 149 = .ok (.aload_n 0, 1) := dk_42 (bs_at BX12_next_141 4 rfl)
theorem dX12_next_150 : decode cX12_next 150 = .ok (.getfield 259, 3) := dk_180 1 3 (bs_at BX12_next_141 5 rfl) rfl
theorem dX12_next_153 : decode cX12_next 153 = .ok (.iconst 1, 1) := dk_4 (bs_at BX12_next_141 6 rfl)
theorem dX12_next_154 : decode cX12_next 154 = .ok (.if_icmp .ne 89, 3) := dk_160 0 89 (bs_at BX12_next_141 7 rfl) rfl
theorem dX12_next_157 : decode cX12_next 157 = .ok (.aload_n 0, 1) := dk_42 (bs_at BX12_next_141 8 rfl)
theorem dX12_next_158 : decode cX12_next 158 = .ok (.getfield 236, 3) := dk_180 0 236 (bs_at BX12_next_141 9 rfl) rfl
theorem dX12_next_161 : decode cX12_next 161 = .ok (.aload_n 0, 1) := dk_42 (bs_at BX12_next_141 10 rfl)
theorem dX12_next_162 : decode cX12_next 162 = .ok (.getfield 227, 3) := dk_180 0 227 (bs_at BX12_next_141 11 rfl) rfl
theorem dX12_next_165 : decode cX12_next 165 = .ok (.if_icmp .ge 78, 3) := dk_162 0 78 (bs_at BX12_next_141 12 rfl) rfl
theorem dX12_next_168 : decode cX12_next 168 = .ok (.aload_n 0, 1) := dk_42 (bs_at BX12_next_141 13 rfl)
theorem dX12_next_169 : decode cX12_next 169 = .ok (.getfield 35, 3) := dk_180 0 35 (bs_at BX12_next_141 14 rfl) rfl
theorem dX12_next_172 : decode cX12_next 172 = .ok (.aload_n 0, 1) := dk_42 (bs_at BX12_next_141 15 rfl)
theorem dX12_next_173 : decode cX12_next 173 = .ok (.getfield 236, 3) := dk_180 0 236 (bs_at BX12_next_141 16 rfl) rfl
theorem dX12_next_176 : decode cX12_next 176 = .ok (.iaload, 1) := dk_46 (bs_at BX12_next_141 17 rfl)
theorem dX12_next_177 : decode cX12_next 177 = .ok (.invokestatic 253, 3) := dk_184 0 253 (bs_at BX12_next_141 18 rfl) rfl
theorem dX12_next_180 : decode cX12_next 180 = .ok (.ifCond .eq 63, 3) := dk_153 0 63 (bs_at BX12_next_141 19 rfl) rfl
theorem dX12_next_183 : decode cX12_next 183 = .ok (.aload_n 0, 1) := dk_42 (bs_at BX12_next_141 20 rfl)
theorem dX12_next_184 : decode cX12_next 184 = .ok (.aload_n 0, 1) := dk_42 (bs_at BX12_next_141 21 rfl)
theorem dX12_next_185 : decode cX12_next 185 = .ok (.getfield 236, 3) := dk_180 0 236 (bs_at BX12_next_141 22 rfl) rfl
theorem dX12_next_188 : decode cX12_next 188 = .ok (.aload_n 0, 1) := dk_42 (bs_at BX12_next_141 23 rfl)
theorem BX12_next_189 : bsegs (ByteArray.data cX12_next |>.toList.drop 189) 189 [(189, [180, 0, 246]), (192, [100]), (193, [16, 10]), (195, [162, 0, 29]), (198, [42]), (199, [180, 0, 249]), (202, [20, 1, 6]), (205, [105]), (206, [42]), (207, [180, 0, 35]), (210, [42]), (211, [180, 0, 236]), (214, [46]), (215, [133]), (216, [97]), (217, [20, 1, 8]), (220, [101]), (221, [167, 0, 6]), (224, [20, 1, 10]), (227, [181, 0, 249]), (230, [42]), (231, [89]), (232, [180, 0, 236]), (235, [4])] = true := by decide +kernel
theorem dX12_next_189 : decode cX12_next 189 = .ok (.getfield 246, 3) := dk_180 0 246 (bs_at BX12_next_189 0 rfl) rfl
theorem dX12_next_192 : decode cX12_next 192 = .ok (.isub, 1) := dk_100 (bs_at BX12_next_189 1 rfl)
theorem dX12_next_193 : decode cX12_next 193 = .ok (.bipush 10, 2) := dk_16 10 (bs_at BX12_next_189 2 rfl) rfl
theorem dX12_next_195 : decode cX12_next 195 = .ok (.if_icmp .ge 29, 3) := dk_162 0 29 (bs_at BX12_next_189 3 rfl) rfl
theorem dX12_next_198 : decode cX12_next 198 = .ok (.aload_n 0, 1) := dk_42 (bs_at BX12_next_189 4 rfl)
theorem dX12_next_199 : decode cX12_next 199 = .ok (.getfield 249, 3) := dk_180 0 249 (bs_at BX12_next_189 5 rfl) rfl
theorem dX12_next_202 : decode cX12_next 202 = .ok (.ldc2_w 262, 3) := dk_20 1 6 (bs_at BX12_next_189 6 rfl) rfl
theorem dX12_next_205 : decode cX12_next 205 = .ok (.lmul, 1) := dk_105 (bs_at BX12_next_189 7 rfl)
theorem dX12_next_206 : decode cX12_next 206 = .ok (.aload_n 0, 1) := dk_42 (bs_at BX12_next_189 8 rfl)
theorem dX12_next_207 : decode cX12_next 207 = .ok (.getfield 35, 3) := dk_180 0 35 (bs_at BX12_next_189 9 rfl) rfl
theorem dX12_next_210 : decode cX12_next 210 = .ok (.aload_n 0, 1) := dk_42 (bs_at BX12_next_189 10 rfl)
theorem dX12_next_211 : decode cX12_next 211 = .ok (.getfield 236, 3) := dk_180 0 236 (bs_at BX12_next_189 11 rfl) rfl
theorem dX12_next_214 : decode cX12_next 214 = .ok (.iaload, 1) := dk_46 (bs_at BX12_next_189 12 rfl)
theorem dX12_next_215 : decode cX12_next 215 = .ok (.i2l, 1) := dk_133 (bs_at BX12_next_189 13 rfl)
theorem dX12_next_216 : decode cX12_next 216 = .ok (.ladd, 1) := dk_97 (bs_at BX12_next_189 14 rfl)
theorem dX12_next_217 : decode cX12_next 217 = .ok (.ldc2_w 264, 3) := dk_20 1 8 (bs_at BX12_next_189 15 rfl) rfl
theorem dX12_next_220 : decode cX12_next 220 = .ok (.lsub, 1) := dk_101 (bs_at BX12_next_189 16 rfl)
theorem dX12_next_221 : decode cX12_next 221 = .ok (.goto 6, 3) := dk_167 0 6 (bs_at BX12_next_189 17 rfl) rfl
theorem dX12_next_224 : decode cX12_next 224 = .ok (.ldc2_w 266, 3) := dk_20 1 10 (bs_at BX12_next_189 18 rfl) rfl
theorem dX12_next_227 : decode cX12_next 227 = .ok (.putfield 249, 3) := dk_181 0 249 (bs_at BX12_next_189 19 rfl) rfl
theorem dX12_next_230 : decode cX12_next 230 = .ok (.aload_n 0, 1) := dk_42 (bs_at BX12_next_189 20 rfl)
theorem dX12_next_231 : decode cX12_next 231 = .ok (.dup, 1) := dk_89 (bs_at BX12_next_189 21 rfl)
theorem dX12_next_232 : decode cX12_next 232 = .ok (.getfield 236, 3) := dk_180 0 236 (bs_at BX12_next_189 22 rfl) rfl
theorem dX12_next_235 : decode cX12_next 235 = .ok (.iconst 1, 1) := dk_4 (bs_at BX12_next_189 23 rfl)
theorem BX12_next_236 : bsegs (ByteArray.data cX12_next |>.toList.drop 236) 236 [(236, [96]), (237, [181, 0, 236]), (240, [167, 255, 165]), (243, [42]), (244, [180, 1, 3]), (247, [5]), (248, [160, 0, 87]), (251, [42]), (252, [180, 0, 236]), (255, [42]), (256, [180, 0, 227]), (259, [162, 0, 76]), (262, [42]), (263, [180, 0, 35]), (266, [42]), (267, [180, 0, 236]), (270, [46]), (271, [184, 1, 0]), (274, [153, 0, 61]), (277, [42]), (278, [42]), (279, [180, 0, 249]), (282, [20, 1, 12]), (285, [148])] = true := by decide +kernel
theorem dX12_next_236 : decode cX12_next 236 = .ok (.iadd, 1) := dk_96 (bs_at BX12_next_236 0 rfl)
theorem dX12_next_237 : decode cX12_next 237 = .ok (.putfield 236, 3) := dk_181 0 236 (bs_at BX12_next_236 1 rfl) rfl
theorem dX12_next_240 : decode cX12_next 240 = .ok (.goto (-91), 3) := dk_167 255 165 (bs_at BX12_next_236 2 rfl) rfl
theorem dX12_next_243 : decode cX12_next 243 = .ok (.aload_n 0, 1) := dk_42 (bs_at BX12_next_236 3 rfl)
theorem dX12_next_244 : decode cX12_next 244 = .ok (.getfield 259, 3) := dk_180 1 3 (bs_at BX12_next_236 4 rfl) rfl
theorem dX12_next_247 : decode cX12_next 247 = .ok (.iconst 2, 1) := dk_5 (bs_at BX12_next_236 5 rfl)
theorem dX12_next_248 : decode cX12_next 248 = .ok (.if_icmp .ne 87, 3) := dk_160 0 87 (bs_at BX12_next_236 6 rfl) rfl
theorem dX12_next_251 : decode cX12_next 251 = .ok (.aload_n 0, 1) := dk_42 (bs_at BX12_next_236 7 rfl)
theorem dX12_next_252 : decode cX12_next 252 = .ok (.getfield 236, 3) := dk_180 0 236 (bs_at BX12_next_236 8 rfl) rfl
theorem dX12_next_255 : decode cX12_next 255 = .ok (.aload_n 0, 1) := dk_42 (bs_at BX12_next_236 9 rfl)
theorem dX12_next_256 : decode cX12_next 256 = .ok (.getfield 227, 3) := dk_180 0 227 (bs_at BX12_next_236 10 rfl) rfl
theorem dX12_next_259 : decode cX12_next 259 = .ok (.if_icmp .ge 76, 3) := dk_162 0 76 (bs_at BX12_next_236 11 rfl) rfl
theorem dX12_next_262 : decode cX12_next 262 = .ok (.aload_n 0, 1) := dk_42 (bs_at BX12_next_236 12 rfl)
theorem dX12_next_263 : decode cX12_next 263 = .ok (.getfield 35, 3) := dk_180 0 35 (bs_at BX12_next_236 13 rfl) rfl
theorem dX12_next_266 : decode cX12_next 266 = .ok (.aload_n 0, 1) := dk_42 (bs_at BX12_next_236 14 rfl)
theorem dX12_next_267 : decode cX12_next 267 = .ok (.getfield 236, 3) := dk_180 0 236 (bs_at BX12_next_236 15 rfl) rfl
theorem dX12_next_270 : decode cX12_next 270 = .ok (.iaload, 1) := dk_46 (bs_at BX12_next_236 16 rfl)
theorem dX12_next_271 : decode cX12_next 271 = .ok (.invokestatic 256, 3) := dk_184 1 0 (bs_at BX12_next_236 17 rfl) rfl
theorem dX12_next_274 : decode cX12_next 274 = .ok (.ifCond .eq 61, 3) := dk_153 0 61 (bs_at BX12_next_236 18 rfl) rfl
theorem dX12_next_277 : decode cX12_next 277 = .ok (.aload_n 0, 1) := dk_42 (bs_at BX12_next_236 19 rfl)
theorem dX12_next_278 : decode cX12_next 278 = .ok (.aload_n 0, 1) := dk_42 (bs_at BX12_next_236 20 rfl)
theorem dX12_next_279 : decode cX12_next 279 = .ok (.getfield 249, 3) := dk_180 0 249 (bs_at BX12_next_236 21 rfl) rfl
theorem dX12_next_282 : decode cX12_next 282 = .ok (.ldc2_w 268, 3) := dk_20 1 12 (bs_at BX12_next_236 22 rfl) rfl
theorem dX12_next_285 : decode cX12_next 285 = .ok (.lcmp, 1) := dk_148 (bs_at BX12_next_236 23 rfl)
theorem BX12_next_286 : bsegs (ByteArray.data cX12_next |>.toList.drop 286) 286 [(286, [158, 0, 10]), (289, [42]), (290, [180, 0, 249]), (293, [167, 0, 26]), (296, [42]), (297, [180, 0, 249]), (300, [20, 0, 219]), (303, [105]), (304, [42]), (305, [180, 0, 35]), (308, [42]), (309, [180, 0, 236]), (312, [46]), (313, [133]), (314, [97]), (315, [20, 1, 14]), (318, [101]), (319, [181, 0, 249]), (322, [42]), (323, [89]), (324, [180, 0, 236]), (327, [4]), (328, [96]), (329, [181, 0, 236])] = true := by decide +kernel
theorem dX12_next_286 : decode cX12_next 286 = .ok (.ifCond .le 10, 3) := dk_158 0 10 (bs_at BX12_next_286 0 rfl) rfl
theorem dX12_next_289 : decode cX12_next 289 = .ok (.aload_n 0, 1) := dk_42 (bs_at BX12_next_286 1 rfl)
theorem dX12_next_290 : decode cX12_next 290 = .ok (.getfield 249, 3) := dk_180 0 249 (bs_at BX12_next_286 2 rfl) rfl
theorem dX12_next_293 : decode cX12_next 293 = .ok (.goto 26, 3) := dk_167 0 26 (bs_at BX12_next_286 3 rfl) rfl
theorem dX12_next_296 : decode cX12_next 296 = .ok (.aload_n 0, 1) := dk_42 (bs_at BX12_next_286 4 rfl)
theorem dX12_next_297 : decode cX12_next 297 = .ok (.getfield 249, 3) := dk_180 0 249 (bs_at BX12_next_286 5 rfl) rfl
theorem dX12_next_300 : decode cX12_next 300 = .ok (.ldc2_w 219, 3) := dk_20 0 219 (bs_at BX12_next_286 6 rfl) rfl
theorem dX12_next_303 : decode cX12_next 303 = .ok (.lmul, 1) := dk_105 (bs_at BX12_next_286 7 rfl)
theorem dX12_next_304 : decode cX12_next 304 = .ok (.aload_n 0, 1) := dk_42 (bs_at BX12_next_286 8 rfl)
theorem dX12_next_305 : decode cX12_next 305 = .ok (.getfield 35, 3) := dk_180 0 35 (bs_at BX12_next_286 9 rfl) rfl
theorem dX12_next_308 : decode cX12_next 308 = .ok (.aload_n 0, 1) := dk_42 (bs_at BX12_next_286 10 rfl)
theorem dX12_next_309 : decode cX12_next 309 = .ok (.getfield 236, 3) := dk_180 0 236 (bs_at BX12_next_286 11 rfl) rfl
theorem dX12_next_312 : decode cX12_next 312 = .ok (.iaload, 1) := dk_46 (bs_at BX12_next_286 12 rfl)
theorem dX12_next_313 : decode cX12_next 313 = .ok (.i2l, 1) := dk_133 (bs_at BX12_next_286 13 rfl)
theorem dX12_next_314 : decode cX12_next 314 = .ok (.ladd, 1) := dk_97 (bs_at BX12_next_286 14 rfl)
theorem dX12_next_315 : decode cX12_next 315 = .ok (.ldc2_w 270, 3) := dk_20 1 14 (bs_at BX12_next_286 15 rfl) rfl
theorem dX12_next_318 : decode cX12_next 318 = .ok (.lsub, 1) := dk_101 (bs_at BX12_next_286 16 rfl)
theorem dX12_next_319 : decode cX12_next 319 = .ok (.putfield 249, 3) := dk_181 0 249 (bs_at BX12_next_286 17 rfl) rfl
theorem dX12_next_322 : decode cX12_next 322 = .ok (.aload_n 0, 1) := dk_42 (bs_at BX12_next_286 18 rfl)
theorem dX12_next_323 : decode cX12_next 323 = .ok (.dup, 1) := dk_89 (bs_at BX12_next_286 19 rfl)
theorem dX12_next_324 : decode cX12_next 324 = .ok (.getfield 236, 3) := dk_180 0 236 (bs_at BX12_next_286 20 rfl) rfl
theorem dX12_next_327 : decode cX12_next 327 = .ok (.iconst 1, 1) := dk_4 (bs_at BX12_next_286 21 rfl)
theorem dX12_next_328 : decode cX12_next 328 = .ok (.iadd, 1) := dk_96 (bs_at BX12_next_286 22 rfl)
theorem dX12_next_329 : decode cX12_next 329 = .ok (.putfield 236, 3) := dk_181 0 236 (bs_at BX12_next_286 23 rfl) rfl
theorem BX12_next_332 : bsegs (ByteArray.data cX12_next |>.toList.drop 332) 332 [(332, [167, 255, 167]), (335, [177])] = true := by decide +kernel
theorem dX12_next_332 : decode cX12_next 332 = .ok (.goto (-89), 3) := dk_167 255 167 (bs_at BX12_next_332 0 rfl) rfl
theorem dX12_next_335 : decode cX12_next 335 = .ok (.return_, 1) := dk_177 (bs_at BX12_next_332 1 rfl)
theorem BX12_begin_0 : bsegs (ByteArray.data cX12_begin |>.toList.drop 0) 0 [(0, [42]), (1, [3]), (2, [181, 0, 236]), (5, [42]), (6, [3]), (7, [181, 0, 239]), (10, [42]), (11, [2]), (12, [181, 0, 38]), (15, [42]), (16, [182, 0, 243]), (19, [177])] = true := by decide +kernel
theorem dX12_begin_0 : decode cX12_begin 0 = .ok (.aload_n 0, 1) := dk_42 (bs_at BX12_begin_0 0 rfl)
theorem dX12_begin_1 : decode cX12_begin 1 = .ok (.iconst 0, 1) := dk_3 (bs_at BX12_begin_0 1 rfl)
theorem dX12_begin_2 : decode cX12_begin 2 = .ok (.putfield 236, 3) := dk_181 0 236 (bs_at BX12_begin_0 2 rfl) rfl
theorem dX12_begin_5 : decode cX12_begin 5 = .ok (.aload_n 0, 1) := dk_42 (bs_at BX12_begin_0 3 rfl)
theorem dX12_begin_6 : decode cX12_begin 6 = .ok (.iconst 0, 1) := dk_3 (bs_at BX12_begin_0 4 rfl)
theorem dX12_begin_7 : decode cX12_begin 7 = .ok (.putfield 239, 3) := dk_181 0 239 (bs_at BX12_begin_0 5 rfl) rfl
theorem dX12_begin_10 : decode cX12_begin 10 = .ok (.aload_n 0, 1) := dk_42 (bs_at BX12_begin_0 6 rfl)
theorem dX12_begin_11 : decode cX12_begin 11 = .ok (.iconst (-1), 1) := dk_2 (bs_at BX12_begin_0 7 rfl)
theorem dX12_begin_12 : decode cX12_begin 12 = .ok (.putfield 38, 3) := dk_181 0 38 (bs_at BX12_begin_0 8 rfl) rfl
theorem dX12_begin_15 : decode cX12_begin 15 = .ok (.aload_n 0, 1) := dk_42 (bs_at BX12_begin_0 9 rfl)
theorem dX12_begin_16 : decode cX12_begin 16 = .ok (.invokevirtual 243, 3) := dk_182 0 243 (bs_at BX12_begin_0 10 rfl) rfl
theorem dX12_begin_19 : decode cX12_begin 19 = .ok (.return_, 1) := dk_177 (bs_at BX12_begin_0 11 rfl)
theorem BX12_isWord_0 : bsegs (ByteArray.data cX12_isWord |>.toList.drop 0) 0 [(0, [42]), (1, [180, 1, 3]), (4, [4]), (5, [160, 0, 16]), (8, [42]), (9, [180, 0, 249]), (12, [31]), (13, [148]), (14, [154, 0, 7]), (17, [4]), (18, [167, 0, 4]), (21, [3]), (22, [172])] = true := by decide +kernel
theorem dX12_isWord_0 : decode cX12_isWord 0 = .ok (.aload_n 0, 1) := dk_42 (bs_at BX12_isWord_0 0 rfl)
theorem dX12_isWord_1 : decode cX12_isWord 1 = .ok (.getfield 259, 3) := dk_180 1 3 (bs_at BX12_isWord_0 1 rfl) rfl
theorem dX12_isWord_4 : decode cX12_isWord 4 = .ok (.iconst 1, 1) := dk_4 (bs_at BX12_isWord_0 2 rfl)
theorem dX12_isWord_5 : decode cX12_isWord 5 = .ok (.if_icmp .ne 16, 3) := dk_160 0 16 (bs_at BX12_isWord_0 3 rfl) rfl
theorem dX12_isWord_8 : decode cX12_isWord 8 = .ok (.aload_n 0, 1) := dk_42 (bs_at BX12_isWord_0 4 rfl)
theorem dX12_isWord_9 : decode cX12_isWord 9 = .ok (.getfield 249, 3) := dk_180 0 249 (bs_at BX12_isWord_0 5 rfl) rfl
theorem dX12_isWord_12 : decode cX12_isWord 12 = .ok (.lload_n 1, 1) := dk_31 (bs_at BX12_isWord_0 6 rfl)
theorem dX12_isWord_13 : decode cX12_isWord 13 = .ok (.lcmp, 1) := dk_148 (bs_at BX12_isWord_0 7 rfl)
theorem dX12_isWord_14 : decode cX12_isWord 14 = .ok (.ifCond .ne 7, 3) := dk_154 0 7 (bs_at BX12_isWord_0 8 rfl) rfl
theorem dX12_isWord_17 : decode cX12_isWord 17 = .ok (.iconst 1, 1) := dk_4 (bs_at BX12_isWord_0 9 rfl)
theorem dX12_isWord_18 : decode cX12_isWord 18 = .ok (.goto 4, 3) := dk_167 0 4 (bs_at BX12_isWord_0 10 rfl) rfl
theorem dX12_isWord_21 : decode cX12_isWord 21 = .ok (.iconst 0, 1) := dk_3 (bs_at BX12_isWord_0 11 rfl)
theorem dX12_isWord_22 : decode cX12_isWord 22 = .ok (.ireturn, 1) := dk_172 (bs_at BX12_isWord_0 12 rfl)
theorem BX12_isSign_0 : bsegs (ByteArray.data cX12_isSign |>.toList.drop 0) 0 [(0, [42]), (1, [180, 1, 3]), (4, [6]), (5, [160, 0, 17]), (8, [42]), (9, [180, 0, 249]), (12, [27]), (13, [133]), (14, [148]), (15, [154, 0, 7]), (18, [4]), (19, [167, 0, 4]), (22, [3]), (23, [172])] = true := by decide +kernel
theorem dX12_isSign_0 : decode cX12_isSign 0 = .ok (.aload_n 0, 1) := dk_42 (bs_at BX12_isSign_0 0 rfl)
theorem dX12_isSign_1 : decode cX12_isSign 1 = .ok (.getfield 259, 3) := dk_180 1 3 (bs_at BX12_isSign_0 1 rfl) rfl
theorem dX12_isSign_4 : decode cX12_isSign 4 = .ok (.iconst 3, 1) := dk_6 (bs_at BX12_isSign_0 2 rfl)
theorem dX12_isSign_5 : decode cX12_isSign 5 = .ok (.if_icmp .ne 17, 3) := dk_160 0 17 (bs_at BX12_isSign_0 3 rfl) rfl
theorem dX12_isSign_8 : decode cX12_isSign 8 = .ok (.aload_n 0, 1) := dk_42 (bs_at BX12_isSign_0 4 rfl)
theorem dX12_isSign_9 : decode cX12_isSign 9 = .ok (.getfield 249, 3) := dk_180 0 249 (bs_at BX12_isSign_0 5 rfl) rfl
theorem dX12_isSign_12 : decode cX12_isSign 12 = .ok (.iload_n 1, 1) := dk_27 (bs_at BX12_isSign_0 6 rfl)
theorem dX12_isSign_13 : decode cX12_isSign 13 = .ok (.i2l, 1) := dk_133 (bs_at BX12_isSign_0 7 rfl)
theorem dX12_isSign_14 : decode cX12_isSign 14 = .ok (.lcmp, 1) := dk_148 (bs_at BX12_isSign_0 8 rfl)
theorem dX12_isSign_15 : decode cX12_isSign 15 = .ok (.ifCond .ne 7, 3) := dk_154 0 7 (bs_at BX12_isSign_0 9 rfl) rfl
theorem dX12_isSign_18 : decode cX12_isSign 18 = .ok (.iconst 1, 1) := dk_4 (bs_at BX12_isSign_0 10 rfl)
theorem dX12_isSign_19 : decode cX12_isSign 19 = .ok (.goto 4, 3) := dk_167 0 4 (bs_at BX12_isSign_0 11 rfl) rfl
theorem dX12_isSign_22 : decode cX12_isSign 22 = .ok (.iconst 0, 1) := dk_3 (bs_at BX12_isSign_0 12 rfl)
theorem dX12_isSign_23 : decode cX12_isSign 23 = .ok (.ireturn, 1) := dk_172 (bs_at BX12_isSign_0 13 rfl)
theorem BX12_must_0 : bsegs (ByteArray.data cX12_must |>.toList.drop 0) 0 [(0, [42]), (1, [180, 0, 239]), (4, [154, 0, 20]), (7, [27]), (8, [154, 0, 16]), (11, [42]), (12, [4]), (13, [181, 0, 239]), (16, [42]), (17, [42]), (18, [180, 0, 246]), (21, [181, 0, 38]), (24, [42]), (25, [180, 0, 239]), (28, [154, 0, 7]), (31, [42]), (32, [182, 0, 243]), (35, [177])] = true := by decide +kernel
theorem dX12_must_0 : decode cX12_must 0 = .ok (.aload_n 0, 1) := dk_42 (bs_at BX12_must_0 0 rfl)
theorem dX12_must_1 : decode cX12_must 1 = .ok (.getfield 239, 3) := dk_180 0 239 (bs_at BX12_must_0 1 rfl) rfl
theorem dX12_must_4 : decode cX12_must 4 = .ok (.ifCond .ne 20, 3) := dk_154 0 20 (bs_at BX12_must_0 2 rfl) rfl
theorem dX12_must_7 : decode cX12_must 7 = .ok (.iload_n 1, 1) := dk_27 (bs_at BX12_must_0 3 rfl)
theorem dX12_must_8 : decode cX12_must 8 = .ok (.ifCond .ne 16, 3) := dk_154 0 16 (bs_at BX12_must_0 4 rfl) rfl
theorem dX12_must_11 : decode cX12_must 11 = .ok (.aload_n 0, 1) := dk_42 (bs_at BX12_must_0 5 rfl)
theorem dX12_must_12 : decode cX12_must 12 = .ok (.iconst 1, 1) := dk_4 (bs_at BX12_must_0 6 rfl)
theorem dX12_must_13 : decode cX12_must 13 = .ok (.putfield 239, 3) := dk_181 0 239 (bs_at BX12_must_0 7 rfl) rfl
theorem dX12_must_16 : decode cX12_must 16 = .ok (.aload_n 0, 1) := dk_42 (bs_at BX12_must_0 8 rfl)
theorem dX12_must_17 : decode cX12_must 17 = .ok (.aload_n 0, 1) := dk_42 (bs_at BX12_must_0 9 rfl)
theorem dX12_must_18 : decode cX12_must 18 = .ok (.getfield 246, 3) := dk_180 0 246 (bs_at BX12_must_0 10 rfl) rfl
theorem dX12_must_21 : decode cX12_must 21 = .ok (.putfield 38, 3) := dk_181 0 38 (bs_at BX12_must_0 11 rfl) rfl
theorem dX12_must_24 : decode cX12_must 24 = .ok (.aload_n 0, 1) := dk_42 (bs_at BX12_must_0 12 rfl)
theorem dX12_must_25 : decode cX12_must 25 = .ok (.getfield 239, 3) := dk_180 0 239 (bs_at BX12_must_0 13 rfl) rfl
theorem dX12_must_28 : decode cX12_must 28 = .ok (.ifCond .ne 7, 3) := dk_154 0 7 (bs_at BX12_must_0 14 rfl) rfl
theorem dX12_must_31 : decode cX12_must 31 = .ok (.aload_n 0, 1) := dk_42 (bs_at BX12_must_0 15 rfl)
theorem dX12_must_32 : decode cX12_must 32 = .ok (.invokevirtual 243, 3) := dk_182 0 243 (bs_at BX12_must_0 16 rfl) rfl
theorem dX12_must_35 : decode cX12_must 35 = .ok (.return_, 1) := dk_177 (bs_at BX12_must_0 17 rfl)
theorem BX12_number_0 : bsegs (ByteArray.data cX12_number |>.toList.drop 0) 0 [(0, [42]), (1, [180, 0, 249]), (4, [136]), (5, [54, 5]), (7, [42]), (8, [42]), (9, [180, 1, 3]), (12, [5]), (13, [160, 0, 19]), (16, [42]), (17, [180, 0, 249]), (20, [31]), (21, [33]), (22, [184, 0, 178]), (25, [153, 0, 7]), (28, [4]), (29, [167, 0, 4]), (32, [3]), (33, [182, 1, 16]), (36, [21, 5]), (38, [172])] = true := by decide +kernel
theorem dX12_number_0 : decode cX12_number 0 = .ok (.aload_n 0, 1) := dk_42 (bs_at BX12_number_0 0 rfl)
theorem dX12_number_1 : decode cX12_number 1 = .ok (.getfield 249, 3) := dk_180 0 249 (bs_at BX12_number_0 1 rfl) rfl
theorem dX12_number_4 : decode cX12_number 4 = .ok (.l2i, 1) := dk_136 (bs_at BX12_number_0 2 rfl)
theorem dX12_number_5 : decode cX12_number 5 = .ok (.istore 5, 2) := dk_54 5 (bs_at BX12_number_0 3 rfl)
theorem dX12_number_7 : decode cX12_number 7 = .ok (.aload_n 0, 1) := dk_42 (bs_at BX12_number_0 4 rfl)
theorem dX12_number_8 : decode cX12_number 8 = .ok (.aload_n 0, 1) := dk_42 (bs_at BX12_number_0 5 rfl)
theorem dX12_number_9 : decode cX12_number 9 = .ok (.getfield 259, 3) := dk_180 1 3 (bs_at BX12_number_0 6 rfl) rfl
theorem dX12_number_12 : decode cX12_number 12 = .ok (.iconst 2, 1) := dk_5 (bs_at BX12_number_0 7 rfl)
theorem dX12_number_13 : decode cX12_number 13 = .ok (.if_icmp .ne 19, 3) := dk_160 0 19 (bs_at BX12_number_0 8 rfl) rfl
theorem dX12_number_16 : decode cX12_number 16 = .ok (.aload_n 0, 1) := dk_42 (bs_at BX12_number_0 9 rfl)
theorem dX12_number_17 : decode cX12_number 17 = .ok (.getfield 249, 3) := dk_180 0 249 (bs_at BX12_number_0 10 rfl) rfl
theorem dX12_number_20 : decode cX12_number 20 = .ok (.lload_n 1, 1) := dk_31 (bs_at BX12_number_0 11 rfl)
theorem dX12_number_21 : decode cX12_number 21 = .ok (.lload_n 3, 1) := dk_33 (bs_at BX12_number_0 12 rfl)
theorem dX12_number_22 : decode cX12_number 22 = .ok (.invokestatic 178, 3) := dk_184 0 178 (bs_at BX12_number_0 13 rfl) rfl
theorem dX12_number_25 : decode cX12_number 25 = .ok (.ifCond .eq 7, 3) := dk_153 0 7 (bs_at BX12_number_0 14 rfl) rfl
theorem dX12_number_28 : decode cX12_number 28 = .ok (.iconst 1, 1) := dk_4 (bs_at BX12_number_0 15 rfl)
theorem dX12_number_29 : decode cX12_number 29 = .ok (.goto 4, 3) := dk_167 0 4 (bs_at BX12_number_0 16 rfl) rfl
theorem dX12_number_32 : decode cX12_number 32 = .ok (.iconst 0, 1) := dk_3 (bs_at BX12_number_0 17 rfl)
theorem dX12_number_33 : decode cX12_number 33 = .ok (.invokevirtual 272, 3) := dk_182 1 16 (bs_at BX12_number_0 18 rfl) rfl
theorem dX12_number_36 : decode cX12_number 36 = .ok (.iload 5, 2) := dk_21 5 (bs_at BX12_number_0 19 rfl)
theorem dX12_number_38 : decode cX12_number 38 = .ok (.ireturn, 1) := dk_172 (bs_at BX12_number_0 20 rfl)
theorem BX12_partAt_0 : bsegs (ByteArray.data cX12_partAt |>.toList.drop 0) 0 [(0, [2]), (1, [60]), (2, [3]), (3, [61]), (4, [28]), (5, [16, 9]), (7, [162, 0, 30]), (10, [42]), (11, [42]), (12, [180, 0, 75]), (15, [28]), (16, [47]), (17, [182, 1, 39]), (20, [153, 0, 9]), (23, [28]), (24, [4]), (25, [96]), (26, [167, 0, 4]), (29, [27]), (30, [60]), (31, [132, 2, 1]), (34, [167, 255, 226]), (37, [27]), (38, [172])] = true := by decide +kernel
theorem dX12_partAt_0 : decode cX12_partAt 0 = .ok (.iconst (-1), 1) := dk_2 (bs_at BX12_partAt_0 0 rfl)
theorem dX12_partAt_1 : decode cX12_partAt 1 = .ok (.istore_n 1, 1) := dk_60 (bs_at BX12_partAt_0 1 rfl)
theorem dX12_partAt_2 : decode cX12_partAt 2 = .ok (.iconst 0, 1) := dk_3 (bs_at BX12_partAt_0 2 rfl)
theorem dX12_partAt_3 : decode cX12_partAt 3 = .ok (.istore_n 2, 1) := dk_61 (bs_at BX12_partAt_0 3 rfl)
theorem dX12_partAt_4 : decode cX12_partAt 4 = .ok (.iload_n 2, 1) := dk_28 (bs_at BX12_partAt_0 4 rfl)
theorem dX12_partAt_5 : decode cX12_partAt 5 = .ok (.bipush 9, 2) := dk_16 9 (bs_at BX12_partAt_0 5 rfl) rfl
theorem dX12_partAt_7 : decode cX12_partAt 7 = .ok (.if_icmp .ge 30, 3) := dk_162 0 30 (bs_at BX12_partAt_0 6 rfl) rfl
theorem dX12_partAt_10 : decode cX12_partAt 10 = .ok (.aload_n 0, 1) := dk_42 (bs_at BX12_partAt_0 7 rfl)
theorem dX12_partAt_11 : decode cX12_partAt 11 = .ok (.aload_n 0, 1) := dk_42 (bs_at BX12_partAt_0 8 rfl)
theorem dX12_partAt_12 : decode cX12_partAt 12 = .ok (.getfield 75, 3) := dk_180 0 75 (bs_at BX12_partAt_0 9 rfl) rfl
theorem dX12_partAt_15 : decode cX12_partAt 15 = .ok (.iload_n 2, 1) := dk_28 (bs_at BX12_partAt_0 10 rfl)
theorem dX12_partAt_16 : decode cX12_partAt 16 = .ok (.laload, 1) := dk_47 (bs_at BX12_partAt_0 11 rfl)
theorem dX12_partAt_17 : decode cX12_partAt 17 = .ok (.invokevirtual 295, 3) := dk_182 1 39 (bs_at BX12_partAt_0 12 rfl) rfl
theorem dX12_partAt_20 : decode cX12_partAt 20 = .ok (.ifCond .eq 9, 3) := dk_153 0 9 (bs_at BX12_partAt_0 13 rfl) rfl
theorem dX12_partAt_23 : decode cX12_partAt 23 = .ok (.iload_n 2, 1) := dk_28 (bs_at BX12_partAt_0 14 rfl)
theorem dX12_partAt_24 : decode cX12_partAt 24 = .ok (.iconst 1, 1) := dk_4 (bs_at BX12_partAt_0 15 rfl)
theorem dX12_partAt_25 : decode cX12_partAt 25 = .ok (.iadd, 1) := dk_96 (bs_at BX12_partAt_0 16 rfl)
theorem dX12_partAt_26 : decode cX12_partAt 26 = .ok (.goto 4, 3) := dk_167 0 4 (bs_at BX12_partAt_0 17 rfl) rfl
theorem dX12_partAt_29 : decode cX12_partAt 29 = .ok (.iload_n 1, 1) := dk_27 (bs_at BX12_partAt_0 18 rfl)
theorem dX12_partAt_30 : decode cX12_partAt 30 = .ok (.istore_n 1, 1) := dk_60 (bs_at BX12_partAt_0 19 rfl)
theorem dX12_partAt_31 : decode cX12_partAt 31 = .ok (.iinc 2 1, 3) := dk_132 2 1 (bs_at BX12_partAt_0 20 rfl) rfl
theorem dX12_partAt_34 : decode cX12_partAt 34 = .ok (.goto (-30), 3) := dk_167 255 226 (bs_at BX12_partAt_0 21 rfl) rfl
theorem dX12_partAt_37 : decode cX12_partAt 37 = .ok (.iload_n 1, 1) := dk_27 (bs_at BX12_partAt_0 22 rfl)
theorem dX12_partAt_38 : decode cX12_partAt 38 = .ok (.ireturn, 1) := dk_172 (bs_at BX12_partAt_0 23 rfl)
theorem BX12_orderPartAt_0 : bsegs (ByteArray.data cX12_orderPartAt |>.toList.drop 0) 0 [(0, [2]), (1, [60]), (2, [3]), (3, [61]), (4, [28]), (5, [16, 8]), (7, [162, 0, 30]), (10, [42]), (11, [42]), (12, [180, 0, 87]), (15, [28]), (16, [47]), (17, [182, 1, 39]), (20, [153, 0, 9]), (23, [28]), (24, [4]), (25, [96]), (26, [167, 0, 4]), (29, [27]), (30, [60]), (31, [132, 2, 1]), (34, [167, 255, 226]), (37, [27]), (38, [172])] = true := by decide +kernel
theorem dX12_orderPartAt_0 : decode cX12_orderPartAt 0 = .ok (.iconst (-1), 1) := dk_2 (bs_at BX12_orderPartAt_0 0 rfl)
theorem dX12_orderPartAt_1 : decode cX12_orderPartAt 1 = .ok (.istore_n 1, 1) := dk_60 (bs_at BX12_orderPartAt_0 1 rfl)
theorem dX12_orderPartAt_2 : decode cX12_orderPartAt 2 = .ok (.iconst 0, 1) := dk_3 (bs_at BX12_orderPartAt_0 2 rfl)
theorem dX12_orderPartAt_3 : decode cX12_orderPartAt 3 = .ok (.istore_n 2, 1) := dk_61 (bs_at BX12_orderPartAt_0 3 rfl)
theorem dX12_orderPartAt_4 : decode cX12_orderPartAt 4 = .ok (.iload_n 2, 1) := dk_28 (bs_at BX12_orderPartAt_0 4 rfl)
theorem dX12_orderPartAt_5 : decode cX12_orderPartAt 5 = .ok (.bipush 8, 2) := dk_16 8 (bs_at BX12_orderPartAt_0 5 rfl) rfl
theorem dX12_orderPartAt_7 : decode cX12_orderPartAt 7 = .ok (.if_icmp .ge 30, 3) := dk_162 0 30 (bs_at BX12_orderPartAt_0 6 rfl) rfl
theorem dX12_orderPartAt_10 : decode cX12_orderPartAt 10 = .ok (.aload_n 0, 1) := dk_42 (bs_at BX12_orderPartAt_0 7 rfl)
theorem dX12_orderPartAt_11 : decode cX12_orderPartAt 11 = .ok (.aload_n 0, 1) := dk_42 (bs_at BX12_orderPartAt_0 8 rfl)
theorem dX12_orderPartAt_12 : decode cX12_orderPartAt 12 = .ok (.getfield 87, 3) := dk_180 0 87 (bs_at BX12_orderPartAt_0 9 rfl) rfl
theorem dX12_orderPartAt_15 : decode cX12_orderPartAt 15 = .ok (.iload_n 2, 1) := dk_28 (bs_at BX12_orderPartAt_0 10 rfl)
theorem dX12_orderPartAt_16 : decode cX12_orderPartAt 16 = .ok (.laload, 1) := dk_47 (bs_at BX12_orderPartAt_0 11 rfl)
theorem dX12_orderPartAt_17 : decode cX12_orderPartAt 17 = .ok (.invokevirtual 295, 3) := dk_182 1 39 (bs_at BX12_orderPartAt_0 12 rfl) rfl
theorem dX12_orderPartAt_20 : decode cX12_orderPartAt 20 = .ok (.ifCond .eq 9, 3) := dk_153 0 9 (bs_at BX12_orderPartAt_0 13 rfl) rfl
theorem dX12_orderPartAt_23 : decode cX12_orderPartAt 23 = .ok (.iload_n 2, 1) := dk_28 (bs_at BX12_orderPartAt_0 14 rfl)
theorem dX12_orderPartAt_24 : decode cX12_orderPartAt 24 = .ok (.iconst 1, 1) := dk_4 (bs_at BX12_orderPartAt_0 15 rfl)
theorem dX12_orderPartAt_25 : decode cX12_orderPartAt 25 = .ok (.iadd, 1) := dk_96 (bs_at BX12_orderPartAt_0 16 rfl)
theorem dX12_orderPartAt_26 : decode cX12_orderPartAt 26 = .ok (.goto 4, 3) := dk_167 0 4 (bs_at BX12_orderPartAt_0 17 rfl) rfl
theorem dX12_orderPartAt_29 : decode cX12_orderPartAt 29 = .ok (.iload_n 1, 1) := dk_27 (bs_at BX12_orderPartAt_0 18 rfl)
theorem dX12_orderPartAt_30 : decode cX12_orderPartAt 30 = .ok (.istore_n 1, 1) := dk_60 (bs_at BX12_orderPartAt_0 19 rfl)
theorem dX12_orderPartAt_31 : decode cX12_orderPartAt 31 = .ok (.iinc 2 1, 3) := dk_132 2 1 (bs_at BX12_orderPartAt_0 20 rfl) rfl
theorem dX12_orderPartAt_34 : decode cX12_orderPartAt 34 = .ok (.goto (-30), 3) := dk_167 255 226 (bs_at BX12_orderPartAt_0 21 rfl) rfl
theorem dX12_orderPartAt_37 : decode cX12_orderPartAt 37 = .ok (.iload_n 1, 1) := dk_27 (bs_at BX12_orderPartAt_0 22 rfl)
theorem dX12_orderPartAt_38 : decode cX12_orderPartAt 38 = .ok (.ireturn, 1) := dk_172 (bs_at BX12_orderPartAt_0 23 rfl)
theorem ggX12_next_X12_isSmall : GoodIn wsX12_next wsX12_isSmall := gi_ch ch_X12_next ch_X12_isSmall (by decide +kernel)
theorem gX12_next_X12_isSmall : GoodIn wsX12_next (va_wsS RX12 253 yX12_isSmall wsX12_isSmall) := gi_ch ch_X12_next (ch_s [1083, 1084, 156] rfl ch_X12_isSmall) (by decide +kernel)
theorem ggX12_next_X12_isDigit : GoodIn wsX12_next wsX12_isDigit := gi_ch ch_X12_next ch_X12_isDigit (by decide +kernel)
theorem gX12_next_X12_isDigit : GoodIn wsX12_next (va_wsS RX12 256 yX12_isDigit wsX12_isDigit) := gi_ch ch_X12_next (ch_s [1086, 1087, 156] rfl ch_X12_isDigit) (by decide +kernel)
theorem ggX12_begin_X12_next : GoodIn wsX12_begin wsX12_next := gi_ch ch_X12_begin ch_X12_next (by decide +kernel)
theorem gX12_begin_X12_next : GoodIn wsX12_begin (wsV RX12 243 RX12 yX12_next wsX12_next) := gi_ch ch_X12_begin (ch_v [1080, 1081, 91, 156] rfl ch_X12_next) (by decide +kernel)
theorem ggX12_must_X12_next : GoodIn wsX12_must wsX12_next := gi_ch ch_X12_must ch_X12_next (by decide +kernel)
theorem gX12_must_X12_next : GoodIn wsX12_must (wsV RX12 243 RX12 yX12_next wsX12_next) := gi_ch ch_X12_must (ch_v [1080, 1081, 91, 156] rfl ch_X12_next) (by decide +kernel)
theorem ggX12_number_X12_must : GoodIn wsX12_number wsX12_must := gi_ch ch_X12_number ch_X12_must (by decide +kernel)
theorem gX12_number_X12_must : GoodIn wsX12_number (wsV RX12 272 RX12 yX12_must wsX12_must) := gi_ch ch_X12_number (ch_v [1099, 1100, 94, 156] rfl ch_X12_must) (by decide +kernel)
theorem ggX12_number_X12_in : GoodIn wsX12_number wsX12_in := gi_ch ch_X12_number ch_X12_in (by decide +kernel)
theorem gX12_number_X12_in : GoodIn wsX12_number (va_wsS RX12 178 yX12_in wsX12_in) := gi_ch ch_X12_number (ch_s [965, 966, 156] rfl ch_X12_in) (by decide +kernel)
theorem ggX12_partAt_X12_isWord : GoodIn wsX12_partAt wsX12_isWord := gi_ch ch_X12_partAt ch_X12_isWord (by decide +kernel)
theorem gX12_partAt_X12_isWord : GoodIn wsX12_partAt (wsV RX12 295 RX12 yX12_isWord wsX12_isWord) := gi_ch ch_X12_partAt (ch_v [1096, 1097, 93, 156] rfl ch_X12_isWord) (by decide +kernel)
theorem ggX12_orderPartAt_X12_isWord : GoodIn wsX12_orderPartAt wsX12_isWord := gi_ch ch_X12_orderPartAt ch_X12_isWord (by decide +kernel)
theorem gX12_orderPartAt_X12_isWord : GoodIn wsX12_orderPartAt (wsV RX12 295 RX12 yX12_isWord wsX12_isWord) := gi_ch ch_X12_orderPartAt (ch_v [1096, 1097, 93, 156] rfl ch_X12_isWord) (by decide +kernel)
set_option maxRecDepth 100000 in
noncomputable def E_v_isSmall (x : Int32) : Int32 :=
  if x < 97 then ((0 : Int32)) else (if 122 < x then ((0 : Int32)) else ((1 : Int32)))
set_option maxHeartbeats 4000000 in
set_option maxRecDepth 100000 in
theorem v_isSmall (l : Launch) (D : va_G) (K : Nat → ClassId) (X : Int) (x : Int32) (sz : Nat) (qx : x.toInt = X) : Met l yX12_isSmall wsX12_isSmall ({ frames := 0, cells := 0, slots := 0, locals := 0 }) (va_Pc [.int x] (Pre D K [] sz)) (vp_Si (fun r : Int32 => ((r = 1 ∧ 97 ≤ X ∧ X ≤ 122) ∨ (r = 0 ∧ (X < 97 ∨ 122 < X))) ∧ (r = E_v_isSmall x) ∧ True)) 0 0 (fun _ => False) := by
  refine Met.ofW (cc := cX12_isSmall) (maxL := 1) (ret := (some .boolean)) (by decide +kernel) rfl ?_
  intro p e s m args below meth c s₁ B hml hv
  obtain ⟨rfl, hsz, hP, hK, hD0, hN⟩ := hv
  have hx := B.exec
  have hb := B.bytes
  have hr := B.returns
  have hts := atoms_spec (ws := wsX12_isSmall) B.pre
  have hown : s.vm.findClass RX12 = some m.cls := findClass_of_methodNamed B.named
  have hlocks := B.notSynchronized
  subst hsz
  have hD := hD0
  replace hP : va_P D vwCl [] s.heap := hP
  have hl := lv_entry [.int x] (n := 1) (Nat.le_of_ble_eq_true rfl)
  rw [lg_entry_eq]
  generalize (lg_sl [.int x] ++ List.replicate (1 - (lg_sl [.int x]).length) Slot.unset).toArray = ls at hl ⊢
  have hl : lv_has ls 1 [(0, .int x)] := hl
  generalize hQ : MQ below _ _ s _ _ _ = Q
  have hE := E_v_isSmall.eq_def x
  refine lv_iload_n hx hb dX12_isSmall_0 rfl (lv_at hl 0 rfl) (lv_bipush (v := 97) hx hb dX12_isSmall_1 (by decide +kernel) (lv_icmp_lt (tgt := 16) hx hb dX12_isSmall_3 (by decide +kernel) (fun c_65 => ?_) (fun c_65 => ?_)))
  · have c_65i := i_lt (x := X) (y := 97) qx rfl c_65
    replace hE := hE.trans (if_pos c_65)
    refine lv_iconst (v := 0) hx hb dX12_isSmall_16 (by decide +kernel) ?_
    rw [← hQ]
    exact W.zret (v := 0) hx hb hr (by decide +kernel) (fun t ht hW => ⟨_, rfl, ⟨(by first | exact Or.inr (⟨rfl, by first | omega | decide | (subst_vars; assumption)⟩)), hE.symm, trivial⟩, ht⟩) (fun q hq => by cases hq) dX12_isSmall_17
  · have c_65i := i_nlt (x := X) (y := 97) qx rfl c_65
    replace hE := hE.trans (if_neg c_65)
    refine lv_iload_n hx hb dX12_isSmall_6 rfl (lv_at hl 0 rfl) (lv_bipush (v := 122) hx hb dX12_isSmall_7 (by decide +kernel) (lv_icmp_gt (tgt := 16) hx hb dX12_isSmall_9 (by decide +kernel) (fun c_66 => ?_) (fun c_66 => ?_)))
    · have c_66i := i_lt (x := 122) (y := X) rfl qx c_66
      replace hE := hE.trans (if_pos c_66)
      refine lv_iconst (v := 0) hx hb dX12_isSmall_16 (by decide +kernel) ?_
      rw [← hQ]
      exact W.zret (v := 0) hx hb hr (by decide +kernel) (fun t ht hW => ⟨_, rfl, ⟨(by first | exact Or.inr (⟨rfl, by first | omega | decide | (subst_vars; assumption)⟩)), hE.symm, trivial⟩, ht⟩) (fun q hq => by cases hq) dX12_isSmall_17
    · have c_66i := i_nlt (x := 122) (y := X) rfl qx c_66
      replace hE := hE.trans (if_neg c_66)
      refine lv_iconst (v := 1) hx hb dX12_isSmall_12 (by decide +kernel) (lv_goto (tgt := 17) hx hb dX12_isSmall_13 (by decide +kernel) ?_)
      rw [← hQ]
      exact W.zret (v := 1) hx hb hr (by decide +kernel) (fun t ht hW => ⟨_, rfl, ⟨(by first | exact Or.inl ⟨rfl, by first | omega | decide | (subst_vars; assumption), by first | omega | decide | (subst_vars; assumption)⟩), hE.symm, trivial⟩, ht⟩) (fun q hq => by cases hq) dX12_isSmall_17
set_option maxRecDepth 100000 in
noncomputable def E_v_isDigit (x : Int32) : Int32 :=
  if x < 48 then ((0 : Int32)) else (if 57 < x then ((0 : Int32)) else ((1 : Int32)))
set_option maxHeartbeats 4000000 in
set_option maxRecDepth 100000 in
theorem v_isDigit (l : Launch) (D : va_G) (K : Nat → ClassId) (X : Int) (x : Int32) (sz : Nat) (qx : x.toInt = X) : Met l yX12_isDigit wsX12_isDigit ({ frames := 0, cells := 0, slots := 0, locals := 0 }) (va_Pc [.int x] (Pre D K [] sz)) (vp_Si (fun r : Int32 => ((r = 1 ∧ 48 ≤ X ∧ X ≤ 57) ∨ (r = 0 ∧ (X < 48 ∨ 57 < X))) ∧ (r = E_v_isDigit x) ∧ True)) 0 0 (fun _ => False) := by
  refine Met.ofW (cc := cX12_isDigit) (maxL := 1) (ret := (some .boolean)) (by decide +kernel) rfl ?_
  intro p e s m args below meth c s₁ B hml hv
  obtain ⟨rfl, hsz, hP, hK, hD0, hN⟩ := hv
  have hx := B.exec
  have hb := B.bytes
  have hr := B.returns
  have hts := atoms_spec (ws := wsX12_isDigit) B.pre
  have hown : s.vm.findClass RX12 = some m.cls := findClass_of_methodNamed B.named
  have hlocks := B.notSynchronized
  subst hsz
  have hD := hD0
  replace hP : va_P D vwCl [] s.heap := hP
  have hl := lv_entry [.int x] (n := 1) (Nat.le_of_ble_eq_true rfl)
  rw [lg_entry_eq]
  generalize (lg_sl [.int x] ++ List.replicate (1 - (lg_sl [.int x]).length) Slot.unset).toArray = ls at hl ⊢
  have hl : lv_has ls 1 [(0, .int x)] := hl
  generalize hQ : MQ below _ _ s _ _ _ = Q
  have hE := E_v_isDigit.eq_def x
  refine lv_iload_n hx hb dX12_isDigit_0 rfl (lv_at hl 0 rfl) (lv_bipush (v := 48) hx hb dX12_isDigit_1 (by decide +kernel) (lv_icmp_lt (tgt := 16) hx hb dX12_isDigit_3 (by decide +kernel) (fun c_65 => ?_) (fun c_65 => ?_)))
  · have c_65i := i_lt (x := X) (y := 48) qx rfl c_65
    replace hE := hE.trans (if_pos c_65)
    refine lv_iconst (v := 0) hx hb dX12_isDigit_16 (by decide +kernel) ?_
    rw [← hQ]
    exact W.zret (v := 0) hx hb hr (by decide +kernel) (fun t ht hW => ⟨_, rfl, ⟨(by first | exact Or.inr (⟨rfl, by first | omega | decide | (subst_vars; assumption)⟩)), hE.symm, trivial⟩, ht⟩) (fun q hq => by cases hq) dX12_isDigit_17
  · have c_65i := i_nlt (x := X) (y := 48) qx rfl c_65
    replace hE := hE.trans (if_neg c_65)
    refine lv_iload_n hx hb dX12_isDigit_6 rfl (lv_at hl 0 rfl) (lv_bipush (v := 57) hx hb dX12_isDigit_7 (by decide +kernel) (lv_icmp_gt (tgt := 16) hx hb dX12_isDigit_9 (by decide +kernel) (fun c_66 => ?_) (fun c_66 => ?_)))
    · have c_66i := i_lt (x := 57) (y := X) rfl qx c_66
      replace hE := hE.trans (if_pos c_66)
      refine lv_iconst (v := 0) hx hb dX12_isDigit_16 (by decide +kernel) ?_
      rw [← hQ]
      exact W.zret (v := 0) hx hb hr (by decide +kernel) (fun t ht hW => ⟨_, rfl, ⟨(by first | exact Or.inr (⟨rfl, by first | omega | decide | (subst_vars; assumption)⟩)), hE.symm, trivial⟩, ht⟩) (fun q hq => by cases hq) dX12_isDigit_17
    · have c_66i := i_nlt (x := 57) (y := X) rfl qx c_66
      replace hE := hE.trans (if_neg c_66)
      refine lv_iconst (v := 1) hx hb dX12_isDigit_12 (by decide +kernel) (lv_goto (tgt := 17) hx hb dX12_isDigit_13 (by decide +kernel) ?_)
      rw [← hQ]
      exact W.zret (v := 1) hx hb hr (by decide +kernel) (fun t ht hW => ⟨_, rfl, ⟨(by first | exact Or.inl ⟨rfl, by first | omega | decide | (subst_vars; assumption), by first | omega | decide | (subst_vars; assumption)⟩), hE.symm, trivial⟩, ht⟩) (fun q hq => by cases hq) dX12_isDigit_17
set_option maxRecDepth 100000 in
noncomputable def E_v_next_l149 (ta : Int32) (ft : Nat → Int32) (v_1944 : Int32) (rec_2103 : Int32 → Int64 → (Int32 × Int32 × Int32 × Int64)) (v_2061 : Int32) (v_2062 : Int64) : Int32 × Int32 × Int32 × Int64 :=
  if ta ≤ v_2061 then (((v_1944, v_2061, 1, v_2062) : Int32 × Int32 × Int32 × Int64)) else (Lt (ft (v_2061 : Int32).toNatClampNeg : Int32) (fun x_2108 => Lt (E_v_isSmall x_2108) (fun r_2109 => if r_2109 = 1 then (Lt (v_2061 - v_1944 : Int32) (fun x_2115 => if 10 ≤ x_2115 then (Lt (v_2061 + 1 : Int32) (fun x_2117 => rec_2103 x_2117 (-1))) else (Lt (v_2062 * 32 : Int64) (fun x_2119 => Lt (ft (v_2061 : Int32).toNatClampNeg : Int32) (fun x_2120 => Lt ((x_2120 : Int32).toInt64 : Int64) (fun x_2121 => Lt (x_2119 + x_2121 : Int64) (fun x_2122 => Lt (x_2122 - 96 : Int64) (fun x_2123 => Lt (v_2061 + 1 : Int32) (fun x_2124 => rec_2103 x_2124 x_2123))))))))) else (((v_1944, v_2061, 1, v_2062) : Int32 × Int32 × Int32 × Int64)))))
set_option maxRecDepth 100000 in
noncomputable def E_v_next_l243 (ta : Int32) (ft : Nat → Int32) (v_1944 : Int32) (rec_2383 : Int32 → Int64 → (Int32 × Int32 × Int32 × Int64)) (v_2343 : Int32) (v_2344 : Int64) : Int32 × Int32 × Int32 × Int64 :=
  if ta ≤ v_2343 then (((v_1944, v_2343, 2, v_2344) : Int32 × Int32 × Int32 × Int64)) else (Lt (ft (v_2343 : Int32).toNatClampNeg : Int32) (fun x_2387 => Lt (E_v_isDigit x_2387) (fun r_2388 => if r_2388 = 1 then (if (lg_cmp v_2344 1000000) ≤ 0 then (Lt (v_2344 * 10 : Int64) (fun x_2395 => Lt (ft (v_2343 : Int32).toNatClampNeg : Int32) (fun x_2396 => Lt ((x_2396 : Int32).toInt64 : Int64) (fun x_2397 => Lt (x_2395 + x_2397 : Int64) (fun x_2398 => Lt (x_2398 - 48 : Int64) (fun x_2399 => Lt (v_2343 + 1 : Int32) (fun x_2400 => rec_2383 x_2400 x_2399))))))) else (Lt (v_2343 + 1 : Int32) (fun x_2401 => rec_2383 x_2401 v_2344))) else (((v_1944, v_2343, 2, v_2344) : Int32 × Int32 × Int32 × Int64)))))
set_option maxRecDepth 100000 in
noncomputable def E_v_next_l8 (ta : Int32) (ft : Nat → Int32) (rec_1954 : Int32 → (Int32 × Int32 × Int32 × Int64)) (v_1944 : Int32) : Int32 × Int32 × Int32 × Int64 :=
  if ta ≤ v_1944 then (if v_1944 = ta then (((v_1944, v_1944, 0, 0) : Int32 × Int32 × Int32 × Int64)) else (Lt (ft (v_1944 : Int32).toNatClampNeg : Int32) (fun x_1958 => Lt (E_v_isSmall x_1958) (fun r_1959 => if r_1959 = 1 then (if ta ≤ v_1944 then (((v_1944, v_1944, 1, 0) : Int32 × Int32 × Int32 × Int64)) else (Lt (ft (v_1944 : Int32).toNatClampNeg : Int32) (fun x_1969 => Lt (E_v_isSmall x_1969) (fun r_1970 => if r_1970 = 1 then (Lt (v_1944 - v_1944 : Int32) (fun x_1976 => if 10 ≤ x_1976 then (Lt (v_1944 + 1 : Int32) (fun x_1978 => Lp (α := Int32 → Int64 → (Int32 × Int32 × Int32 × Int64)) (E_v_next_l149 ta ft v_1944) (fun _ _ => ((0, 0, 0, 0) : Int32 × Int32 × Int32 × Int64)) ((ta.toInt - (x_1978 : Int32).toInt : Int).toNat + 1) x_1978 (-1))) else (Lt (ft (v_1944 : Int32).toNatClampNeg : Int32) (fun x_2129 => Lt ((x_2129 : Int32).toInt64 : Int64) (fun x_2130 => Lt (0 + x_2130 : Int64) (fun x_2131 => Lt (x_2131 - 96 : Int64) (fun x_2132 => Lt (v_1944 + 1 : Int32) (fun x_2133 => Lp (α := Int32 → Int64 → (Int32 × Int32 × Int32 × Int64)) (E_v_next_l149 ta ft v_1944) (fun _ _ => ((0, 0, 0, 0) : Int32 × Int32 × Int32 × Int64)) ((ta.toInt - (x_2133 : Int32).toInt : Int).toNat + 1) x_2133 x_2132)))))))) else (((0, 0, 0, 0) : Int32 × Int32 × Int32 × Int64)))))) else (Lt (ft (v_1944 : Int32).toNatClampNeg : Int32) (fun x_2262 => Lt (E_v_isDigit x_2262) (fun r_2263 => if r_2263 = 1 then (if ta ≤ v_1944 then (((v_1944, v_1944, 2, 0) : Int32 × Int32 × Int32 × Int64)) else (Lt (ft (v_1944 : Int32).toNatClampNeg : Int32) (fun x_2273 => Lt (E_v_isDigit x_2273) (fun r_2274 => if r_2274 = 1 then (Lt (ft (v_1944 : Int32).toNatClampNeg : Int32) (fun x_2282 => Lt ((x_2282 : Int32).toInt64 : Int64) (fun x_2283 => Lt (0 + x_2283 : Int64) (fun x_2284 => Lt (x_2284 - 48 : Int64) (fun x_2285 => Lt (v_1944 + 1 : Int32) (fun x_2286 => Lp (α := Int32 → Int64 → (Int32 × Int32 × Int32 × Int64)) (E_v_next_l243 ta ft v_1944) (fun _ _ => ((0, 0, 0, 0) : Int32 × Int32 × Int32 × Int64)) ((ta.toInt - (x_2286 : Int32).toInt : Int).toNat + 1) x_2286 x_2285)))))) else (((0, 0, 0, 0) : Int32 × Int32 × Int32 × Int64)))))) else (Lt (ft (v_1944 : Int32).toNatClampNeg : Int32) (fun x_2405 => Lt ((x_2405 : Int32).toInt64 : Int64) (fun x_2406 => Lt (v_1944 + 1 : Int32) (fun x_2407 => ((v_1944, x_2407, 3, x_2406) : Int32 × Int32 × Int32 × Int64)))))))))))) else (Lt (ft (v_1944 : Int32).toNatClampNeg : Int32) (fun x_2413 => if x_2413 = 32 then (Lt (v_1944 + 1 : Int32) (fun x_2871 => rec_1954 x_2871)) else (if v_1944 = ta then (((v_1944, v_1944, 0, 0) : Int32 × Int32 × Int32 × Int64)) else (Lt (ft (v_1944 : Int32).toNatClampNeg : Int32) (fun x_2416 => Lt (E_v_isSmall x_2416) (fun r_2417 => if r_2417 = 1 then (if ta ≤ v_1944 then (((v_1944, v_1944, 1, 0) : Int32 × Int32 × Int32 × Int64)) else (Lt (ft (v_1944 : Int32).toNatClampNeg : Int32) (fun x_2427 => Lt (E_v_isSmall x_2427) (fun r_2428 => if r_2428 = 1 then (Lt (v_1944 - v_1944 : Int32) (fun x_2434 => if 10 ≤ x_2434 then (Lt (v_1944 + 1 : Int32) (fun x_2436 => Lp (α := Int32 → Int64 → (Int32 × Int32 × Int32 × Int64)) (E_v_next_l149 ta ft v_1944) (fun _ _ => ((0, 0, 0, 0) : Int32 × Int32 × Int32 × Int64)) ((ta.toInt - (x_2436 : Int32).toInt : Int).toNat + 1) x_2436 (-1))) else (Lt (ft (v_1944 : Int32).toNatClampNeg : Int32) (fun x_2587 => Lt ((x_2587 : Int32).toInt64 : Int64) (fun x_2588 => Lt (0 + x_2588 : Int64) (fun x_2589 => Lt (x_2589 - 96 : Int64) (fun x_2590 => Lt (v_1944 + 1 : Int32) (fun x_2591 => Lp (α := Int32 → Int64 → (Int32 × Int32 × Int32 × Int64)) (E_v_next_l149 ta ft v_1944) (fun _ _ => ((0, 0, 0, 0) : Int32 × Int32 × Int32 × Int64)) ((ta.toInt - (x_2591 : Int32).toInt : Int).toNat + 1) x_2591 x_2590)))))))) else (((0, 0, 0, 0) : Int32 × Int32 × Int32 × Int64)))))) else (Lt (ft (v_1944 : Int32).toNatClampNeg : Int32) (fun x_2720 => Lt (E_v_isDigit x_2720) (fun r_2721 => if r_2721 = 1 then (if ta ≤ v_1944 then (((v_1944, v_1944, 2, 0) : Int32 × Int32 × Int32 × Int64)) else (Lt (ft (v_1944 : Int32).toNatClampNeg : Int32) (fun x_2731 => Lt (E_v_isDigit x_2731) (fun r_2732 => if r_2732 = 1 then (Lt (ft (v_1944 : Int32).toNatClampNeg : Int32) (fun x_2740 => Lt ((x_2740 : Int32).toInt64 : Int64) (fun x_2741 => Lt (0 + x_2741 : Int64) (fun x_2742 => Lt (x_2742 - 48 : Int64) (fun x_2743 => Lt (v_1944 + 1 : Int32) (fun x_2744 => Lp (α := Int32 → Int64 → (Int32 × Int32 × Int32 × Int64)) (E_v_next_l243 ta ft v_1944) (fun _ _ => ((0, 0, 0, 0) : Int32 × Int32 × Int32 × Int64)) ((ta.toInt - (x_2744 : Int32).toInt : Int).toNat + 1) x_2744 x_2743)))))) else (((0, 0, 0, 0) : Int32 × Int32 × Int32 × Int64)))))) else (Lt (ft (v_1944 : Int32).toNatClampNeg : Int32) (fun x_2863 => Lt ((x_2863 : Int32).toInt64 : Int64) (fun x_2864 => Lt (v_1944 + 1 : Int32) (fun x_2865 => ((v_1944, x_2865, 3, x_2864) : Int32 × Int32 × Int32 × Int64))))))))))))))
set_option maxRecDepth 100000 in
noncomputable def E_v_next (ta : Int32) (fr : Int32) (to : Int32) (so : Int32) (wo : Int64) (ft : Nat → Int32) : Int32 × Int32 × Int32 × Int64 :=
  Lp (α := Int32 → (Int32 × Int32 × Int32 × Int64)) (E_v_next_l8 ta ft) (fun _ => ((0, 0, 0, 0) : Int32 × Int32 × Int32 × Int64)) ((ta.toInt - (to : Int32).toInt : Int).toNat + 1) to
set_option maxHeartbeats 4000000 in
set_option maxRecDepth 100000 in
theorem v_next (l : Launch) (D : va_G) (K : Nat → ClassId) (m0 : Nat) (m_0 : Value) (m_1 : Value) (m_2 : Value) (m_3 : Value) (m_4 : Value) (m_5 : Value) (m_6 : Value) (m_7 : Value) (m_8 : Value) (m_9 : Value) (m_10 : Value) (m_11 : Value) (t0 : Nat) (ta : Int32) (fr : Int32) (to : Int32) (so : Int32) (wo : Int64) (m_18 : Value) (m_19 : Value) (m_20 : Value) (m_21 : Value) (m_22 : Value) (m_23 : Value) (m_24 : Value) (m_25 : Value) (m_26 : Value) (m_27 : Value) (m_28 : Value) (m_29 : Value) (m_30 : Value) (m_31 : Value) (m_32 : Value) (m_33 : Value) (m_34 : Value) (m_35 : Value) (m_36 : Value) (m_37 : Value) (m_38 : Value) (m_39 : Value) (m_40 : Value) (m_41 : Value) (m_42 : Value) (m_43 : Value) (m_44 : Value) (m_45 : Value) (m_46 : Value) (m_47 : Value) (m_48 : Value) (m_49 : Value) (m_50 : Value) (m_51 : Value) (m_52 : Value) (m_53 : Value) (m_54 : Value) (m_55 : Value) (m_56 : Value) (m_57 : Value) (m_58 : Value) (m_59 : Value) (ft : Nat → Int32) (sz : Nat) (zto : 0 ≤ to.toInt ∧ to.toInt ≤ ta.toInt ∧ ta.toInt ≤ 400) : Met l yX12_next wsX12_next ({ frames := 1, cells := 0, slots := 0, locals := 20 }) (va_Pc [.ref m0] (Pre D K [(cc_O m0 12 [m_0, m_1, m_2, m_3, m_4, m_5, m_6, m_7, m_8, m_9, m_10, m_11, .ref t0, .int ta, .int fr, .int to, .int so, .long wo, m_18, m_19, m_20, m_21, m_22, m_23, m_24, m_25, m_26, m_27, m_28, m_29, m_30, m_31, m_32, m_33, m_34, m_35, m_36, m_37, m_38, m_39, m_40, m_41, m_42, m_43, m_44, m_45, m_46, m_47, m_48, m_49, m_50, m_51, m_52, m_53, m_54, m_55, m_56, m_57, m_58, m_59]), (cc_l t0 (K 0) 400 ft)] sz)) (va_Qv (S := Su) (fun (u : Su) => (0 ≤ (u.2.2.2.1 0).toInt ∧ (u.2.2.2.1 0).toInt ≤ 400) ∧ (0 ≤ (u.2.2.2.1 1).toInt ∧ (u.2.2.2.1 1).toInt ≤ 401) ∧ (0 ≤ (u.2.2.2.1 2).toInt ∧ (u.2.2.2.1 2).toInt ≤ 3) ∧ (((u.2.2.2.1 0), (u.2.2.2.1 1), (u.2.2.2.1 2), (u.2.2.2.2.1 0)) = E_v_next ta fr to so wo ft) ∧ (((0 ≤ (u.2.2.2.1 0).toInt ∧ (u.2.2.2.1 0).toInt ≤ (u.2.2.2.1 1).toInt ∧ (u.2.2.2.1 1).toInt ≤ ta.toInt) ∧ ((u.2.2.2.1 2).toInt = 0 ∨ (u.2.2.2.1 0).toInt < (u.2.2.2.1 1).toInt) ∧ ((u.2.2.2.1 2).toInt ≠ 1 ∨ (u.2.2.2.1 0).toInt + 1 < (u.2.2.2.1 1).toInt ∨ (u.2.2.2.2.1 0).toInt ≤ 26))) ∧ (to.toInt ≤ (u.2.2.2.1 0).toInt) ∧ True) (fun u t => Wd D (va_A [(cc_O m0 12 [m_0, m_1, m_2, m_3, m_4, m_5, m_6, m_7, m_8, m_9, m_10, m_11, .ref t0, .int ta, .int fr, .int to, .int so, .long wo, m_18, m_19, m_20, m_21, m_22, m_23, m_24, m_25, m_26, m_27, m_28, m_29, m_30, m_31, m_32, m_33, m_34, m_35, m_36, m_37, m_38, m_39, m_40, m_41, m_42, m_43, m_44, m_45, m_46, m_47, m_48, m_49, m_50, m_51, m_52, m_53, m_54, m_55, m_56, m_57, m_58, m_59]), (cc_l t0 (K 0) 400 ft)] sz) ((fun u => [(cc_O m0 12 [m_0, m_1, m_2, m_3, m_4, m_5, m_6, m_7, m_8, m_9, m_10, m_11, .ref t0, .int ta, .int (u.2.2.2.1 0), .int (u.2.2.2.1 1), .int (u.2.2.2.1 2), .long (u.2.2.2.2.1 0), m_18, m_19, m_20, m_21, m_22, m_23, m_24, m_25, m_26, m_27, m_28, m_29, m_30, m_31, m_32, m_33, m_34, m_35, m_36, m_37, m_38, m_39, m_40, m_41, m_42, m_43, m_44, m_45, m_46, m_47, m_48, m_49, m_50, m_51, m_52, m_53, m_54, m_55, m_56, m_57, m_58, m_59]), (cc_l t0 (K 0) 400 ft)]) u) t) (va_A [(cc_O m0 12 [m_0, m_1, m_2, m_3, m_4, m_5, m_6, m_7, m_8, m_9, m_10, m_11, .ref t0, .int ta, .int fr, .int to, .int so, .long wo, m_18, m_19, m_20, m_21, m_22, m_23, m_24, m_25, m_26, m_27, m_28, m_29, m_30, m_31, m_32, m_33, m_34, m_35, m_36, m_37, m_38, m_39, m_40, m_41, m_42, m_43, m_44, m_45, m_46, m_47, m_48, m_49, m_50, m_51, m_52, m_53, m_54, m_55, m_56, m_57, m_58, m_59]), (cc_l t0 (K 0) 400 ft)] sz)) 0 0 (va_A [(cc_O m0 12 [m_0, m_1, m_2, m_3, m_4, m_5, m_6, m_7, m_8, m_9, m_10, m_11, .ref t0, .int ta, .int fr, .int to, .int so, .long wo, m_18, m_19, m_20, m_21, m_22, m_23, m_24, m_25, m_26, m_27, m_28, m_29, m_30, m_31, m_32, m_33, m_34, m_35, m_36, m_37, m_38, m_39, m_40, m_41, m_42, m_43, m_44, m_45, m_46, m_47, m_48, m_49, m_50, m_51, m_52, m_53, m_54, m_55, m_56, m_57, m_58, m_59]), (cc_l t0 (K 0) 400 ft)] sz) := by
  refine Met.ofW (cc := cX12_next) (maxL := 1) (ret := none) (by decide +kernel) rfl ?_
  intro p e s m args below meth c s₁ B hml hv
  obtain ⟨rfl, hsz, hP, hK, hD0, hN⟩ := hv
  have hx := B.exec
  have hb := B.bytes
  have hr := B.returns
  have hts := atoms_spec (ws := wsX12_next) B.pre
  have hown : s.vm.findClass RX12 = some m.cls := findClass_of_methodNamed B.named
  have hlocks := B.notSynchronized
  subst hsz
  have hD := hD0.self (sz := s.heap.size)
  generalize hAe : va_A [(cc_O m0 12 [m_0, m_1, m_2, m_3, m_4, m_5, m_6, m_7, m_8, m_9, m_10, m_11, .ref t0, .int ta, .int fr, .int to, .int so, .long wo, m_18, m_19, m_20, m_21, m_22, m_23, m_24, m_25, m_26, m_27, m_28, m_29, m_30, m_31, m_32, m_33, m_34, m_35, m_36, m_37, m_38, m_39, m_40, m_41, m_42, m_43, m_44, m_45, m_46, m_47, m_48, m_49, m_50, m_51, m_52, m_53, m_54, m_55, m_56, m_57, m_58, m_59]), (cc_l t0 (K 0) 400 ft)] s.heap.size = A at hD ⊢
  have hA : ∀ q : Nat, s.heap.size ≤ q → A q := fun q h => by rw [← hAe]; exact Or.inr h
  clear hAe
  have hS : va_S A s.heap s.heap [] := va_S.rf
  replace hP : va_P D vwCl [(cc_O m0 12 [m_0, m_1, m_2, m_3, m_4, m_5, m_6, m_7, m_8, m_9, m_10, m_11, .ref t0, .int ta, .int fr, .int to, .int so, .long wo, m_18, m_19, m_20, m_21, m_22, m_23, m_24, m_25, m_26, m_27, m_28, m_29, m_30, m_31, m_32, m_33, m_34, m_35, m_36, m_37, m_38, m_39, m_40, m_41, m_42, m_43, m_44, m_45, m_46, m_47, m_48, m_49, m_50, m_51, m_52, m_53, m_54, m_55, m_56, m_57, m_58, m_59]), (cc_l t0 (K 0) 400 ft)] s.heap := hP
  have hl := lv_entry [.ref m0] (n := 1) (Nat.le_of_ble_eq_true rfl)
  rw [lg_entry_eq]
  generalize (lg_sl [.ref m0] ++ List.replicate (1 - (lg_sl [.ref m0]).length) Slot.unset).toArray = ls at hl ⊢
  have hl : lv_has ls 1 [(0, .ref m0)] := hl
  have hw12 : ∀ w ∈ wsX120, w ∈ wsX12_next := fun w h => (List.mem_cons_of_mem _ (List.mem_append_right _ h))
  generalize hQ : MQ below _ _ s _ _ _ = Q
  have hE := E_v_next.eq_def ta fr to so wo ft
  refine lv_aload_n hx hb dX12_next_0 rfl (lv_at hl 0 rfl) (lv_aload_n hx hb dX12_next_1 rfl (lv_at hl 0 rfl) (va_get (ci := 12) (v := .int to) (C := RX12) (T := TX12) (N := 60) hx hb hts hw12 hown hK hP 0 rfl rfl 15 (by decide +kernel) (hts _ mm_X12_next_845) (fun _ h9 => h9) rfl dX12_next_2 (va_put (ci := 12) (v := .int to) (ty := .int) (C := RX12) (T := TX12) (N := 60) hx hb hts hw12 tyX12 tyX12_ok nmX12 hown hK hP hD hS 0 rfl rfl 14 (by decide +kernel) (hts _ mm_X12_next_844) (fun _ h9 => h9) rfl (by decide +kernel) (by first | rfl | decide) (by first | rfl | decide) (Nat.le_of_ble_eq_true rfl) dX12_next_5 (fun H locs hP0 hD0 hS0 => ?_))))
  replace hP : va_P D vwCl [(cc_O m0 12 [m_0, m_1, m_2, m_3, m_4, m_5, m_6, m_7, m_8, m_9, m_10, m_11, .ref t0, .int ta, .int to, .int to, .int so, .long wo, m_18, m_19, m_20, m_21, m_22, m_23, m_24, m_25, m_26, m_27, m_28, m_29, m_30, m_31, m_32, m_33, m_34, m_35, m_36, m_37, m_38, m_39, m_40, m_41, m_42, m_43, m_44, m_45, m_46, m_47, m_48, m_49, m_50, m_51, m_52, m_53, m_54, m_55, m_56, m_57, m_58, m_59]), (cc_l t0 (K 0) 400 ft)] H := hP0
  replace hD := as_D hP hD0 rfl
  replace hS := hS0
  clear hP0 hD0 hS0
  have lp_1954 : ∀ (nn_ : Nat) (v_1944 : Int32) (hv_1944 : 0 ≤ v_1944.toInt ∧ v_1944.toInt ≤ 400) (hr0_lp_1954 : to.toInt ≤ v_1944.toInt ∧ v_1944.toInt ≤ ta.toInt) (hn : (ta.toInt - v_1944.toInt : Int).toNat < nn_) (hE : E_v_next ta fr to so wo ft = Lp (α := Int32 → (Int32 × Int32 × Int32 × Int64)) (E_v_next_l8 ta ft) (fun _ => ((0, 0, 0, 0) : Int32 × Int32 × Int32 × Int64)) nn_ v_1944) (H : Heap) (locs : List Loc) (hP : va_P D vwCl [(cc_O m0 12 [m_0, m_1, m_2, m_3, m_4, m_5, m_6, m_7, m_8, m_9, m_10, m_11, .ref t0, .int ta, .int v_1944, .int to, .int so, .long wo, m_18, m_19, m_20, m_21, m_22, m_23, m_24, m_25, m_26, m_27, m_28, m_29, m_30, m_31, m_32, m_33, m_34, m_35, m_36, m_37, m_38, m_39, m_40, m_41, m_42, m_43, m_44, m_45, m_46, m_47, m_48, m_49, m_50, m_51, m_52, m_53, m_54, m_55, m_56, m_57, m_58, m_59]), (cc_l t0 (K 0) 400 ft)] H) (hD : va_D A [(cc_O m0 12 [m_0, m_1, m_2, m_3, m_4, m_5, m_6, m_7, m_8, m_9, m_10, m_11, .ref t0, .int ta, .int v_1944, .int to, .int so, .long wo, m_18, m_19, m_20, m_21, m_22, m_23, m_24, m_25, m_26, m_27, m_28, m_29, m_30, m_31, m_32, m_33, m_34, m_35, m_36, m_37, m_38, m_39, m_40, m_41, m_42, m_43, m_44, m_45, m_46, m_47, m_48, m_49, m_50, m_51, m_52, m_53, m_54, m_55, m_56, m_57, m_58, m_59]), (cc_l t0 (K 0) 400 ft)]) (hS : va_S A s.heap H locs) (ls : Array Slot) (hl : lv_has ls 1 [(0, .ref m0)]), W p l e ({ frames := 1, cells := 0, slots := 0, locals := 20 }) s m (([.ref m0] : List Value).toArray) below meth c H locs 0 0 Q (F0 m 8 ls []) := by
    clear hE hP hD hS hl
    intro nn_
    induction nn_ with
    | zero =>
      intro v_1944 hv_1944 hr0_lp_1954 hn hE H locs hP hD hS ls hl
      exact absurd hn (Nat.not_lt_zero _)
    | succ nn_ ih_1955 =>
      intro v_1944 hv_1944 hr0_lp_1954 hn hE H locs hP hD hS ls hl
      replace hE : E_v_next ta fr to so wo ft = E_v_next_l8 ta ft (Lp (α := Int32 → (Int32 × Int32 × Int32 × Int64)) (E_v_next_l8 ta ft) (fun _ => ((0, 0, 0, 0) : Int32 × Int32 × Int32 × Int64)) nn_) v_1944 := hE
      obtain ⟨rec_1954, hrec_1954⟩ : ∃ z9, z9 = Lp (α := Int32 → (Int32 × Int32 × Int32 × Int64)) (E_v_next_l8 ta ft) (fun _ => ((0, 0, 0, 0) : Int32 × Int32 × Int32 × Int64)) nn_ := ⟨_, rfl⟩
      rw [← hrec_1954] at hE
      replace hE := hE.trans (E_v_next_l8.eq_def _ _ _ _)
      refine lv_aload_n hx hb dX12_next_8 rfl (lv_at hl 0 rfl) (va_get (ci := 12) (v := .int v_1944) (C := RX12) (T := TX12) (N := 60) hx hb hts hw12 hown hK hP 0 rfl rfl 14 (by decide +kernel) (hts _ mm_X12_next_844) (fun _ h9 => h9) rfl dX12_next_9 (lv_aload_n hx hb dX12_next_12 rfl (lv_at hl 0 rfl) (va_get (ci := 12) (v := .int ta) (C := RX12) (T := TX12) (N := 60) hx hb hts hw12 hown hK hP 0 rfl rfl 13 (by decide +kernel) (hts _ mm_X12_next_843) (fun _ h9 => h9) rfl dX12_next_13 (lv_icmp_ge (tgt := 46) hx hb dX12_next_16 (by decide +kernel) (fun c_1956 => ?_) (fun c_1956 => ?_)))))
      · have c_1956i := i_le (x := ta.toInt) (y := v_1944.toInt) rfl rfl c_1956
        replace hE := hE.trans (if_pos c_1956)
        refine lv_aload_n hx hb dX12_next_46 rfl (lv_at hl 0 rfl) (lv_aload_n hx hb dX12_next_47 rfl (lv_at hl 0 rfl) (va_get (ci := 12) (v := .int v_1944) (C := RX12) (T := TX12) (N := 60) hx hb hts hw12 hown hK hP 0 rfl rfl 14 (by decide +kernel) (hts _ mm_X12_next_844) (fun _ h9 => h9) rfl dX12_next_48 (va_put (ci := 12) (v := .int v_1944) (ty := .int) (C := RX12) (T := TX12) (N := 60) hx hb hts hw12 tyX12 tyX12_ok nmX12 hown hK hP hD hS 0 rfl rfl 15 (by decide +kernel) (hts _ mm_X12_next_845) (fun _ h9 => h9) rfl (by decide +kernel) (by first | rfl | decide) (by first | rfl | decide) (Nat.le_of_ble_eq_true rfl) dX12_next_51 (fun H locs hP0 hD0 hS0 => ?_))))
        replace hP : va_P D vwCl [(cc_O m0 12 [m_0, m_1, m_2, m_3, m_4, m_5, m_6, m_7, m_8, m_9, m_10, m_11, .ref t0, .int ta, .int v_1944, .int v_1944, .int so, .long wo, m_18, m_19, m_20, m_21, m_22, m_23, m_24, m_25, m_26, m_27, m_28, m_29, m_30, m_31, m_32, m_33, m_34, m_35, m_36, m_37, m_38, m_39, m_40, m_41, m_42, m_43, m_44, m_45, m_46, m_47, m_48, m_49, m_50, m_51, m_52, m_53, m_54, m_55, m_56, m_57, m_58, m_59]), (cc_l t0 (K 0) 400 ft)] H := hP0
        replace hD := as_D hP hD0 rfl
        replace hS := hS0
        clear hP0 hD0 hS0
        refine lv_aload_n hx hb dX12_next_54 rfl (lv_at hl 0 rfl) (lv_lconst (v := 0) hx hb dX12_next_55 (by decide +kernel) (va_put (ci := 12) (v := .long 0) (ty := .long) (C := RX12) (T := TX12) (N := 60) hx hb hts hw12 tyX12 tyX12_ok nmX12 hown hK hP hD hS 0 rfl rfl 17 (by decide +kernel) (hts _ mm_X12_next_847) (fun _ h9 => h9) rfl (by decide +kernel) (by first | rfl | decide) (by first | rfl | decide) (Nat.le_of_ble_eq_true rfl) dX12_next_56 (fun H locs hP0 hD0 hS0 => ?_)))
        replace hP : va_P D vwCl [(cc_O m0 12 [m_0, m_1, m_2, m_3, m_4, m_5, m_6, m_7, m_8, m_9, m_10, m_11, .ref t0, .int ta, .int v_1944, .int v_1944, .int so, .long 0, m_18, m_19, m_20, m_21, m_22, m_23, m_24, m_25, m_26, m_27, m_28, m_29, m_30, m_31, m_32, m_33, m_34, m_35, m_36, m_37, m_38, m_39, m_40, m_41, m_42, m_43, m_44, m_45, m_46, m_47, m_48, m_49, m_50, m_51, m_52, m_53, m_54, m_55, m_56, m_57, m_58, m_59]), (cc_l t0 (K 0) 400 ft)] H := hP0
        replace hD := as_D hP hD0 rfl
        replace hS := hS0
        clear hP0 hD0 hS0
        refine lv_aload_n hx hb dX12_next_59 rfl (lv_at hl 0 rfl) (lv_aload_n hx hb dX12_next_60 rfl (lv_at hl 0 rfl) (va_get (ci := 12) (v := .int v_1944) (C := RX12) (T := TX12) (N := 60) hx hb hts hw12 hown hK hP 0 rfl rfl 14 (by decide +kernel) (hts _ mm_X12_next_844) (fun _ h9 => h9) rfl dX12_next_61 (lv_aload_n hx hb dX12_next_64 rfl (lv_at hl 0 rfl) (va_get (ci := 12) (v := .int ta) (C := RX12) (T := TX12) (N := 60) hx hb hts hw12 hown hK hP 0 rfl rfl 13 (by decide +kernel) (hts _ mm_X12_next_843) (fun _ h9 => h9) rfl dX12_next_65 (lv_icmp_ne (tgt := 75) hx hb dX12_next_68 (by decide +kernel) (fun c_1957 => ?_) (fun c_1957 => ?_))))))
        · have c_1957i := i_ne (x := v_1944.toInt) (y := ta.toInt) rfl rfl c_1957
          replace hE := hE.trans (if_neg c_1957)
          refine lv_aload_n hx hb dX12_next_75 rfl (lv_at hl 0 rfl) (va_get (ci := 12) (v := .ref t0) (C := RX12) (T := TX12) (N := 60) hx hb hts hw12 hown hK hP 0 rfl rfl 12 (by decide +kernel) (hts _ mm_X12_next_842) (fun _ h9 => h9) rfl dX12_next_76 (lv_aload_n hx hb dX12_next_79 rfl (lv_at hl 0 rfl) (va_get (ci := 12) (v := .int v_1944) (C := RX12) (T := TX12) (N := 60) hx hb hts hw12 hown hK hP 0 rfl rfl 14 (by decide +kernel) (hts _ mm_X12_next_844) (fun _ h9 => h9) rfl dX12_next_80 (va_iald hx hb hK hP 1 0 rfl rfl (i_in rfl (by omega)) dX12_next_83 (lv_topi (fun x_1958 ex_1958 => ?_))))))
          replace hE := hE.trans (Lt_in ex_1958)
          have kx_1958 : ft (v_1944.toInt).toNat = x_1958 := by rw [ex_1958, i_clamp rfl]
          refine pci (va_runS (As := [.int x_1958]) (rest := [.ref m0]) ⟨hx, hb, hml, hown, hts⟩ (v_isSmall l D K x_1958.toInt x_1958 H.size rfl) (va_cwS 1 hts gX12_next_X12_isSmall rfl rfl rfl (by decide +kernel) ⟨Nat.le_of_ble_eq_true rfl, Nat.le_of_ble_eq_true rfl⟩) (mkS hK hN (va_P.nil) (va_D.nil (A := fun _ => True))) rfl rfl hl.1 rfl (lv_room (Nat.le_of_ble_eq_true rfl)) dX12_next_84 ⟨Nat.le_of_ble_eq_true rfl, Nat.le_of_ble_eq_true rfl⟩) (fun r_1959 hw => ?_)
          obtain ⟨hw, k_1960, -⟩ := hw
          replace hE := hE.trans (Lt_in k_1960)
          rcases hw with ⟨rfl, h_1961, h_1962⟩ | ⟨rfl, h_1963⟩
          · replace hE := (hE).trans (if_pos rfl)
            refine lv_if_eq (tgt := 94) hx hb dX12_next_87 (by decide +kernel) (fun c_1964 => absurd c_1964 (by decide +kernel)) (fun c_1964 => ?_)
            refine lv_iconst (v := 1) hx hb dX12_next_90 (by decide +kernel) (lv_goto (tgt := 114) hx hb dX12_next_91 (by decide +kernel) (va_put (ci := 12) (v := .int 1) (ty := .int) (C := RX12) (T := TX12) (N := 60) hx hb hts hw12 tyX12 tyX12_ok nmX12 hown hK hP hD hS 0 rfl rfl 16 (by decide +kernel) (hts _ mm_X12_next_846) (fun _ h9 => h9) rfl (by decide +kernel) (by first | rfl | decide) (by first | rfl | decide) (Nat.le_of_ble_eq_true rfl) dX12_next_114 (fun H locs hP0 hD0 hS0 => ?_)))
            replace hP : va_P D vwCl [(cc_O m0 12 [m_0, m_1, m_2, m_3, m_4, m_5, m_6, m_7, m_8, m_9, m_10, m_11, .ref t0, .int ta, .int v_1944, .int v_1944, .int 1, .long 0, m_18, m_19, m_20, m_21, m_22, m_23, m_24, m_25, m_26, m_27, m_28, m_29, m_30, m_31, m_32, m_33, m_34, m_35, m_36, m_37, m_38, m_39, m_40, m_41, m_42, m_43, m_44, m_45, m_46, m_47, m_48, m_49, m_50, m_51, m_52, m_53, m_54, m_55, m_56, m_57, m_58, m_59]), (cc_l t0 (K 0) 400 ft)] H := hP0
            replace hD := as_D hP hD0 rfl
            replace hS := hS0
            clear hP0 hD0 hS0
            refine lv_aload_n hx hb dX12_next_117 rfl (lv_at hl 0 rfl) (va_get (ci := 12) (v := .int 1) (C := RX12) (T := TX12) (N := 60) hx hb hts hw12 hown hK hP 0 rfl rfl 16 (by decide +kernel) (hts _ mm_X12_next_846) (fun _ h9 => h9) rfl dX12_next_118 (lv_iconst (v := 3) hx hb dX12_next_121 (by decide +kernel) (lv_icmp_ne (tgt := 149) hx hb dX12_next_122 (by decide +kernel) (fun c_1965 => ?_) (fun c_1965 => absurd c_1965 (by decide +kernel)))))
            refine lv_aload_n hx hb dX12_next_149 rfl (lv_at hl 0 rfl) (va_get (ci := 12) (v := .int 1) (C := RX12) (T := TX12) (N := 60) hx hb hts hw12 hown hK hP 0 rfl rfl 16 (by decide +kernel) (hts _ mm_X12_next_846) (fun _ h9 => h9) rfl dX12_next_150 (lv_iconst (v := 1) hx hb dX12_next_153 (by decide +kernel) (lv_icmp_ne (tgt := 243) hx hb dX12_next_154 (by decide +kernel) (fun c_1966 => absurd (by decide +kernel) c_1966) (fun c_1966 => ?_))))
            refine lv_aload_n hx hb dX12_next_157 rfl (lv_at hl 0 rfl) (va_get (ci := 12) (v := .int v_1944) (C := RX12) (T := TX12) (N := 60) hx hb hts hw12 hown hK hP 0 rfl rfl 15 (by decide +kernel) (hts _ mm_X12_next_845) (fun _ h9 => h9) rfl dX12_next_158 (lv_aload_n hx hb dX12_next_161 rfl (lv_at hl 0 rfl) (va_get (ci := 12) (v := .int ta) (C := RX12) (T := TX12) (N := 60) hx hb hts hw12 hown hK hP 0 rfl rfl 13 (by decide +kernel) (hts _ mm_X12_next_843) (fun _ h9 => h9) rfl dX12_next_162 (lv_icmp_ge (tgt := 243) hx hb dX12_next_165 (by decide +kernel) (fun c_1967 => ?_) (fun c_1967 => ?_)))))
            · have c_1967i := i_le (x := ta.toInt) (y := v_1944.toInt) rfl rfl c_1967
              replace hE := hE.trans (if_pos c_1967)
              refine lv_aload_n hx hb dX12_next_243 rfl (lv_at hl 0 rfl) (va_get (ci := 12) (v := .int 1) (C := RX12) (T := TX12) (N := 60) hx hb hts hw12 hown hK hP 0 rfl rfl 16 (by decide +kernel) (hts _ mm_X12_next_846) (fun _ h9 => h9) rfl dX12_next_244 (lv_iconst (v := 2) hx hb dX12_next_247 (by decide +kernel) (lv_icmp_ne (tgt := 335) hx hb dX12_next_248 (by decide +kernel) (fun c_1968 => ?_) (fun c_1968 => absurd c_1968 (by decide +kernel)))))
              rw [← hQ]
              have hP9 := hP.sub (ws' := [(cc_O m0 12 [m_0, m_1, m_2, m_3, m_4, m_5, m_6, m_7, m_8, m_9, m_10, m_11, .ref t0, .int ta, .int v_1944, .int v_1944, .int 1, .long 0, m_18, m_19, m_20, m_21, m_22, m_23, m_24, m_25, m_26, m_27, m_28, m_29, m_30, m_31, m_32, m_33, m_34, m_35, m_36, m_37, m_38, m_39, m_40, m_41, m_42, m_43, m_44, m_45, m_46, m_47, m_48, m_49, m_50, m_51, m_52, m_53, m_54, m_55, m_56, m_57, m_58, m_59]), (cc_l t0 (K 0) 400 ft)]) [0, 1] rfl
              have hD9 := sub_D hP9 hD [0, 1] (by decide +kernel) rfl
              exact W.vret hx hb hr (fun t ht hW => ⟨⟨((fun _ => 0, fun _ => fun _ => 0, fun _ => fun _ => 0, fun i => match i with | 0 => v_1944 | 1 => v_1944 | _ => 1, fun i => match i with | _ => 0, fun _ => fun _ => none) : Su), rfl, ⟨(show 0 ≤ (v_1944 : Int32).toInt ∧ (v_1944 : Int32).toInt ≤ 400 by omega), (show 0 ≤ (v_1944 : Int32).toInt ∧ (v_1944 : Int32).toInt ≤ 401 by omega), (show 0 ≤ (1 : Int32).toInt ∧ (1 : Int32).toInt ≤ 3 by decide), hE.symm, (show ((0 ≤ (v_1944 : Int32).toInt ∧ (v_1944 : Int32).toInt ≤ (v_1944 : Int32).toInt ∧ (v_1944 : Int32).toInt ≤ ta.toInt) ∧ (1 = 0 ∨ (v_1944 : Int32).toInt < (v_1944 : Int32).toInt) ∧ (1 ≠ 1 ∨ (v_1944 : Int32).toInt + 1 < (v_1944 : Int32).toInt ∨ 0 ≤ 26)) by omega), (show to.toInt ≤ (v_1944 : Int32).toInt by omega), trivial⟩, (⟨by rw [ht]; exact hP9, hD9⟩ : Wd D A _ t)⟩, hS.F ht⟩) hS.2.2 dX12_next_335
            · have c_1967i := i_nle (x := ta.toInt) (y := v_1944.toInt) rfl rfl c_1967
              replace hE := hE.trans (if_neg c_1967)
              refine lv_aload_n hx hb dX12_next_168 rfl (lv_at hl 0 rfl) (va_get (ci := 12) (v := .ref t0) (C := RX12) (T := TX12) (N := 60) hx hb hts hw12 hown hK hP 0 rfl rfl 12 (by decide +kernel) (hts _ mm_X12_next_842) (fun _ h9 => h9) rfl dX12_next_169 (lv_aload_n hx hb dX12_next_172 rfl (lv_at hl 0 rfl) (va_get (ci := 12) (v := .int v_1944) (C := RX12) (T := TX12) (N := 60) hx hb hts hw12 hown hK hP 0 rfl rfl 15 (by decide +kernel) (hts _ mm_X12_next_845) (fun _ h9 => h9) rfl dX12_next_173 (va_iald hx hb hK hP 1 0 rfl rfl (i_in rfl (by omega)) dX12_next_176 (lv_topi (fun x_1969 ex_1969 => ?_))))))
              replace hE := hE.trans (Lt_in ex_1969)
              have erx_1969 : x_1969 = x_1958 := ex_1969.trans (by rw [i_clamp rfl]; exact kx_1958)
              have hrx_1969 : x_1969.toInt = x_1958.toInt := (congrArg Int32.toInt erx_1969).trans rfl
              refine pci (va_runS (As := [.int x_1969]) (rest := []) ⟨hx, hb, hml, hown, hts⟩ (v_isSmall l D K x_1958.toInt x_1969 H.size hrx_1969) (va_cwS 1 hts gX12_next_X12_isSmall rfl rfl rfl (by decide +kernel) ⟨Nat.le_of_ble_eq_true rfl, Nat.le_of_ble_eq_true rfl⟩) (mkS hK hN (va_P.nil) (va_D.nil (A := fun _ => True))) rfl rfl hl.1 rfl (lv_room (Nat.le_of_ble_eq_true rfl)) dX12_next_177 ⟨Nat.le_of_ble_eq_true rfl, Nat.le_of_ble_eq_true rfl⟩) (fun r_1970 hw => ?_)
              obtain ⟨hw, k_1971, -⟩ := hw
              replace hE := hE.trans (Lt_in k_1971)
              rcases hw with ⟨rfl, h_1972, h_1973⟩ | ⟨rfl, h_1974⟩
              · replace hE := (hE).trans (if_pos rfl)
                refine lv_if_eq (tgt := 243) hx hb dX12_next_180 (by decide +kernel) (fun c_1975 => absurd c_1975 (by decide +kernel)) (fun c_1975 => ?_)
                refine lv_aload_n hx hb dX12_next_183 rfl (lv_at hl 0 rfl) (lv_aload_n hx hb dX12_next_184 rfl (lv_at hl 0 rfl) (va_get (ci := 12) (v := .int v_1944) (C := RX12) (T := TX12) (N := 60) hx hb hts hw12 hown hK hP 0 rfl rfl 15 (by decide +kernel) (hts _ mm_X12_next_845) (fun _ h9 => h9) rfl dX12_next_185 (lv_aload_n hx hb dX12_next_188 rfl (lv_at hl 0 rfl) (va_get (ci := 12) (v := .int v_1944) (C := RX12) (T := TX12) (N := 60) hx hb hts hw12 hown hK hP 0 rfl rfl 14 (by decide +kernel) (hts _ mm_X12_next_844) (fun _ h9 => h9) rfl dX12_next_189 (lv_isub hx hb dX12_next_192 (lv_topi (fun x_1976 ex_1976 => ?_)))))))
                replace hE := hE.trans (Lt_in ex_1976)
                have hx_1976 : x_1976.toInt = (v_1944.toInt - v_1944.toInt) := by rw [ex_1976]; exact i_sub rfl rfl (by omega)
                refine lv_bipush (v := 10) hx hb dX12_next_193 (by decide +kernel) (lv_icmp_ge (tgt := 224) hx hb dX12_next_195 (by decide +kernel) (fun c_1977 => ?_) (fun c_1977 => ?_))
                · have c_1977i := i_le (x := 10) (y := (v_1944.toInt - v_1944.toInt)) rfl hx_1976 c_1977
                  replace hE := hE.trans (if_pos c_1977)
                  refine lv_ldc2 (v := (-1)) hx hb hown (hts _ mm_X12_next_1008) dX12_next_224 (va_put (ci := 12) (v := .long (-1)) (ty := .long) (C := RX12) (T := TX12) (N := 60) hx hb hts hw12 tyX12 tyX12_ok nmX12 hown hK hP hD hS 0 rfl rfl 17 (by decide +kernel) (hts _ mm_X12_next_847) (fun _ h9 => h9) rfl (by decide +kernel) (by first | rfl | decide) (by first | rfl | decide) (Nat.le_of_ble_eq_true rfl) dX12_next_227 (fun H locs hP0 hD0 hS0 => ?_))
                  replace hP : va_P D vwCl [(cc_O m0 12 [m_0, m_1, m_2, m_3, m_4, m_5, m_6, m_7, m_8, m_9, m_10, m_11, .ref t0, .int ta, .int v_1944, .int v_1944, .int 1, .long (-1), m_18, m_19, m_20, m_21, m_22, m_23, m_24, m_25, m_26, m_27, m_28, m_29, m_30, m_31, m_32, m_33, m_34, m_35, m_36, m_37, m_38, m_39, m_40, m_41, m_42, m_43, m_44, m_45, m_46, m_47, m_48, m_49, m_50, m_51, m_52, m_53, m_54, m_55, m_56, m_57, m_58, m_59]), (cc_l t0 (K 0) 400 ft)] H := hP0
                  replace hD := as_D hP hD0 rfl
                  replace hS := hS0
                  clear hP0 hD0 hS0
                  refine lv_aload_n hx hb dX12_next_230 rfl (lv_at hl 0 rfl) (lv_dup hx hb dX12_next_231 rfl (va_get (ci := 12) (v := .int v_1944) (C := RX12) (T := TX12) (N := 60) hx hb hts hw12 hown hK hP 0 rfl rfl 15 (by decide +kernel) (hts _ mm_X12_next_845) (fun _ h9 => h9) rfl dX12_next_232 (lv_iconst (v := 1) hx hb dX12_next_235 (by decide +kernel) (lv_iadd hx hb dX12_next_236 (lv_topi (fun x_1978 ex_1978 => ?_))))))
                  replace hE := hE.trans (Lt_in ex_1978)
                  have hx_1978 : x_1978.toInt = (v_1944.toInt + 1) := by rw [ex_1978]; exact i_add rfl (show (1 : Int32).toInt = 1 from rfl) (by omega)
                  refine va_put (ci := 12) (v := .int x_1978) (ty := .int) (C := RX12) (T := TX12) (N := 60) hx hb hts hw12 tyX12 tyX12_ok nmX12 hown hK hP hD hS 0 rfl rfl 15 (by decide +kernel) (hts _ mm_X12_next_845) (fun _ h9 => h9) rfl (by decide +kernel) (by first | rfl | decide) (by first | rfl | decide) (Nat.le_of_ble_eq_true rfl) dX12_next_237 (fun H locs hP0 hD0 hS0 => ?_)
                  replace hP : va_P D vwCl [(cc_O m0 12 [m_0, m_1, m_2, m_3, m_4, m_5, m_6, m_7, m_8, m_9, m_10, m_11, .ref t0, .int ta, .int v_1944, .int x_1978, .int 1, .long (-1), m_18, m_19, m_20, m_21, m_22, m_23, m_24, m_25, m_26, m_27, m_28, m_29, m_30, m_31, m_32, m_33, m_34, m_35, m_36, m_37, m_38, m_39, m_40, m_41, m_42, m_43, m_44, m_45, m_46, m_47, m_48, m_49, m_50, m_51, m_52, m_53, m_54, m_55, m_56, m_57, m_58, m_59]), (cc_l t0 (K 0) 400 ft)] H := hP0
                  replace hD := as_D hP hD0 rfl
                  replace hS := hS0
                  clear hP0 hD0 hS0
                  refine lv_goto (tgt := 149) hx hb dX12_next_240 (by decide +kernel) ?_
                  have lp_2103 : ∀ (nn_ : Nat) (v_2061 : Int32) (v_2062 : Int64) (hv_2061 : 1 ≤ v_2061.toInt ∧ v_2061.toInt ≤ 400) (hr0_lp_2103 : v_1944.toInt < v_2061.toInt ∧ v_2061.toInt ≤ ta.toInt ∧ (v_1944.toInt + 1 < v_2061.toInt ∨ v_2062.toInt ≤ 26)) (hn : (ta.toInt - v_2061.toInt : Int).toNat < nn_) (hE : E_v_next ta fr to so wo ft = Lp (α := Int32 → Int64 → (Int32 × Int32 × Int32 × Int64)) (E_v_next_l149 ta ft v_1944) (fun _ _ => ((0, 0, 0, 0) : Int32 × Int32 × Int32 × Int64)) nn_ v_2061 v_2062) (H : Heap) (locs : List Loc) (hP : va_P D vwCl [(cc_O m0 12 [m_0, m_1, m_2, m_3, m_4, m_5, m_6, m_7, m_8, m_9, m_10, m_11, .ref t0, .int ta, .int v_1944, .int v_2061, .int 1, .long v_2062, m_18, m_19, m_20, m_21, m_22, m_23, m_24, m_25, m_26, m_27, m_28, m_29, m_30, m_31, m_32, m_33, m_34, m_35, m_36, m_37, m_38, m_39, m_40, m_41, m_42, m_43, m_44, m_45, m_46, m_47, m_48, m_49, m_50, m_51, m_52, m_53, m_54, m_55, m_56, m_57, m_58, m_59]), (cc_l t0 (K 0) 400 ft)] H) (hD : va_D A [(cc_O m0 12 [m_0, m_1, m_2, m_3, m_4, m_5, m_6, m_7, m_8, m_9, m_10, m_11, .ref t0, .int ta, .int v_1944, .int v_2061, .int 1, .long v_2062, m_18, m_19, m_20, m_21, m_22, m_23, m_24, m_25, m_26, m_27, m_28, m_29, m_30, m_31, m_32, m_33, m_34, m_35, m_36, m_37, m_38, m_39, m_40, m_41, m_42, m_43, m_44, m_45, m_46, m_47, m_48, m_49, m_50, m_51, m_52, m_53, m_54, m_55, m_56, m_57, m_58, m_59]), (cc_l t0 (K 0) 400 ft)]) (hS : va_S A s.heap H locs) (ls : Array Slot) (hl : lv_has ls 1 [(0, .ref m0)]), W p l e ({ frames := 1, cells := 0, slots := 0, locals := 20 }) s m (([.ref m0] : List Value).toArray) below meth c H locs 0 0 Q (F0 m 149 ls []) := by
                    clear hE hP hD hS hl
                    intro nn_
                    induction nn_ with
                    | zero =>
                      intro v_2061 v_2062 hv_2061 hr0_lp_2103 hn hE H locs hP hD hS ls hl
                      exact absurd hn (Nat.not_lt_zero _)
                    | succ nn_ ih_2104 =>
                      intro v_2061 v_2062 hv_2061 hr0_lp_2103 hn hE H locs hP hD hS ls hl
                      replace hE : E_v_next ta fr to so wo ft = E_v_next_l149 ta ft v_1944 (Lp (α := Int32 → Int64 → (Int32 × Int32 × Int32 × Int64)) (E_v_next_l149 ta ft v_1944) (fun _ _ => ((0, 0, 0, 0) : Int32 × Int32 × Int32 × Int64)) nn_) v_2061 v_2062 := hE
                      obtain ⟨rec_2103, hrec_2103⟩ : ∃ z9, z9 = Lp (α := Int32 → Int64 → (Int32 × Int32 × Int32 × Int64)) (E_v_next_l149 ta ft v_1944) (fun _ _ => ((0, 0, 0, 0) : Int32 × Int32 × Int32 × Int64)) nn_ := ⟨_, rfl⟩
                      rw [← hrec_2103] at hE
                      replace hE := hE.trans (E_v_next_l149.eq_def _ _ _ _ _ _)
                      refine lv_aload_n hx hb dX12_next_149 rfl (lv_at hl 0 rfl) (va_get (ci := 12) (v := .int 1) (C := RX12) (T := TX12) (N := 60) hx hb hts hw12 hown hK hP 0 rfl rfl 16 (by decide +kernel) (hts _ mm_X12_next_846) (fun _ h9 => h9) rfl dX12_next_150 (lv_iconst (v := 1) hx hb dX12_next_153 (by decide +kernel) (lv_icmp_ne (tgt := 243) hx hb dX12_next_154 (by decide +kernel) (fun c_2105 => absurd (by decide +kernel) c_2105) (fun c_2105 => ?_))))
                      refine lv_aload_n hx hb dX12_next_157 rfl (lv_at hl 0 rfl) (va_get (ci := 12) (v := .int v_2061) (C := RX12) (T := TX12) (N := 60) hx hb hts hw12 hown hK hP 0 rfl rfl 15 (by decide +kernel) (hts _ mm_X12_next_845) (fun _ h9 => h9) rfl dX12_next_158 (lv_aload_n hx hb dX12_next_161 rfl (lv_at hl 0 rfl) (va_get (ci := 12) (v := .int ta) (C := RX12) (T := TX12) (N := 60) hx hb hts hw12 hown hK hP 0 rfl rfl 13 (by decide +kernel) (hts _ mm_X12_next_843) (fun _ h9 => h9) rfl dX12_next_162 (lv_icmp_ge (tgt := 243) hx hb dX12_next_165 (by decide +kernel) (fun c_2106 => ?_) (fun c_2106 => ?_)))))
                      · have c_2106i := i_le (x := ta.toInt) (y := v_2061.toInt) rfl rfl c_2106
                        replace hE := hE.trans (if_pos c_2106)
                        refine lv_aload_n hx hb dX12_next_243 rfl (lv_at hl 0 rfl) (va_get (ci := 12) (v := .int 1) (C := RX12) (T := TX12) (N := 60) hx hb hts hw12 hown hK hP 0 rfl rfl 16 (by decide +kernel) (hts _ mm_X12_next_846) (fun _ h9 => h9) rfl dX12_next_244 (lv_iconst (v := 2) hx hb dX12_next_247 (by decide +kernel) (lv_icmp_ne (tgt := 335) hx hb dX12_next_248 (by decide +kernel) (fun c_2107 => ?_) (fun c_2107 => absurd c_2107 (by decide +kernel)))))
                        rw [← hQ]
                        have hP9 := hP.sub (ws' := [(cc_O m0 12 [m_0, m_1, m_2, m_3, m_4, m_5, m_6, m_7, m_8, m_9, m_10, m_11, .ref t0, .int ta, .int v_1944, .int v_2061, .int 1, .long v_2062, m_18, m_19, m_20, m_21, m_22, m_23, m_24, m_25, m_26, m_27, m_28, m_29, m_30, m_31, m_32, m_33, m_34, m_35, m_36, m_37, m_38, m_39, m_40, m_41, m_42, m_43, m_44, m_45, m_46, m_47, m_48, m_49, m_50, m_51, m_52, m_53, m_54, m_55, m_56, m_57, m_58, m_59]), (cc_l t0 (K 0) 400 ft)]) [0, 1] rfl
                        have hD9 := sub_D hP9 hD [0, 1] (by decide +kernel) rfl
                        exact W.vret hx hb hr (fun t ht hW => ⟨⟨((fun _ => 0, fun _ => fun _ => 0, fun _ => fun _ => 0, fun i => match i with | 0 => v_1944 | 1 => v_2061 | _ => 1, fun i => match i with | _ => v_2062, fun _ => fun _ => none) : Su), rfl, ⟨(show 0 ≤ (v_1944 : Int32).toInt ∧ (v_1944 : Int32).toInt ≤ 400 by omega), (show 0 ≤ (v_2061 : Int32).toInt ∧ (v_2061 : Int32).toInt ≤ 401 by omega), (show 0 ≤ (1 : Int32).toInt ∧ (1 : Int32).toInt ≤ 3 by decide), hE.symm, (show ((0 ≤ (v_1944 : Int32).toInt ∧ (v_1944 : Int32).toInt ≤ (v_2061 : Int32).toInt ∧ (v_2061 : Int32).toInt ≤ ta.toInt) ∧ (1 = 0 ∨ (v_1944 : Int32).toInt < (v_2061 : Int32).toInt) ∧ (1 ≠ 1 ∨ (v_1944 : Int32).toInt + 1 < (v_2061 : Int32).toInt ∨ (v_2062 : Int64).toInt ≤ 26)) by omega), (show to.toInt ≤ (v_1944 : Int32).toInt by omega), trivial⟩, (⟨by rw [ht]; exact hP9, hD9⟩ : Wd D A _ t)⟩, hS.F ht⟩) hS.2.2 dX12_next_335
                      · have c_2106i := i_nle (x := ta.toInt) (y := v_2061.toInt) rfl rfl c_2106
                        replace hE := hE.trans (if_neg c_2106)
                        refine lv_aload_n hx hb dX12_next_168 rfl (lv_at hl 0 rfl) (va_get (ci := 12) (v := .ref t0) (C := RX12) (T := TX12) (N := 60) hx hb hts hw12 hown hK hP 0 rfl rfl 12 (by decide +kernel) (hts _ mm_X12_next_842) (fun _ h9 => h9) rfl dX12_next_169 (lv_aload_n hx hb dX12_next_172 rfl (lv_at hl 0 rfl) (va_get (ci := 12) (v := .int v_2061) (C := RX12) (T := TX12) (N := 60) hx hb hts hw12 hown hK hP 0 rfl rfl 15 (by decide +kernel) (hts _ mm_X12_next_845) (fun _ h9 => h9) rfl dX12_next_173 (va_iald hx hb hK hP 1 0 rfl rfl (i_in rfl (by omega)) dX12_next_176 (lv_topi (fun x_2108 ex_2108 => ?_))))))
                        replace hE := hE.trans (Lt_in ex_2108)
                        have kx_2108 : ft (v_2061.toInt).toNat = x_2108 := by rw [ex_2108, i_clamp rfl]
                        refine pci (va_runS (As := [.int x_2108]) (rest := []) ⟨hx, hb, hml, hown, hts⟩ (v_isSmall l D K x_2108.toInt x_2108 H.size rfl) (va_cwS 1 hts gX12_next_X12_isSmall rfl rfl rfl (by decide +kernel) ⟨Nat.le_of_ble_eq_true rfl, Nat.le_of_ble_eq_true rfl⟩) (mkS hK hN (va_P.nil) (va_D.nil (A := fun _ => True))) rfl rfl hl.1 rfl (lv_room (Nat.le_of_ble_eq_true rfl)) dX12_next_177 ⟨Nat.le_of_ble_eq_true rfl, Nat.le_of_ble_eq_true rfl⟩) (fun r_2109 hw => ?_)
                        obtain ⟨hw, k_2110, -⟩ := hw
                        replace hE := hE.trans (Lt_in k_2110)
                        rcases hw with ⟨rfl, h_2111, h_2112⟩ | ⟨rfl, h_2113⟩
                        · replace hE := (hE).trans (if_pos rfl)
                          refine lv_if_eq (tgt := 243) hx hb dX12_next_180 (by decide +kernel) (fun c_2114 => absurd c_2114 (by decide +kernel)) (fun c_2114 => ?_)
                          refine lv_aload_n hx hb dX12_next_183 rfl (lv_at hl 0 rfl) (lv_aload_n hx hb dX12_next_184 rfl (lv_at hl 0 rfl) (va_get (ci := 12) (v := .int v_2061) (C := RX12) (T := TX12) (N := 60) hx hb hts hw12 hown hK hP 0 rfl rfl 15 (by decide +kernel) (hts _ mm_X12_next_845) (fun _ h9 => h9) rfl dX12_next_185 (lv_aload_n hx hb dX12_next_188 rfl (lv_at hl 0 rfl) (va_get (ci := 12) (v := .int v_1944) (C := RX12) (T := TX12) (N := 60) hx hb hts hw12 hown hK hP 0 rfl rfl 14 (by decide +kernel) (hts _ mm_X12_next_844) (fun _ h9 => h9) rfl dX12_next_189 (lv_isub hx hb dX12_next_192 (lv_topi (fun x_2115 ex_2115 => ?_)))))))
                          replace hE := hE.trans (Lt_in ex_2115)
                          have hx_2115 : x_2115.toInt = (v_2061.toInt - v_1944.toInt) := by rw [ex_2115]; exact i_sub rfl rfl (by omega)
                          refine lv_bipush (v := 10) hx hb dX12_next_193 (by decide +kernel) (lv_icmp_ge (tgt := 224) hx hb dX12_next_195 (by decide +kernel) (fun c_2116 => ?_) (fun c_2116 => ?_))
                          · have c_2116i := i_le (x := 10) (y := (v_2061.toInt - v_1944.toInt)) rfl hx_2115 c_2116
                            replace hE := hE.trans (if_pos c_2116)
                            refine lv_ldc2 (v := (-1)) hx hb hown (hts _ mm_X12_next_1008) dX12_next_224 (va_put (ci := 12) (v := .long (-1)) (ty := .long) (C := RX12) (T := TX12) (N := 60) hx hb hts hw12 tyX12 tyX12_ok nmX12 hown hK hP hD hS 0 rfl rfl 17 (by decide +kernel) (hts _ mm_X12_next_847) (fun _ h9 => h9) rfl (by decide +kernel) (by first | rfl | decide) (by first | rfl | decide) (Nat.le_of_ble_eq_true rfl) dX12_next_227 (fun H locs hP0 hD0 hS0 => ?_))
                            replace hP : va_P D vwCl [(cc_O m0 12 [m_0, m_1, m_2, m_3, m_4, m_5, m_6, m_7, m_8, m_9, m_10, m_11, .ref t0, .int ta, .int v_1944, .int v_2061, .int 1, .long (-1), m_18, m_19, m_20, m_21, m_22, m_23, m_24, m_25, m_26, m_27, m_28, m_29, m_30, m_31, m_32, m_33, m_34, m_35, m_36, m_37, m_38, m_39, m_40, m_41, m_42, m_43, m_44, m_45, m_46, m_47, m_48, m_49, m_50, m_51, m_52, m_53, m_54, m_55, m_56, m_57, m_58, m_59]), (cc_l t0 (K 0) 400 ft)] H := hP0
                            replace hD := as_D hP hD0 rfl
                            replace hS := hS0
                            clear hP0 hD0 hS0
                            refine lv_aload_n hx hb dX12_next_230 rfl (lv_at hl 0 rfl) (lv_dup hx hb dX12_next_231 rfl (va_get (ci := 12) (v := .int v_2061) (C := RX12) (T := TX12) (N := 60) hx hb hts hw12 hown hK hP 0 rfl rfl 15 (by decide +kernel) (hts _ mm_X12_next_845) (fun _ h9 => h9) rfl dX12_next_232 (lv_iconst (v := 1) hx hb dX12_next_235 (by decide +kernel) (lv_iadd hx hb dX12_next_236 (lv_topi (fun x_2117 ex_2117 => ?_))))))
                            replace hE := hE.trans (Lt_in ex_2117)
                            have hx_2117 : x_2117.toInt = (v_2061.toInt + 1) := by rw [ex_2117]; exact i_add rfl (show (1 : Int32).toInt = 1 from rfl) (by omega)
                            refine va_put (ci := 12) (v := .int x_2117) (ty := .int) (C := RX12) (T := TX12) (N := 60) hx hb hts hw12 tyX12 tyX12_ok nmX12 hown hK hP hD hS 0 rfl rfl 15 (by decide +kernel) (hts _ mm_X12_next_845) (fun _ h9 => h9) rfl (by decide +kernel) (by first | rfl | decide) (by first | rfl | decide) (Nat.le_of_ble_eq_true rfl) dX12_next_237 (fun H locs hP0 hD0 hS0 => ?_)
                            replace hP : va_P D vwCl [(cc_O m0 12 [m_0, m_1, m_2, m_3, m_4, m_5, m_6, m_7, m_8, m_9, m_10, m_11, .ref t0, .int ta, .int v_1944, .int x_2117, .int 1, .long (-1), m_18, m_19, m_20, m_21, m_22, m_23, m_24, m_25, m_26, m_27, m_28, m_29, m_30, m_31, m_32, m_33, m_34, m_35, m_36, m_37, m_38, m_39, m_40, m_41, m_42, m_43, m_44, m_45, m_46, m_47, m_48, m_49, m_50, m_51, m_52, m_53, m_54, m_55, m_56, m_57, m_58, m_59]), (cc_l t0 (K 0) 400 ft)] H := hP0
                            replace hD := as_D hP hD0 rfl
                            replace hS := hS0
                            clear hP0 hD0 hS0
                            refine lv_goto (tgt := 149) hx hb dX12_next_240 (by decide +kernel) ?_
                            have hz_2118 : ((-1) : Int64).toInt = (-1) := rfl
                            exact ih_2104 x_2117 (-1) (by rw [hx_2117]; omega) (show v_1944.toInt < (x_2117 : Int32).toInt ∧ (x_2117 : Int32).toInt ≤ ta.toInt ∧ (v_1944.toInt + 1 < (x_2117 : Int32).toInt ∨ ((-1) : Int64).toInt ≤ 26) by omega) (by omega) (hE.trans (by rw [hrec_2103])) _ _ hP hD hS ls (lv_sub hl [0] rfl)
                          · have c_2116i := i_nle (x := 10) (y := (v_2061.toInt - v_1944.toInt)) rfl hx_2115 c_2116
                            replace hE := hE.trans (if_neg c_2116)
                            refine lv_aload_n hx hb dX12_next_198 rfl (lv_at hl 0 rfl) (va_get (ci := 12) (v := .long v_2062) (C := RX12) (T := TX12) (N := 60) hx hb hts hw12 hown hK hP 0 rfl rfl 17 (by decide +kernel) (hts _ mm_X12_next_847) (fun _ h9 => h9) rfl dX12_next_199 (lv_ldc2 (v := 32) hx hb hown (hts _ mm_X12_next_1089) dX12_next_202 (lv_lmul hx hb dX12_next_205 (lv_topl (fun x_2119 ex_2119 => ?_)))))
                            replace hE := hE.trans (Lt_in ex_2119)
                            refine lv_aload_n hx hb dX12_next_206 rfl (lv_at hl 0 rfl) (va_get (ci := 12) (v := .ref t0) (C := RX12) (T := TX12) (N := 60) hx hb hts hw12 hown hK hP 0 rfl rfl 12 (by decide +kernel) (hts _ mm_X12_next_842) (fun _ h9 => h9) rfl dX12_next_207 (lv_aload_n hx hb dX12_next_210 rfl (lv_at hl 0 rfl) (va_get (ci := 12) (v := .int v_2061) (C := RX12) (T := TX12) (N := 60) hx hb hts hw12 hown hK hP 0 rfl rfl 15 (by decide +kernel) (hts _ mm_X12_next_845) (fun _ h9 => h9) rfl dX12_next_211 (va_iald hx hb hK hP 1 0 rfl rfl (i_in rfl (by omega)) dX12_next_214 (lv_topi (fun x_2120 ex_2120 => ?_))))))
                            replace hE := hE.trans (Lt_in ex_2120)
                            have erx_2120 : x_2120 = x_2108 := ex_2120.trans (by rw [i_clamp rfl]; exact kx_2108)
                            have hrx_2120 : x_2120.toInt = x_2108.toInt := (congrArg Int32.toInt erx_2120).trans rfl
                            refine lv_i2l hx hb dX12_next_215 rfl (lv_topl (fun x_2121 ex_2121 => ?_))
                            replace hE := hE.trans (Lt_in ex_2121)
                            have hx_2121 : x_2121.toInt = x_2108.toInt := by rw [ex_2121]; exact i_wide hrx_2120
                            refine lv_ladd hx hb dX12_next_216 (lv_topl (fun x_2122 ex_2122 => ?_))
                            replace hE := hE.trans (Lt_in ex_2122)
                            refine lv_ldc2 (v := 96) hx hb hown (hts _ mm_X12_next_1090) dX12_next_217 (lv_lsub hx hb dX12_next_220 (lv_topl (fun x_2123 ex_2123 => ?_)))
                            replace hE := hE.trans (Lt_in ex_2123)
                            refine lv_goto (tgt := 227) hx hb dX12_next_221 (by decide +kernel) (va_put (ci := 12) (v := .long x_2123) (ty := .long) (C := RX12) (T := TX12) (N := 60) hx hb hts hw12 tyX12 tyX12_ok nmX12 hown hK hP hD hS 0 rfl rfl 17 (by decide +kernel) (hts _ mm_X12_next_847) (fun _ h9 => h9) rfl (by decide +kernel) (by first | rfl | decide) (by first | rfl | decide) (Nat.le_of_ble_eq_true rfl) dX12_next_227 (fun H locs hP0 hD0 hS0 => ?_))
                            replace hP : va_P D vwCl [(cc_O m0 12 [m_0, m_1, m_2, m_3, m_4, m_5, m_6, m_7, m_8, m_9, m_10, m_11, .ref t0, .int ta, .int v_1944, .int v_2061, .int 1, .long x_2123, m_18, m_19, m_20, m_21, m_22, m_23, m_24, m_25, m_26, m_27, m_28, m_29, m_30, m_31, m_32, m_33, m_34, m_35, m_36, m_37, m_38, m_39, m_40, m_41, m_42, m_43, m_44, m_45, m_46, m_47, m_48, m_49, m_50, m_51, m_52, m_53, m_54, m_55, m_56, m_57, m_58, m_59]), (cc_l t0 (K 0) 400 ft)] H := hP0
                            replace hD := as_D hP hD0 rfl
                            replace hS := hS0
                            clear hP0 hD0 hS0
                            refine lv_aload_n hx hb dX12_next_230 rfl (lv_at hl 0 rfl) (lv_dup hx hb dX12_next_231 rfl (va_get (ci := 12) (v := .int v_2061) (C := RX12) (T := TX12) (N := 60) hx hb hts hw12 hown hK hP 0 rfl rfl 15 (by decide +kernel) (hts _ mm_X12_next_845) (fun _ h9 => h9) rfl dX12_next_232 (lv_iconst (v := 1) hx hb dX12_next_235 (by decide +kernel) (lv_iadd hx hb dX12_next_236 (lv_topi (fun x_2124 ex_2124 => ?_))))))
                            replace hE := hE.trans (Lt_in ex_2124)
                            have hx_2124 : x_2124.toInt = (v_2061.toInt + 1) := by rw [ex_2124]; exact i_add rfl (show (1 : Int32).toInt = 1 from rfl) (by omega)
                            refine va_put (ci := 12) (v := .int x_2124) (ty := .int) (C := RX12) (T := TX12) (N := 60) hx hb hts hw12 tyX12 tyX12_ok nmX12 hown hK hP hD hS 0 rfl rfl 15 (by decide +kernel) (hts _ mm_X12_next_845) (fun _ h9 => h9) rfl (by decide +kernel) (by first | rfl | decide) (by first | rfl | decide) (Nat.le_of_ble_eq_true rfl) dX12_next_237 (fun H locs hP0 hD0 hS0 => ?_)
                            replace hP : va_P D vwCl [(cc_O m0 12 [m_0, m_1, m_2, m_3, m_4, m_5, m_6, m_7, m_8, m_9, m_10, m_11, .ref t0, .int ta, .int v_1944, .int x_2124, .int 1, .long x_2123, m_18, m_19, m_20, m_21, m_22, m_23, m_24, m_25, m_26, m_27, m_28, m_29, m_30, m_31, m_32, m_33, m_34, m_35, m_36, m_37, m_38, m_39, m_40, m_41, m_42, m_43, m_44, m_45, m_46, m_47, m_48, m_49, m_50, m_51, m_52, m_53, m_54, m_55, m_56, m_57, m_58, m_59]), (cc_l t0 (K 0) 400 ft)] H := hP0
                            replace hD := as_D hP hD0 rfl
                            replace hS := hS0
                            clear hP0 hD0 hS0
                            refine lv_goto (tgt := 149) hx hb dX12_next_240 (by decide +kernel) ?_
                            exact ih_2104 x_2124 x_2123 (by rw [hx_2124]; omega) (show v_1944.toInt < (x_2124 : Int32).toInt ∧ (x_2124 : Int32).toInt ≤ ta.toInt ∧ (v_1944.toInt + 1 < (x_2124 : Int32).toInt ∨ (x_2123 : Int64).toInt ≤ 26) by omega) (by omega) (hE.trans (by rw [hrec_2103])) _ _ hP hD hS ls (lv_sub hl [0] rfl)
                        · replace hE := (hE).trans (if_neg (by first | decide | (intro h9; have h8 := congrArg Int32.toInt h9; omega)))
                          refine lv_if_eq (tgt := 243) hx hb dX12_next_180 (by decide +kernel) (fun c_2125 => ?_) (fun c_2125 => absurd (by decide +kernel) c_2125)
                          refine lv_aload_n hx hb dX12_next_243 rfl (lv_at hl 0 rfl) (va_get (ci := 12) (v := .int 1) (C := RX12) (T := TX12) (N := 60) hx hb hts hw12 hown hK hP 0 rfl rfl 16 (by decide +kernel) (hts _ mm_X12_next_846) (fun _ h9 => h9) rfl dX12_next_244 (lv_iconst (v := 2) hx hb dX12_next_247 (by decide +kernel) (lv_icmp_ne (tgt := 335) hx hb dX12_next_248 (by decide +kernel) (fun c_2126 => ?_) (fun c_2126 => absurd c_2126 (by decide +kernel)))))
                          rw [← hQ]
                          have hP9 := hP.sub (ws' := [(cc_O m0 12 [m_0, m_1, m_2, m_3, m_4, m_5, m_6, m_7, m_8, m_9, m_10, m_11, .ref t0, .int ta, .int v_1944, .int v_2061, .int 1, .long v_2062, m_18, m_19, m_20, m_21, m_22, m_23, m_24, m_25, m_26, m_27, m_28, m_29, m_30, m_31, m_32, m_33, m_34, m_35, m_36, m_37, m_38, m_39, m_40, m_41, m_42, m_43, m_44, m_45, m_46, m_47, m_48, m_49, m_50, m_51, m_52, m_53, m_54, m_55, m_56, m_57, m_58, m_59]), (cc_l t0 (K 0) 400 ft)]) [0, 1] rfl
                          have hD9 := sub_D hP9 hD [0, 1] (by decide +kernel) rfl
                          exact W.vret hx hb hr (fun t ht hW => ⟨⟨((fun _ => 0, fun _ => fun _ => 0, fun _ => fun _ => 0, fun i => match i with | 0 => v_1944 | 1 => v_2061 | _ => 1, fun i => match i with | _ => v_2062, fun _ => fun _ => none) : Su), rfl, ⟨(show 0 ≤ (v_1944 : Int32).toInt ∧ (v_1944 : Int32).toInt ≤ 400 by omega), (show 0 ≤ (v_2061 : Int32).toInt ∧ (v_2061 : Int32).toInt ≤ 401 by omega), (show 0 ≤ (1 : Int32).toInt ∧ (1 : Int32).toInt ≤ 3 by decide), hE.symm, (show ((0 ≤ (v_1944 : Int32).toInt ∧ (v_1944 : Int32).toInt ≤ (v_2061 : Int32).toInt ∧ (v_2061 : Int32).toInt ≤ ta.toInt) ∧ (1 = 0 ∨ (v_1944 : Int32).toInt < (v_2061 : Int32).toInt) ∧ (1 ≠ 1 ∨ (v_1944 : Int32).toInt + 1 < (v_2061 : Int32).toInt ∨ (v_2062 : Int64).toInt ≤ 26)) by omega), (show to.toInt ≤ (v_1944 : Int32).toInt by omega), trivial⟩, (⟨by rw [ht]; exact hP9, hD9⟩ : Wd D A _ t)⟩, hS.F ht⟩) hS.2.2 dX12_next_335
                  have hz_2127 : ((-1) : Int64).toInt = (-1) := rfl
                  exact lp_2103 ((ta.toInt - (x_1978 : Int32).toInt : Int).toNat + 1) x_1978 (-1) (by rw [hx_1978]; omega) (show v_1944.toInt < (x_1978 : Int32).toInt ∧ (x_1978 : Int32).toInt ≤ ta.toInt ∧ (v_1944.toInt + 1 < (x_1978 : Int32).toInt ∨ ((-1) : Int64).toInt ≤ 26) by omega) (Nat.lt_succ_self _) hE _ _ hP hD hS ls (lv_sub hl [0] rfl)
                · have c_1977i := i_nle (x := 10) (y := (v_1944.toInt - v_1944.toInt)) rfl hx_1976 c_1977
                  replace hE := hE.trans (if_neg c_1977)
                  refine lv_aload_n hx hb dX12_next_198 rfl (lv_at hl 0 rfl) (va_get (ci := 12) (v := .long 0) (C := RX12) (T := TX12) (N := 60) hx hb hts hw12 hown hK hP 0 rfl rfl 17 (by decide +kernel) (hts _ mm_X12_next_847) (fun _ h9 => h9) rfl dX12_next_199 (lv_ldc2 (v := 32) hx hb hown (hts _ mm_X12_next_1089) dX12_next_202 (lv_lmul hx hb dX12_next_205 (lv_topl (fun x_2128 ex_2128 => ?_)))))
                  obtain rfl : x_2128 = 0 := ex_2128.trans (by first | rfl | decide)
                  refine lv_aload_n hx hb dX12_next_206 rfl (lv_at hl 0 rfl) (va_get (ci := 12) (v := .ref t0) (C := RX12) (T := TX12) (N := 60) hx hb hts hw12 hown hK hP 0 rfl rfl 12 (by decide +kernel) (hts _ mm_X12_next_842) (fun _ h9 => h9) rfl dX12_next_207 (lv_aload_n hx hb dX12_next_210 rfl (lv_at hl 0 rfl) (va_get (ci := 12) (v := .int v_1944) (C := RX12) (T := TX12) (N := 60) hx hb hts hw12 hown hK hP 0 rfl rfl 15 (by decide +kernel) (hts _ mm_X12_next_845) (fun _ h9 => h9) rfl dX12_next_211 (va_iald hx hb hK hP 1 0 rfl rfl (i_in rfl (by omega)) dX12_next_214 (lv_topi (fun x_2129 ex_2129 => ?_))))))
                  replace hE := hE.trans (Lt_in ex_2129)
                  have erx_2129 : x_2129 = x_1958 := ex_2129.trans (by rw [i_clamp rfl]; exact kx_1958)
                  have hrx_2129 : x_2129.toInt = x_1958.toInt := (congrArg Int32.toInt erx_2129).trans rfl
                  refine lv_i2l hx hb dX12_next_215 rfl (lv_topl (fun x_2130 ex_2130 => ?_))
                  replace hE := hE.trans (Lt_in ex_2130)
                  have hx_2130 : x_2130.toInt = x_1958.toInt := by rw [ex_2130]; exact i_wide hrx_2129
                  refine lv_ladd hx hb dX12_next_216 (lv_topl (fun x_2131 ex_2131 => ?_))
                  replace hE := hE.trans (Lt_in ex_2131)
                  have hx_2131 : x_2131.toInt = (0 + x_1958.toInt) := by rw [ex_2131]; exact l_add (show (0 : Int64).toInt = 0 from rfl) hx_2130 (by omega)
                  refine lv_ldc2 (v := 96) hx hb hown (hts _ mm_X12_next_1090) dX12_next_217 (lv_lsub hx hb dX12_next_220 (lv_topl (fun x_2132 ex_2132 => ?_)))
                  replace hE := hE.trans (Lt_in ex_2132)
                  have hx_2132 : x_2132.toInt = ((0 + x_1958.toInt) - 96) := by rw [ex_2132]; exact l_sub hx_2131 (show (96 : Int64).toInt = 96 from rfl) (by omega)
                  refine lv_goto (tgt := 227) hx hb dX12_next_221 (by decide +kernel) (va_put (ci := 12) (v := .long x_2132) (ty := .long) (C := RX12) (T := TX12) (N := 60) hx hb hts hw12 tyX12 tyX12_ok nmX12 hown hK hP hD hS 0 rfl rfl 17 (by decide +kernel) (hts _ mm_X12_next_847) (fun _ h9 => h9) rfl (by decide +kernel) (by first | rfl | decide) (by first | rfl | decide) (Nat.le_of_ble_eq_true rfl) dX12_next_227 (fun H locs hP0 hD0 hS0 => ?_))
                  replace hP : va_P D vwCl [(cc_O m0 12 [m_0, m_1, m_2, m_3, m_4, m_5, m_6, m_7, m_8, m_9, m_10, m_11, .ref t0, .int ta, .int v_1944, .int v_1944, .int 1, .long x_2132, m_18, m_19, m_20, m_21, m_22, m_23, m_24, m_25, m_26, m_27, m_28, m_29, m_30, m_31, m_32, m_33, m_34, m_35, m_36, m_37, m_38, m_39, m_40, m_41, m_42, m_43, m_44, m_45, m_46, m_47, m_48, m_49, m_50, m_51, m_52, m_53, m_54, m_55, m_56, m_57, m_58, m_59]), (cc_l t0 (K 0) 400 ft)] H := hP0
                  replace hD := as_D hP hD0 rfl
                  replace hS := hS0
                  clear hP0 hD0 hS0
                  refine lv_aload_n hx hb dX12_next_230 rfl (lv_at hl 0 rfl) (lv_dup hx hb dX12_next_231 rfl (va_get (ci := 12) (v := .int v_1944) (C := RX12) (T := TX12) (N := 60) hx hb hts hw12 hown hK hP 0 rfl rfl 15 (by decide +kernel) (hts _ mm_X12_next_845) (fun _ h9 => h9) rfl dX12_next_232 (lv_iconst (v := 1) hx hb dX12_next_235 (by decide +kernel) (lv_iadd hx hb dX12_next_236 (lv_topi (fun x_2133 ex_2133 => ?_))))))
                  replace hE := hE.trans (Lt_in ex_2133)
                  have hx_2133 : x_2133.toInt = (v_1944.toInt + 1) := by rw [ex_2133]; exact i_add rfl (show (1 : Int32).toInt = 1 from rfl) (by omega)
                  refine va_put (ci := 12) (v := .int x_2133) (ty := .int) (C := RX12) (T := TX12) (N := 60) hx hb hts hw12 tyX12 tyX12_ok nmX12 hown hK hP hD hS 0 rfl rfl 15 (by decide +kernel) (hts _ mm_X12_next_845) (fun _ h9 => h9) rfl (by decide +kernel) (by first | rfl | decide) (by first | rfl | decide) (Nat.le_of_ble_eq_true rfl) dX12_next_237 (fun H locs hP0 hD0 hS0 => ?_)
                  replace hP : va_P D vwCl [(cc_O m0 12 [m_0, m_1, m_2, m_3, m_4, m_5, m_6, m_7, m_8, m_9, m_10, m_11, .ref t0, .int ta, .int v_1944, .int x_2133, .int 1, .long x_2132, m_18, m_19, m_20, m_21, m_22, m_23, m_24, m_25, m_26, m_27, m_28, m_29, m_30, m_31, m_32, m_33, m_34, m_35, m_36, m_37, m_38, m_39, m_40, m_41, m_42, m_43, m_44, m_45, m_46, m_47, m_48, m_49, m_50, m_51, m_52, m_53, m_54, m_55, m_56, m_57, m_58, m_59]), (cc_l t0 (K 0) 400 ft)] H := hP0
                  replace hD := as_D hP hD0 rfl
                  replace hS := hS0
                  clear hP0 hD0 hS0
                  refine lv_goto (tgt := 149) hx hb dX12_next_240 (by decide +kernel) ?_
                  have lp_2237 : ∀ (nn_ : Nat) (v_2195 : Int32) (v_2196 : Int64) (hv_2195 : 1 ≤ v_2195.toInt ∧ v_2195.toInt ≤ 400) (hr0_lp_2237 : v_1944.toInt < v_2195.toInt ∧ v_2195.toInt ≤ ta.toInt ∧ (v_1944.toInt + 1 < v_2195.toInt ∨ v_2196.toInt ≤ 26)) (hn : (ta.toInt - v_2195.toInt : Int).toNat < nn_) (hE : E_v_next ta fr to so wo ft = Lp (α := Int32 → Int64 → (Int32 × Int32 × Int32 × Int64)) (E_v_next_l149 ta ft v_1944) (fun _ _ => ((0, 0, 0, 0) : Int32 × Int32 × Int32 × Int64)) nn_ v_2195 v_2196) (H : Heap) (locs : List Loc) (hP : va_P D vwCl [(cc_O m0 12 [m_0, m_1, m_2, m_3, m_4, m_5, m_6, m_7, m_8, m_9, m_10, m_11, .ref t0, .int ta, .int v_1944, .int v_2195, .int 1, .long v_2196, m_18, m_19, m_20, m_21, m_22, m_23, m_24, m_25, m_26, m_27, m_28, m_29, m_30, m_31, m_32, m_33, m_34, m_35, m_36, m_37, m_38, m_39, m_40, m_41, m_42, m_43, m_44, m_45, m_46, m_47, m_48, m_49, m_50, m_51, m_52, m_53, m_54, m_55, m_56, m_57, m_58, m_59]), (cc_l t0 (K 0) 400 ft)] H) (hD : va_D A [(cc_O m0 12 [m_0, m_1, m_2, m_3, m_4, m_5, m_6, m_7, m_8, m_9, m_10, m_11, .ref t0, .int ta, .int v_1944, .int v_2195, .int 1, .long v_2196, m_18, m_19, m_20, m_21, m_22, m_23, m_24, m_25, m_26, m_27, m_28, m_29, m_30, m_31, m_32, m_33, m_34, m_35, m_36, m_37, m_38, m_39, m_40, m_41, m_42, m_43, m_44, m_45, m_46, m_47, m_48, m_49, m_50, m_51, m_52, m_53, m_54, m_55, m_56, m_57, m_58, m_59]), (cc_l t0 (K 0) 400 ft)]) (hS : va_S A s.heap H locs) (ls : Array Slot) (hl : lv_has ls 1 [(0, .ref m0)]), W p l e ({ frames := 1, cells := 0, slots := 0, locals := 20 }) s m (([.ref m0] : List Value).toArray) below meth c H locs 0 0 Q (F0 m 149 ls []) := by
                    clear hE hP hD hS hl
                    intro nn_
                    induction nn_ with
                    | zero =>
                      intro v_2195 v_2196 hv_2195 hr0_lp_2237 hn hE H locs hP hD hS ls hl
                      exact absurd hn (Nat.not_lt_zero _)
                    | succ nn_ ih_2238 =>
                      intro v_2195 v_2196 hv_2195 hr0_lp_2237 hn hE H locs hP hD hS ls hl
                      replace hE : E_v_next ta fr to so wo ft = E_v_next_l149 ta ft v_1944 (Lp (α := Int32 → Int64 → (Int32 × Int32 × Int32 × Int64)) (E_v_next_l149 ta ft v_1944) (fun _ _ => ((0, 0, 0, 0) : Int32 × Int32 × Int32 × Int64)) nn_) v_2195 v_2196 := hE
                      obtain ⟨rec_2237, hrec_2237⟩ : ∃ z9, z9 = Lp (α := Int32 → Int64 → (Int32 × Int32 × Int32 × Int64)) (E_v_next_l149 ta ft v_1944) (fun _ _ => ((0, 0, 0, 0) : Int32 × Int32 × Int32 × Int64)) nn_ := ⟨_, rfl⟩
                      rw [← hrec_2237] at hE
                      replace hE := hE.trans (E_v_next_l149.eq_def _ _ _ _ _ _)
                      refine lv_aload_n hx hb dX12_next_149 rfl (lv_at hl 0 rfl) (va_get (ci := 12) (v := .int 1) (C := RX12) (T := TX12) (N := 60) hx hb hts hw12 hown hK hP 0 rfl rfl 16 (by decide +kernel) (hts _ mm_X12_next_846) (fun _ h9 => h9) rfl dX12_next_150 (lv_iconst (v := 1) hx hb dX12_next_153 (by decide +kernel) (lv_icmp_ne (tgt := 243) hx hb dX12_next_154 (by decide +kernel) (fun c_2239 => absurd (by decide +kernel) c_2239) (fun c_2239 => ?_))))
                      refine lv_aload_n hx hb dX12_next_157 rfl (lv_at hl 0 rfl) (va_get (ci := 12) (v := .int v_2195) (C := RX12) (T := TX12) (N := 60) hx hb hts hw12 hown hK hP 0 rfl rfl 15 (by decide +kernel) (hts _ mm_X12_next_845) (fun _ h9 => h9) rfl dX12_next_158 (lv_aload_n hx hb dX12_next_161 rfl (lv_at hl 0 rfl) (va_get (ci := 12) (v := .int ta) (C := RX12) (T := TX12) (N := 60) hx hb hts hw12 hown hK hP 0 rfl rfl 13 (by decide +kernel) (hts _ mm_X12_next_843) (fun _ h9 => h9) rfl dX12_next_162 (lv_icmp_ge (tgt := 243) hx hb dX12_next_165 (by decide +kernel) (fun c_2240 => ?_) (fun c_2240 => ?_)))))
                      · have c_2240i := i_le (x := ta.toInt) (y := v_2195.toInt) rfl rfl c_2240
                        replace hE := hE.trans (if_pos c_2240)
                        refine lv_aload_n hx hb dX12_next_243 rfl (lv_at hl 0 rfl) (va_get (ci := 12) (v := .int 1) (C := RX12) (T := TX12) (N := 60) hx hb hts hw12 hown hK hP 0 rfl rfl 16 (by decide +kernel) (hts _ mm_X12_next_846) (fun _ h9 => h9) rfl dX12_next_244 (lv_iconst (v := 2) hx hb dX12_next_247 (by decide +kernel) (lv_icmp_ne (tgt := 335) hx hb dX12_next_248 (by decide +kernel) (fun c_2241 => ?_) (fun c_2241 => absurd c_2241 (by decide +kernel)))))
                        rw [← hQ]
                        have hP9 := hP.sub (ws' := [(cc_O m0 12 [m_0, m_1, m_2, m_3, m_4, m_5, m_6, m_7, m_8, m_9, m_10, m_11, .ref t0, .int ta, .int v_1944, .int v_2195, .int 1, .long v_2196, m_18, m_19, m_20, m_21, m_22, m_23, m_24, m_25, m_26, m_27, m_28, m_29, m_30, m_31, m_32, m_33, m_34, m_35, m_36, m_37, m_38, m_39, m_40, m_41, m_42, m_43, m_44, m_45, m_46, m_47, m_48, m_49, m_50, m_51, m_52, m_53, m_54, m_55, m_56, m_57, m_58, m_59]), (cc_l t0 (K 0) 400 ft)]) [0, 1] rfl
                        have hD9 := sub_D hP9 hD [0, 1] (by decide +kernel) rfl
                        exact W.vret hx hb hr (fun t ht hW => ⟨⟨((fun _ => 0, fun _ => fun _ => 0, fun _ => fun _ => 0, fun i => match i with | 0 => v_1944 | 1 => v_2195 | _ => 1, fun i => match i with | _ => v_2196, fun _ => fun _ => none) : Su), rfl, ⟨(show 0 ≤ (v_1944 : Int32).toInt ∧ (v_1944 : Int32).toInt ≤ 400 by omega), (show 0 ≤ (v_2195 : Int32).toInt ∧ (v_2195 : Int32).toInt ≤ 401 by omega), (show 0 ≤ (1 : Int32).toInt ∧ (1 : Int32).toInt ≤ 3 by decide), hE.symm, (show ((0 ≤ (v_1944 : Int32).toInt ∧ (v_1944 : Int32).toInt ≤ (v_2195 : Int32).toInt ∧ (v_2195 : Int32).toInt ≤ ta.toInt) ∧ (1 = 0 ∨ (v_1944 : Int32).toInt < (v_2195 : Int32).toInt) ∧ (1 ≠ 1 ∨ (v_1944 : Int32).toInt + 1 < (v_2195 : Int32).toInt ∨ (v_2196 : Int64).toInt ≤ 26)) by omega), (show to.toInt ≤ (v_1944 : Int32).toInt by omega), trivial⟩, (⟨by rw [ht]; exact hP9, hD9⟩ : Wd D A _ t)⟩, hS.F ht⟩) hS.2.2 dX12_next_335
                      · have c_2240i := i_nle (x := ta.toInt) (y := v_2195.toInt) rfl rfl c_2240
                        replace hE := hE.trans (if_neg c_2240)
                        refine lv_aload_n hx hb dX12_next_168 rfl (lv_at hl 0 rfl) (va_get (ci := 12) (v := .ref t0) (C := RX12) (T := TX12) (N := 60) hx hb hts hw12 hown hK hP 0 rfl rfl 12 (by decide +kernel) (hts _ mm_X12_next_842) (fun _ h9 => h9) rfl dX12_next_169 (lv_aload_n hx hb dX12_next_172 rfl (lv_at hl 0 rfl) (va_get (ci := 12) (v := .int v_2195) (C := RX12) (T := TX12) (N := 60) hx hb hts hw12 hown hK hP 0 rfl rfl 15 (by decide +kernel) (hts _ mm_X12_next_845) (fun _ h9 => h9) rfl dX12_next_173 (va_iald hx hb hK hP 1 0 rfl rfl (i_in rfl (by omega)) dX12_next_176 (lv_topi (fun x_2242 ex_2242 => ?_))))))
                        replace hE := hE.trans (Lt_in ex_2242)
                        have kx_2242 : ft (v_2195.toInt).toNat = x_2242 := by rw [ex_2242, i_clamp rfl]
                        refine pci (va_runS (As := [.int x_2242]) (rest := []) ⟨hx, hb, hml, hown, hts⟩ (v_isSmall l D K x_2242.toInt x_2242 H.size rfl) (va_cwS 1 hts gX12_next_X12_isSmall rfl rfl rfl (by decide +kernel) ⟨Nat.le_of_ble_eq_true rfl, Nat.le_of_ble_eq_true rfl⟩) (mkS hK hN (va_P.nil) (va_D.nil (A := fun _ => True))) rfl rfl hl.1 rfl (lv_room (Nat.le_of_ble_eq_true rfl)) dX12_next_177 ⟨Nat.le_of_ble_eq_true rfl, Nat.le_of_ble_eq_true rfl⟩) (fun r_2243 hw => ?_)
                        obtain ⟨hw, k_2244, -⟩ := hw
                        replace hE := hE.trans (Lt_in k_2244)
                        rcases hw with ⟨rfl, h_2245, h_2246⟩ | ⟨rfl, h_2247⟩
                        · replace hE := (hE).trans (if_pos rfl)
                          refine lv_if_eq (tgt := 243) hx hb dX12_next_180 (by decide +kernel) (fun c_2248 => absurd c_2248 (by decide +kernel)) (fun c_2248 => ?_)
                          refine lv_aload_n hx hb dX12_next_183 rfl (lv_at hl 0 rfl) (lv_aload_n hx hb dX12_next_184 rfl (lv_at hl 0 rfl) (va_get (ci := 12) (v := .int v_2195) (C := RX12) (T := TX12) (N := 60) hx hb hts hw12 hown hK hP 0 rfl rfl 15 (by decide +kernel) (hts _ mm_X12_next_845) (fun _ h9 => h9) rfl dX12_next_185 (lv_aload_n hx hb dX12_next_188 rfl (lv_at hl 0 rfl) (va_get (ci := 12) (v := .int v_1944) (C := RX12) (T := TX12) (N := 60) hx hb hts hw12 hown hK hP 0 rfl rfl 14 (by decide +kernel) (hts _ mm_X12_next_844) (fun _ h9 => h9) rfl dX12_next_189 (lv_isub hx hb dX12_next_192 (lv_topi (fun x_2249 ex_2249 => ?_)))))))
                          replace hE := hE.trans (Lt_in ex_2249)
                          have hx_2249 : x_2249.toInt = (v_2195.toInt - v_1944.toInt) := by rw [ex_2249]; exact i_sub rfl rfl (by omega)
                          refine lv_bipush (v := 10) hx hb dX12_next_193 (by decide +kernel) (lv_icmp_ge (tgt := 224) hx hb dX12_next_195 (by decide +kernel) (fun c_2250 => ?_) (fun c_2250 => ?_))
                          · have c_2250i := i_le (x := 10) (y := (v_2195.toInt - v_1944.toInt)) rfl hx_2249 c_2250
                            replace hE := hE.trans (if_pos c_2250)
                            refine lv_ldc2 (v := (-1)) hx hb hown (hts _ mm_X12_next_1008) dX12_next_224 (va_put (ci := 12) (v := .long (-1)) (ty := .long) (C := RX12) (T := TX12) (N := 60) hx hb hts hw12 tyX12 tyX12_ok nmX12 hown hK hP hD hS 0 rfl rfl 17 (by decide +kernel) (hts _ mm_X12_next_847) (fun _ h9 => h9) rfl (by decide +kernel) (by first | rfl | decide) (by first | rfl | decide) (Nat.le_of_ble_eq_true rfl) dX12_next_227 (fun H locs hP0 hD0 hS0 => ?_))
                            replace hP : va_P D vwCl [(cc_O m0 12 [m_0, m_1, m_2, m_3, m_4, m_5, m_6, m_7, m_8, m_9, m_10, m_11, .ref t0, .int ta, .int v_1944, .int v_2195, .int 1, .long (-1), m_18, m_19, m_20, m_21, m_22, m_23, m_24, m_25, m_26, m_27, m_28, m_29, m_30, m_31, m_32, m_33, m_34, m_35, m_36, m_37, m_38, m_39, m_40, m_41, m_42, m_43, m_44, m_45, m_46, m_47, m_48, m_49, m_50, m_51, m_52, m_53, m_54, m_55, m_56, m_57, m_58, m_59]), (cc_l t0 (K 0) 400 ft)] H := hP0
                            replace hD := as_D hP hD0 rfl
                            replace hS := hS0
                            clear hP0 hD0 hS0
                            refine lv_aload_n hx hb dX12_next_230 rfl (lv_at hl 0 rfl) (lv_dup hx hb dX12_next_231 rfl (va_get (ci := 12) (v := .int v_2195) (C := RX12) (T := TX12) (N := 60) hx hb hts hw12 hown hK hP 0 rfl rfl 15 (by decide +kernel) (hts _ mm_X12_next_845) (fun _ h9 => h9) rfl dX12_next_232 (lv_iconst (v := 1) hx hb dX12_next_235 (by decide +kernel) (lv_iadd hx hb dX12_next_236 (lv_topi (fun x_2251 ex_2251 => ?_))))))
                            replace hE := hE.trans (Lt_in ex_2251)
                            have hx_2251 : x_2251.toInt = (v_2195.toInt + 1) := by rw [ex_2251]; exact i_add rfl (show (1 : Int32).toInt = 1 from rfl) (by omega)
                            refine va_put (ci := 12) (v := .int x_2251) (ty := .int) (C := RX12) (T := TX12) (N := 60) hx hb hts hw12 tyX12 tyX12_ok nmX12 hown hK hP hD hS 0 rfl rfl 15 (by decide +kernel) (hts _ mm_X12_next_845) (fun _ h9 => h9) rfl (by decide +kernel) (by first | rfl | decide) (by first | rfl | decide) (Nat.le_of_ble_eq_true rfl) dX12_next_237 (fun H locs hP0 hD0 hS0 => ?_)
                            replace hP : va_P D vwCl [(cc_O m0 12 [m_0, m_1, m_2, m_3, m_4, m_5, m_6, m_7, m_8, m_9, m_10, m_11, .ref t0, .int ta, .int v_1944, .int x_2251, .int 1, .long (-1), m_18, m_19, m_20, m_21, m_22, m_23, m_24, m_25, m_26, m_27, m_28, m_29, m_30, m_31, m_32, m_33, m_34, m_35, m_36, m_37, m_38, m_39, m_40, m_41, m_42, m_43, m_44, m_45, m_46, m_47, m_48, m_49, m_50, m_51, m_52, m_53, m_54, m_55, m_56, m_57, m_58, m_59]), (cc_l t0 (K 0) 400 ft)] H := hP0
                            replace hD := as_D hP hD0 rfl
                            replace hS := hS0
                            clear hP0 hD0 hS0
                            refine lv_goto (tgt := 149) hx hb dX12_next_240 (by decide +kernel) ?_
                            have hz_2252 : ((-1) : Int64).toInt = (-1) := rfl
                            exact ih_2238 x_2251 (-1) (by rw [hx_2251]; omega) (show v_1944.toInt < (x_2251 : Int32).toInt ∧ (x_2251 : Int32).toInt ≤ ta.toInt ∧ (v_1944.toInt + 1 < (x_2251 : Int32).toInt ∨ ((-1) : Int64).toInt ≤ 26) by omega) (by omega) (hE.trans (by rw [hrec_2237])) _ _ hP hD hS ls (lv_sub hl [0] rfl)
                          · have c_2250i := i_nle (x := 10) (y := (v_2195.toInt - v_1944.toInt)) rfl hx_2249 c_2250
                            replace hE := hE.trans (if_neg c_2250)
                            refine lv_aload_n hx hb dX12_next_198 rfl (lv_at hl 0 rfl) (va_get (ci := 12) (v := .long v_2196) (C := RX12) (T := TX12) (N := 60) hx hb hts hw12 hown hK hP 0 rfl rfl 17 (by decide +kernel) (hts _ mm_X12_next_847) (fun _ h9 => h9) rfl dX12_next_199 (lv_ldc2 (v := 32) hx hb hown (hts _ mm_X12_next_1089) dX12_next_202 (lv_lmul hx hb dX12_next_205 (lv_topl (fun x_2253 ex_2253 => ?_)))))
                            replace hE := hE.trans (Lt_in ex_2253)
                            refine lv_aload_n hx hb dX12_next_206 rfl (lv_at hl 0 rfl) (va_get (ci := 12) (v := .ref t0) (C := RX12) (T := TX12) (N := 60) hx hb hts hw12 hown hK hP 0 rfl rfl 12 (by decide +kernel) (hts _ mm_X12_next_842) (fun _ h9 => h9) rfl dX12_next_207 (lv_aload_n hx hb dX12_next_210 rfl (lv_at hl 0 rfl) (va_get (ci := 12) (v := .int v_2195) (C := RX12) (T := TX12) (N := 60) hx hb hts hw12 hown hK hP 0 rfl rfl 15 (by decide +kernel) (hts _ mm_X12_next_845) (fun _ h9 => h9) rfl dX12_next_211 (va_iald hx hb hK hP 1 0 rfl rfl (i_in rfl (by omega)) dX12_next_214 (lv_topi (fun x_2254 ex_2254 => ?_))))))
                            replace hE := hE.trans (Lt_in ex_2254)
                            have erx_2254 : x_2254 = x_2242 := ex_2254.trans (by rw [i_clamp rfl]; exact kx_2242)
                            have hrx_2254 : x_2254.toInt = x_2242.toInt := (congrArg Int32.toInt erx_2254).trans rfl
                            refine lv_i2l hx hb dX12_next_215 rfl (lv_topl (fun x_2255 ex_2255 => ?_))
                            replace hE := hE.trans (Lt_in ex_2255)
                            have hx_2255 : x_2255.toInt = x_2242.toInt := by rw [ex_2255]; exact i_wide hrx_2254
                            refine lv_ladd hx hb dX12_next_216 (lv_topl (fun x_2256 ex_2256 => ?_))
                            replace hE := hE.trans (Lt_in ex_2256)
                            refine lv_ldc2 (v := 96) hx hb hown (hts _ mm_X12_next_1090) dX12_next_217 (lv_lsub hx hb dX12_next_220 (lv_topl (fun x_2257 ex_2257 => ?_)))
                            replace hE := hE.trans (Lt_in ex_2257)
                            refine lv_goto (tgt := 227) hx hb dX12_next_221 (by decide +kernel) (va_put (ci := 12) (v := .long x_2257) (ty := .long) (C := RX12) (T := TX12) (N := 60) hx hb hts hw12 tyX12 tyX12_ok nmX12 hown hK hP hD hS 0 rfl rfl 17 (by decide +kernel) (hts _ mm_X12_next_847) (fun _ h9 => h9) rfl (by decide +kernel) (by first | rfl | decide) (by first | rfl | decide) (Nat.le_of_ble_eq_true rfl) dX12_next_227 (fun H locs hP0 hD0 hS0 => ?_))
                            replace hP : va_P D vwCl [(cc_O m0 12 [m_0, m_1, m_2, m_3, m_4, m_5, m_6, m_7, m_8, m_9, m_10, m_11, .ref t0, .int ta, .int v_1944, .int v_2195, .int 1, .long x_2257, m_18, m_19, m_20, m_21, m_22, m_23, m_24, m_25, m_26, m_27, m_28, m_29, m_30, m_31, m_32, m_33, m_34, m_35, m_36, m_37, m_38, m_39, m_40, m_41, m_42, m_43, m_44, m_45, m_46, m_47, m_48, m_49, m_50, m_51, m_52, m_53, m_54, m_55, m_56, m_57, m_58, m_59]), (cc_l t0 (K 0) 400 ft)] H := hP0
                            replace hD := as_D hP hD0 rfl
                            replace hS := hS0
                            clear hP0 hD0 hS0
                            refine lv_aload_n hx hb dX12_next_230 rfl (lv_at hl 0 rfl) (lv_dup hx hb dX12_next_231 rfl (va_get (ci := 12) (v := .int v_2195) (C := RX12) (T := TX12) (N := 60) hx hb hts hw12 hown hK hP 0 rfl rfl 15 (by decide +kernel) (hts _ mm_X12_next_845) (fun _ h9 => h9) rfl dX12_next_232 (lv_iconst (v := 1) hx hb dX12_next_235 (by decide +kernel) (lv_iadd hx hb dX12_next_236 (lv_topi (fun x_2258 ex_2258 => ?_))))))
                            replace hE := hE.trans (Lt_in ex_2258)
                            have hx_2258 : x_2258.toInt = (v_2195.toInt + 1) := by rw [ex_2258]; exact i_add rfl (show (1 : Int32).toInt = 1 from rfl) (by omega)
                            refine va_put (ci := 12) (v := .int x_2258) (ty := .int) (C := RX12) (T := TX12) (N := 60) hx hb hts hw12 tyX12 tyX12_ok nmX12 hown hK hP hD hS 0 rfl rfl 15 (by decide +kernel) (hts _ mm_X12_next_845) (fun _ h9 => h9) rfl (by decide +kernel) (by first | rfl | decide) (by first | rfl | decide) (Nat.le_of_ble_eq_true rfl) dX12_next_237 (fun H locs hP0 hD0 hS0 => ?_)
                            replace hP : va_P D vwCl [(cc_O m0 12 [m_0, m_1, m_2, m_3, m_4, m_5, m_6, m_7, m_8, m_9, m_10, m_11, .ref t0, .int ta, .int v_1944, .int x_2258, .int 1, .long x_2257, m_18, m_19, m_20, m_21, m_22, m_23, m_24, m_25, m_26, m_27, m_28, m_29, m_30, m_31, m_32, m_33, m_34, m_35, m_36, m_37, m_38, m_39, m_40, m_41, m_42, m_43, m_44, m_45, m_46, m_47, m_48, m_49, m_50, m_51, m_52, m_53, m_54, m_55, m_56, m_57, m_58, m_59]), (cc_l t0 (K 0) 400 ft)] H := hP0
                            replace hD := as_D hP hD0 rfl
                            replace hS := hS0
                            clear hP0 hD0 hS0
                            refine lv_goto (tgt := 149) hx hb dX12_next_240 (by decide +kernel) ?_
                            exact ih_2238 x_2258 x_2257 (by rw [hx_2258]; omega) (show v_1944.toInt < (x_2258 : Int32).toInt ∧ (x_2258 : Int32).toInt ≤ ta.toInt ∧ (v_1944.toInt + 1 < (x_2258 : Int32).toInt ∨ (x_2257 : Int64).toInt ≤ 26) by omega) (by omega) (hE.trans (by rw [hrec_2237])) _ _ hP hD hS ls (lv_sub hl [0] rfl)
                        · replace hE := (hE).trans (if_neg (by first | decide | (intro h9; have h8 := congrArg Int32.toInt h9; omega)))
                          refine lv_if_eq (tgt := 243) hx hb dX12_next_180 (by decide +kernel) (fun c_2259 => ?_) (fun c_2259 => absurd (by decide +kernel) c_2259)
                          refine lv_aload_n hx hb dX12_next_243 rfl (lv_at hl 0 rfl) (va_get (ci := 12) (v := .int 1) (C := RX12) (T := TX12) (N := 60) hx hb hts hw12 hown hK hP 0 rfl rfl 16 (by decide +kernel) (hts _ mm_X12_next_846) (fun _ h9 => h9) rfl dX12_next_244 (lv_iconst (v := 2) hx hb dX12_next_247 (by decide +kernel) (lv_icmp_ne (tgt := 335) hx hb dX12_next_248 (by decide +kernel) (fun c_2260 => ?_) (fun c_2260 => absurd c_2260 (by decide +kernel)))))
                          rw [← hQ]
                          have hP9 := hP.sub (ws' := [(cc_O m0 12 [m_0, m_1, m_2, m_3, m_4, m_5, m_6, m_7, m_8, m_9, m_10, m_11, .ref t0, .int ta, .int v_1944, .int v_2195, .int 1, .long v_2196, m_18, m_19, m_20, m_21, m_22, m_23, m_24, m_25, m_26, m_27, m_28, m_29, m_30, m_31, m_32, m_33, m_34, m_35, m_36, m_37, m_38, m_39, m_40, m_41, m_42, m_43, m_44, m_45, m_46, m_47, m_48, m_49, m_50, m_51, m_52, m_53, m_54, m_55, m_56, m_57, m_58, m_59]), (cc_l t0 (K 0) 400 ft)]) [0, 1] rfl
                          have hD9 := sub_D hP9 hD [0, 1] (by decide +kernel) rfl
                          exact W.vret hx hb hr (fun t ht hW => ⟨⟨((fun _ => 0, fun _ => fun _ => 0, fun _ => fun _ => 0, fun i => match i with | 0 => v_1944 | 1 => v_2195 | _ => 1, fun i => match i with | _ => v_2196, fun _ => fun _ => none) : Su), rfl, ⟨(show 0 ≤ (v_1944 : Int32).toInt ∧ (v_1944 : Int32).toInt ≤ 400 by omega), (show 0 ≤ (v_2195 : Int32).toInt ∧ (v_2195 : Int32).toInt ≤ 401 by omega), (show 0 ≤ (1 : Int32).toInt ∧ (1 : Int32).toInt ≤ 3 by decide), hE.symm, (show ((0 ≤ (v_1944 : Int32).toInt ∧ (v_1944 : Int32).toInt ≤ (v_2195 : Int32).toInt ∧ (v_2195 : Int32).toInt ≤ ta.toInt) ∧ (1 = 0 ∨ (v_1944 : Int32).toInt < (v_2195 : Int32).toInt) ∧ (1 ≠ 1 ∨ (v_1944 : Int32).toInt + 1 < (v_2195 : Int32).toInt ∨ (v_2196 : Int64).toInt ≤ 26)) by omega), (show to.toInt ≤ (v_1944 : Int32).toInt by omega), trivial⟩, (⟨by rw [ht]; exact hP9, hD9⟩ : Wd D A _ t)⟩, hS.F ht⟩) hS.2.2 dX12_next_335
                  exact lp_2237 ((ta.toInt - (x_2133 : Int32).toInt : Int).toNat + 1) x_2133 x_2132 (by rw [hx_2133]; omega) (show v_1944.toInt < (x_2133 : Int32).toInt ∧ (x_2133 : Int32).toInt ≤ ta.toInt ∧ (v_1944.toInt + 1 < (x_2133 : Int32).toInt ∨ (x_2132 : Int64).toInt ≤ 26) by omega) (Nat.lt_succ_self _) hE _ _ hP hD hS ls (lv_sub hl [0] rfl)
              · replace hE := (hE).trans (if_neg (by first | decide | (intro h9; have h8 := congrArg Int32.toInt h9; omega)))
                exfalso; omega
          · replace hE := (hE).trans (if_neg (by first | decide | (intro h9; have h8 := congrArg Int32.toInt h9; omega)))
            refine lv_if_eq (tgt := 94) hx hb dX12_next_87 (by decide +kernel) (fun c_2261 => ?_) (fun c_2261 => absurd (by decide +kernel) c_2261)
            refine lv_aload_n hx hb dX12_next_94 rfl (lv_at hl 0 rfl) (va_get (ci := 12) (v := .ref t0) (C := RX12) (T := TX12) (N := 60) hx hb hts hw12 hown hK hP 0 rfl rfl 12 (by decide +kernel) (hts _ mm_X12_next_842) (fun _ h9 => h9) rfl dX12_next_95 (lv_aload_n hx hb dX12_next_98 rfl (lv_at hl 0 rfl) (va_get (ci := 12) (v := .int v_1944) (C := RX12) (T := TX12) (N := 60) hx hb hts hw12 hown hK hP 0 rfl rfl 14 (by decide +kernel) (hts _ mm_X12_next_844) (fun _ h9 => h9) rfl dX12_next_99 (va_iald hx hb hK hP 1 0 rfl rfl (i_in rfl (by omega)) dX12_next_102 (lv_topi (fun x_2262 ex_2262 => ?_))))))
            replace hE := hE.trans (Lt_in ex_2262)
            have erx_2262 : x_2262 = x_1958 := ex_2262.trans (by rw [i_clamp rfl]; exact kx_1958)
            have hrx_2262 : x_2262.toInt = x_1958.toInt := (congrArg Int32.toInt erx_2262).trans rfl
            refine pci (va_runS (As := [.int x_2262]) (rest := [.ref m0]) ⟨hx, hb, hml, hown, hts⟩ (v_isDigit l D K x_1958.toInt x_2262 H.size hrx_2262) (va_cwS 1 hts gX12_next_X12_isDigit rfl rfl rfl (by decide +kernel) ⟨Nat.le_of_ble_eq_true rfl, Nat.le_of_ble_eq_true rfl⟩) (mkS hK hN (va_P.nil) (va_D.nil (A := fun _ => True))) rfl rfl hl.1 rfl (lv_room (Nat.le_of_ble_eq_true rfl)) dX12_next_103 ⟨Nat.le_of_ble_eq_true rfl, Nat.le_of_ble_eq_true rfl⟩) (fun r_2263 hw => ?_)
            obtain ⟨hw, k_2264, -⟩ := hw
            replace hE := hE.trans (Lt_in k_2264)
            rcases hw with ⟨rfl, h_2265, h_2266⟩ | ⟨rfl, h_2267⟩
            · replace hE := (hE).trans (if_pos rfl)
              refine lv_if_eq (tgt := 113) hx hb dX12_next_106 (by decide +kernel) (fun c_2268 => absurd c_2268 (by decide +kernel)) (fun c_2268 => ?_)
              refine lv_iconst (v := 2) hx hb dX12_next_109 (by decide +kernel) (lv_goto (tgt := 114) hx hb dX12_next_110 (by decide +kernel) (va_put (ci := 12) (v := .int 2) (ty := .int) (C := RX12) (T := TX12) (N := 60) hx hb hts hw12 tyX12 tyX12_ok nmX12 hown hK hP hD hS 0 rfl rfl 16 (by decide +kernel) (hts _ mm_X12_next_846) (fun _ h9 => h9) rfl (by decide +kernel) (by first | rfl | decide) (by first | rfl | decide) (Nat.le_of_ble_eq_true rfl) dX12_next_114 (fun H locs hP0 hD0 hS0 => ?_)))
              replace hP : va_P D vwCl [(cc_O m0 12 [m_0, m_1, m_2, m_3, m_4, m_5, m_6, m_7, m_8, m_9, m_10, m_11, .ref t0, .int ta, .int v_1944, .int v_1944, .int 2, .long 0, m_18, m_19, m_20, m_21, m_22, m_23, m_24, m_25, m_26, m_27, m_28, m_29, m_30, m_31, m_32, m_33, m_34, m_35, m_36, m_37, m_38, m_39, m_40, m_41, m_42, m_43, m_44, m_45, m_46, m_47, m_48, m_49, m_50, m_51, m_52, m_53, m_54, m_55, m_56, m_57, m_58, m_59]), (cc_l t0 (K 0) 400 ft)] H := hP0
              replace hD := as_D hP hD0 rfl
              replace hS := hS0
              clear hP0 hD0 hS0
              refine lv_aload_n hx hb dX12_next_117 rfl (lv_at hl 0 rfl) (va_get (ci := 12) (v := .int 2) (C := RX12) (T := TX12) (N := 60) hx hb hts hw12 hown hK hP 0 rfl rfl 16 (by decide +kernel) (hts _ mm_X12_next_846) (fun _ h9 => h9) rfl dX12_next_118 (lv_iconst (v := 3) hx hb dX12_next_121 (by decide +kernel) (lv_icmp_ne (tgt := 149) hx hb dX12_next_122 (by decide +kernel) (fun c_2269 => ?_) (fun c_2269 => absurd c_2269 (by decide +kernel)))))
              refine lv_aload_n hx hb dX12_next_149 rfl (lv_at hl 0 rfl) (va_get (ci := 12) (v := .int 2) (C := RX12) (T := TX12) (N := 60) hx hb hts hw12 hown hK hP 0 rfl rfl 16 (by decide +kernel) (hts _ mm_X12_next_846) (fun _ h9 => h9) rfl dX12_next_150 (lv_iconst (v := 1) hx hb dX12_next_153 (by decide +kernel) (lv_icmp_ne (tgt := 243) hx hb dX12_next_154 (by decide +kernel) (fun c_2270 => ?_) (fun c_2270 => absurd c_2270 (by decide +kernel)))))
              refine lv_aload_n hx hb dX12_next_243 rfl (lv_at hl 0 rfl) (va_get (ci := 12) (v := .int 2) (C := RX12) (T := TX12) (N := 60) hx hb hts hw12 hown hK hP 0 rfl rfl 16 (by decide +kernel) (hts _ mm_X12_next_846) (fun _ h9 => h9) rfl dX12_next_244 (lv_iconst (v := 2) hx hb dX12_next_247 (by decide +kernel) (lv_icmp_ne (tgt := 335) hx hb dX12_next_248 (by decide +kernel) (fun c_2271 => absurd (by decide +kernel) c_2271) (fun c_2271 => ?_))))
              refine lv_aload_n hx hb dX12_next_251 rfl (lv_at hl 0 rfl) (va_get (ci := 12) (v := .int v_1944) (C := RX12) (T := TX12) (N := 60) hx hb hts hw12 hown hK hP 0 rfl rfl 15 (by decide +kernel) (hts _ mm_X12_next_845) (fun _ h9 => h9) rfl dX12_next_252 (lv_aload_n hx hb dX12_next_255 rfl (lv_at hl 0 rfl) (va_get (ci := 12) (v := .int ta) (C := RX12) (T := TX12) (N := 60) hx hb hts hw12 hown hK hP 0 rfl rfl 13 (by decide +kernel) (hts _ mm_X12_next_843) (fun _ h9 => h9) rfl dX12_next_256 (lv_icmp_ge (tgt := 335) hx hb dX12_next_259 (by decide +kernel) (fun c_2272 => ?_) (fun c_2272 => ?_)))))
              · have c_2272i := i_le (x := ta.toInt) (y := v_1944.toInt) rfl rfl c_2272
                replace hE := hE.trans (if_pos c_2272)
                rw [← hQ]
                have hP9 := hP.sub (ws' := [(cc_O m0 12 [m_0, m_1, m_2, m_3, m_4, m_5, m_6, m_7, m_8, m_9, m_10, m_11, .ref t0, .int ta, .int v_1944, .int v_1944, .int 2, .long 0, m_18, m_19, m_20, m_21, m_22, m_23, m_24, m_25, m_26, m_27, m_28, m_29, m_30, m_31, m_32, m_33, m_34, m_35, m_36, m_37, m_38, m_39, m_40, m_41, m_42, m_43, m_44, m_45, m_46, m_47, m_48, m_49, m_50, m_51, m_52, m_53, m_54, m_55, m_56, m_57, m_58, m_59]), (cc_l t0 (K 0) 400 ft)]) [0, 1] rfl
                have hD9 := sub_D hP9 hD [0, 1] (by decide +kernel) rfl
                exact W.vret hx hb hr (fun t ht hW => ⟨⟨((fun _ => 0, fun _ => fun _ => 0, fun _ => fun _ => 0, fun i => match i with | 0 => v_1944 | 1 => v_1944 | _ => 2, fun i => match i with | _ => 0, fun _ => fun _ => none) : Su), rfl, ⟨(show 0 ≤ (v_1944 : Int32).toInt ∧ (v_1944 : Int32).toInt ≤ 400 by omega), (show 0 ≤ (v_1944 : Int32).toInt ∧ (v_1944 : Int32).toInt ≤ 401 by omega), (show 0 ≤ (2 : Int32).toInt ∧ (2 : Int32).toInt ≤ 3 by decide), hE.symm, (show ((0 ≤ (v_1944 : Int32).toInt ∧ (v_1944 : Int32).toInt ≤ (v_1944 : Int32).toInt ∧ (v_1944 : Int32).toInt ≤ ta.toInt) ∧ (2 = 0 ∨ (v_1944 : Int32).toInt < (v_1944 : Int32).toInt) ∧ (2 ≠ 1 ∨ (v_1944 : Int32).toInt + 1 < (v_1944 : Int32).toInt ∨ 0 ≤ 26)) by omega), (show to.toInt ≤ (v_1944 : Int32).toInt by omega), trivial⟩, (⟨by rw [ht]; exact hP9, hD9⟩ : Wd D A _ t)⟩, hS.F ht⟩) hS.2.2 dX12_next_335
              · have c_2272i := i_nle (x := ta.toInt) (y := v_1944.toInt) rfl rfl c_2272
                replace hE := hE.trans (if_neg c_2272)
                refine lv_aload_n hx hb dX12_next_262 rfl (lv_at hl 0 rfl) (va_get (ci := 12) (v := .ref t0) (C := RX12) (T := TX12) (N := 60) hx hb hts hw12 hown hK hP 0 rfl rfl 12 (by decide +kernel) (hts _ mm_X12_next_842) (fun _ h9 => h9) rfl dX12_next_263 (lv_aload_n hx hb dX12_next_266 rfl (lv_at hl 0 rfl) (va_get (ci := 12) (v := .int v_1944) (C := RX12) (T := TX12) (N := 60) hx hb hts hw12 hown hK hP 0 rfl rfl 15 (by decide +kernel) (hts _ mm_X12_next_845) (fun _ h9 => h9) rfl dX12_next_267 (va_iald hx hb hK hP 1 0 rfl rfl (i_in rfl (by omega)) dX12_next_270 (lv_topi (fun x_2273 ex_2273 => ?_))))))
                replace hE := hE.trans (Lt_in ex_2273)
                have erx_2273 : x_2273 = x_1958 := ex_2273.trans (by rw [i_clamp rfl]; exact kx_1958)
                have hrx_2273 : x_2273.toInt = x_1958.toInt := (congrArg Int32.toInt erx_2273).trans rfl
                refine pci (va_runS (As := [.int x_2273]) (rest := []) ⟨hx, hb, hml, hown, hts⟩ (v_isDigit l D K x_1958.toInt x_2273 H.size hrx_2273) (va_cwS 1 hts gX12_next_X12_isDigit rfl rfl rfl (by decide +kernel) ⟨Nat.le_of_ble_eq_true rfl, Nat.le_of_ble_eq_true rfl⟩) (mkS hK hN (va_P.nil) (va_D.nil (A := fun _ => True))) rfl rfl hl.1 rfl (lv_room (Nat.le_of_ble_eq_true rfl)) dX12_next_271 ⟨Nat.le_of_ble_eq_true rfl, Nat.le_of_ble_eq_true rfl⟩) (fun r_2274 hw => ?_)
                obtain ⟨hw, k_2275, -⟩ := hw
                replace hE := hE.trans (Lt_in k_2275)
                rcases hw with ⟨rfl, h_2276, h_2277⟩ | ⟨rfl, h_2278⟩
                · replace hE := (hE).trans (if_pos rfl)
                  refine lv_if_eq (tgt := 335) hx hb dX12_next_274 (by decide +kernel) (fun c_2279 => absurd c_2279 (by decide +kernel)) (fun c_2279 => ?_)
                  refine lv_aload_n hx hb dX12_next_277 rfl (lv_at hl 0 rfl) (lv_aload_n hx hb dX12_next_278 rfl (lv_at hl 0 rfl) (va_get (ci := 12) (v := .long 0) (C := RX12) (T := TX12) (N := 60) hx hb hts hw12 hown hK hP 0 rfl rfl 17 (by decide +kernel) (hts _ mm_X12_next_847) (fun _ h9 => h9) rfl dX12_next_279 (lv_ldc2 (v := 1000000) hx hb hown (hts _ mm_X12_next_1091) dX12_next_282 ?_)))
                  refine W.lcmp hx hb dX12_next_285 ?_
                  refine lv_if_le (tgt := 296) hx hb dX12_next_286 (by decide +kernel) (fun c_2280 => ?_) (fun c_2280 => absurd (by decide +kernel) c_2280)
                  refine lv_aload_n hx hb dX12_next_296 rfl (lv_at hl 0 rfl) (va_get (ci := 12) (v := .long 0) (C := RX12) (T := TX12) (N := 60) hx hb hts hw12 hown hK hP 0 rfl rfl 17 (by decide +kernel) (hts _ mm_X12_next_847) (fun _ h9 => h9) rfl dX12_next_297 (lv_ldc2 (v := 10) hx hb hown (hts _ mm_X12_next_1045) dX12_next_300 (lv_lmul hx hb dX12_next_303 (lv_topl (fun x_2281 ex_2281 => ?_)))))
                  obtain rfl : x_2281 = 0 := ex_2281.trans (by first | rfl | decide)
                  refine lv_aload_n hx hb dX12_next_304 rfl (lv_at hl 0 rfl) (va_get (ci := 12) (v := .ref t0) (C := RX12) (T := TX12) (N := 60) hx hb hts hw12 hown hK hP 0 rfl rfl 12 (by decide +kernel) (hts _ mm_X12_next_842) (fun _ h9 => h9) rfl dX12_next_305 (lv_aload_n hx hb dX12_next_308 rfl (lv_at hl 0 rfl) (va_get (ci := 12) (v := .int v_1944) (C := RX12) (T := TX12) (N := 60) hx hb hts hw12 hown hK hP 0 rfl rfl 15 (by decide +kernel) (hts _ mm_X12_next_845) (fun _ h9 => h9) rfl dX12_next_309 (va_iald hx hb hK hP 1 0 rfl rfl (i_in rfl (by omega)) dX12_next_312 (lv_topi (fun x_2282 ex_2282 => ?_))))))
                  replace hE := hE.trans (Lt_in ex_2282)
                  have erx_2282 : x_2282 = x_1958 := ex_2282.trans (by rw [i_clamp rfl]; exact kx_1958)
                  have hrx_2282 : x_2282.toInt = x_1958.toInt := (congrArg Int32.toInt erx_2282).trans rfl
                  refine lv_i2l hx hb dX12_next_313 rfl (lv_topl (fun x_2283 ex_2283 => ?_))
                  replace hE := hE.trans (Lt_in ex_2283)
                  have hx_2283 : x_2283.toInt = x_1958.toInt := by rw [ex_2283]; exact i_wide hrx_2282
                  refine lv_ladd hx hb dX12_next_314 (lv_topl (fun x_2284 ex_2284 => ?_))
                  replace hE := hE.trans (Lt_in ex_2284)
                  have hx_2284 : x_2284.toInt = (0 + x_1958.toInt) := by rw [ex_2284]; exact l_add (show (0 : Int64).toInt = 0 from rfl) hx_2283 (by omega)
                  refine lv_ldc2 (v := 48) hx hb hown (hts _ mm_X12_next_1092) dX12_next_315 (lv_lsub hx hb dX12_next_318 (lv_topl (fun x_2285 ex_2285 => ?_)))
                  replace hE := hE.trans (Lt_in ex_2285)
                  have hx_2285 : x_2285.toInt = ((0 + x_1958.toInt) - 48) := by rw [ex_2285]; exact l_sub hx_2284 (show (48 : Int64).toInt = 48 from rfl) (by omega)
                  refine va_put (ci := 12) (v := .long x_2285) (ty := .long) (C := RX12) (T := TX12) (N := 60) hx hb hts hw12 tyX12 tyX12_ok nmX12 hown hK hP hD hS 0 rfl rfl 17 (by decide +kernel) (hts _ mm_X12_next_847) (fun _ h9 => h9) rfl (by decide +kernel) (by first | rfl | decide) (by first | rfl | decide) (Nat.le_of_ble_eq_true rfl) dX12_next_319 (fun H locs hP0 hD0 hS0 => ?_)
                  replace hP : va_P D vwCl [(cc_O m0 12 [m_0, m_1, m_2, m_3, m_4, m_5, m_6, m_7, m_8, m_9, m_10, m_11, .ref t0, .int ta, .int v_1944, .int v_1944, .int 2, .long x_2285, m_18, m_19, m_20, m_21, m_22, m_23, m_24, m_25, m_26, m_27, m_28, m_29, m_30, m_31, m_32, m_33, m_34, m_35, m_36, m_37, m_38, m_39, m_40, m_41, m_42, m_43, m_44, m_45, m_46, m_47, m_48, m_49, m_50, m_51, m_52, m_53, m_54, m_55, m_56, m_57, m_58, m_59]), (cc_l t0 (K 0) 400 ft)] H := hP0
                  replace hD := as_D hP hD0 rfl
                  replace hS := hS0
                  clear hP0 hD0 hS0
                  refine lv_aload_n hx hb dX12_next_322 rfl (lv_at hl 0 rfl) (lv_dup hx hb dX12_next_323 rfl (va_get (ci := 12) (v := .int v_1944) (C := RX12) (T := TX12) (N := 60) hx hb hts hw12 hown hK hP 0 rfl rfl 15 (by decide +kernel) (hts _ mm_X12_next_845) (fun _ h9 => h9) rfl dX12_next_324 (lv_iconst (v := 1) hx hb dX12_next_327 (by decide +kernel) (lv_iadd hx hb dX12_next_328 (lv_topi (fun x_2286 ex_2286 => ?_))))))
                  replace hE := hE.trans (Lt_in ex_2286)
                  have hx_2286 : x_2286.toInt = (v_1944.toInt + 1) := by rw [ex_2286]; exact i_add rfl (show (1 : Int32).toInt = 1 from rfl) (by omega)
                  refine va_put (ci := 12) (v := .int x_2286) (ty := .int) (C := RX12) (T := TX12) (N := 60) hx hb hts hw12 tyX12 tyX12_ok nmX12 hown hK hP hD hS 0 rfl rfl 15 (by decide +kernel) (hts _ mm_X12_next_845) (fun _ h9 => h9) rfl (by decide +kernel) (by first | rfl | decide) (by first | rfl | decide) (Nat.le_of_ble_eq_true rfl) dX12_next_329 (fun H locs hP0 hD0 hS0 => ?_)
                  replace hP : va_P D vwCl [(cc_O m0 12 [m_0, m_1, m_2, m_3, m_4, m_5, m_6, m_7, m_8, m_9, m_10, m_11, .ref t0, .int ta, .int v_1944, .int x_2286, .int 2, .long x_2285, m_18, m_19, m_20, m_21, m_22, m_23, m_24, m_25, m_26, m_27, m_28, m_29, m_30, m_31, m_32, m_33, m_34, m_35, m_36, m_37, m_38, m_39, m_40, m_41, m_42, m_43, m_44, m_45, m_46, m_47, m_48, m_49, m_50, m_51, m_52, m_53, m_54, m_55, m_56, m_57, m_58, m_59]), (cc_l t0 (K 0) 400 ft)] H := hP0
                  replace hD := as_D hP hD0 rfl
                  replace hS := hS0
                  clear hP0 hD0 hS0
                  refine lv_goto (tgt := 243) hx hb dX12_next_332 (by decide +kernel) ?_
                  have lp_2383 : ∀ (nn_ : Nat) (v_2343 : Int32) (v_2344 : Int64) (hv_2343 : 1 ≤ v_2343.toInt ∧ v_2343.toInt ≤ 400) (hv_2344 : 0 ≤ v_2344.toInt) (hr0_lp_2383 : v_1944.toInt < v_2343.toInt ∧ v_2343.toInt ≤ ta.toInt) (hn : (ta.toInt - v_2343.toInt : Int).toNat < nn_) (hE : E_v_next ta fr to so wo ft = Lp (α := Int32 → Int64 → (Int32 × Int32 × Int32 × Int64)) (E_v_next_l243 ta ft v_1944) (fun _ _ => ((0, 0, 0, 0) : Int32 × Int32 × Int32 × Int64)) nn_ v_2343 v_2344) (H : Heap) (locs : List Loc) (hP : va_P D vwCl [(cc_O m0 12 [m_0, m_1, m_2, m_3, m_4, m_5, m_6, m_7, m_8, m_9, m_10, m_11, .ref t0, .int ta, .int v_1944, .int v_2343, .int 2, .long v_2344, m_18, m_19, m_20, m_21, m_22, m_23, m_24, m_25, m_26, m_27, m_28, m_29, m_30, m_31, m_32, m_33, m_34, m_35, m_36, m_37, m_38, m_39, m_40, m_41, m_42, m_43, m_44, m_45, m_46, m_47, m_48, m_49, m_50, m_51, m_52, m_53, m_54, m_55, m_56, m_57, m_58, m_59]), (cc_l t0 (K 0) 400 ft)] H) (hD : va_D A [(cc_O m0 12 [m_0, m_1, m_2, m_3, m_4, m_5, m_6, m_7, m_8, m_9, m_10, m_11, .ref t0, .int ta, .int v_1944, .int v_2343, .int 2, .long v_2344, m_18, m_19, m_20, m_21, m_22, m_23, m_24, m_25, m_26, m_27, m_28, m_29, m_30, m_31, m_32, m_33, m_34, m_35, m_36, m_37, m_38, m_39, m_40, m_41, m_42, m_43, m_44, m_45, m_46, m_47, m_48, m_49, m_50, m_51, m_52, m_53, m_54, m_55, m_56, m_57, m_58, m_59]), (cc_l t0 (K 0) 400 ft)]) (hS : va_S A s.heap H locs) (ls : Array Slot) (hl : lv_has ls 1 [(0, .ref m0)]), W p l e ({ frames := 1, cells := 0, slots := 0, locals := 20 }) s m (([.ref m0] : List Value).toArray) below meth c H locs 0 0 Q (F0 m 243 ls []) := by
                    clear hE hP hD hS hl
                    intro nn_
                    induction nn_ with
                    | zero =>
                      intro v_2343 v_2344 hv_2343 hv_2344 hr0_lp_2383 hn hE H locs hP hD hS ls hl
                      exact absurd hn (Nat.not_lt_zero _)
                    | succ nn_ ih_2384 =>
                      intro v_2343 v_2344 hv_2343 hv_2344 hr0_lp_2383 hn hE H locs hP hD hS ls hl
                      replace hE : E_v_next ta fr to so wo ft = E_v_next_l243 ta ft v_1944 (Lp (α := Int32 → Int64 → (Int32 × Int32 × Int32 × Int64)) (E_v_next_l243 ta ft v_1944) (fun _ _ => ((0, 0, 0, 0) : Int32 × Int32 × Int32 × Int64)) nn_) v_2343 v_2344 := hE
                      obtain ⟨rec_2383, hrec_2383⟩ : ∃ z9, z9 = Lp (α := Int32 → Int64 → (Int32 × Int32 × Int32 × Int64)) (E_v_next_l243 ta ft v_1944) (fun _ _ => ((0, 0, 0, 0) : Int32 × Int32 × Int32 × Int64)) nn_ := ⟨_, rfl⟩
                      rw [← hrec_2383] at hE
                      replace hE := hE.trans (E_v_next_l243.eq_def _ _ _ _ _ _)
                      refine lv_aload_n hx hb dX12_next_243 rfl (lv_at hl 0 rfl) (va_get (ci := 12) (v := .int 2) (C := RX12) (T := TX12) (N := 60) hx hb hts hw12 hown hK hP 0 rfl rfl 16 (by decide +kernel) (hts _ mm_X12_next_846) (fun _ h9 => h9) rfl dX12_next_244 (lv_iconst (v := 2) hx hb dX12_next_247 (by decide +kernel) (lv_icmp_ne (tgt := 335) hx hb dX12_next_248 (by decide +kernel) (fun c_2385 => absurd (by decide +kernel) c_2385) (fun c_2385 => ?_))))
                      refine lv_aload_n hx hb dX12_next_251 rfl (lv_at hl 0 rfl) (va_get (ci := 12) (v := .int v_2343) (C := RX12) (T := TX12) (N := 60) hx hb hts hw12 hown hK hP 0 rfl rfl 15 (by decide +kernel) (hts _ mm_X12_next_845) (fun _ h9 => h9) rfl dX12_next_252 (lv_aload_n hx hb dX12_next_255 rfl (lv_at hl 0 rfl) (va_get (ci := 12) (v := .int ta) (C := RX12) (T := TX12) (N := 60) hx hb hts hw12 hown hK hP 0 rfl rfl 13 (by decide +kernel) (hts _ mm_X12_next_843) (fun _ h9 => h9) rfl dX12_next_256 (lv_icmp_ge (tgt := 335) hx hb dX12_next_259 (by decide +kernel) (fun c_2386 => ?_) (fun c_2386 => ?_)))))
                      · have c_2386i := i_le (x := ta.toInt) (y := v_2343.toInt) rfl rfl c_2386
                        replace hE := hE.trans (if_pos c_2386)
                        rw [← hQ]
                        have hP9 := hP.sub (ws' := [(cc_O m0 12 [m_0, m_1, m_2, m_3, m_4, m_5, m_6, m_7, m_8, m_9, m_10, m_11, .ref t0, .int ta, .int v_1944, .int v_2343, .int 2, .long v_2344, m_18, m_19, m_20, m_21, m_22, m_23, m_24, m_25, m_26, m_27, m_28, m_29, m_30, m_31, m_32, m_33, m_34, m_35, m_36, m_37, m_38, m_39, m_40, m_41, m_42, m_43, m_44, m_45, m_46, m_47, m_48, m_49, m_50, m_51, m_52, m_53, m_54, m_55, m_56, m_57, m_58, m_59]), (cc_l t0 (K 0) 400 ft)]) [0, 1] rfl
                        have hD9 := sub_D hP9 hD [0, 1] (by decide +kernel) rfl
                        exact W.vret hx hb hr (fun t ht hW => ⟨⟨((fun _ => 0, fun _ => fun _ => 0, fun _ => fun _ => 0, fun i => match i with | 0 => v_1944 | 1 => v_2343 | _ => 2, fun i => match i with | _ => v_2344, fun _ => fun _ => none) : Su), rfl, ⟨(show 0 ≤ (v_1944 : Int32).toInt ∧ (v_1944 : Int32).toInt ≤ 400 by omega), (show 0 ≤ (v_2343 : Int32).toInt ∧ (v_2343 : Int32).toInt ≤ 401 by omega), (show 0 ≤ (2 : Int32).toInt ∧ (2 : Int32).toInt ≤ 3 by decide), hE.symm, (show ((0 ≤ (v_1944 : Int32).toInt ∧ (v_1944 : Int32).toInt ≤ (v_2343 : Int32).toInt ∧ (v_2343 : Int32).toInt ≤ ta.toInt) ∧ (2 = 0 ∨ (v_1944 : Int32).toInt < (v_2343 : Int32).toInt) ∧ (2 ≠ 1 ∨ (v_1944 : Int32).toInt + 1 < (v_2343 : Int32).toInt ∨ (v_2344 : Int64).toInt ≤ 26)) by omega), (show to.toInt ≤ (v_1944 : Int32).toInt by omega), trivial⟩, (⟨by rw [ht]; exact hP9, hD9⟩ : Wd D A _ t)⟩, hS.F ht⟩) hS.2.2 dX12_next_335
                      · have c_2386i := i_nle (x := ta.toInt) (y := v_2343.toInt) rfl rfl c_2386
                        replace hE := hE.trans (if_neg c_2386)
                        refine lv_aload_n hx hb dX12_next_262 rfl (lv_at hl 0 rfl) (va_get (ci := 12) (v := .ref t0) (C := RX12) (T := TX12) (N := 60) hx hb hts hw12 hown hK hP 0 rfl rfl 12 (by decide +kernel) (hts _ mm_X12_next_842) (fun _ h9 => h9) rfl dX12_next_263 (lv_aload_n hx hb dX12_next_266 rfl (lv_at hl 0 rfl) (va_get (ci := 12) (v := .int v_2343) (C := RX12) (T := TX12) (N := 60) hx hb hts hw12 hown hK hP 0 rfl rfl 15 (by decide +kernel) (hts _ mm_X12_next_845) (fun _ h9 => h9) rfl dX12_next_267 (va_iald hx hb hK hP 1 0 rfl rfl (i_in rfl (by omega)) dX12_next_270 (lv_topi (fun x_2387 ex_2387 => ?_))))))
                        replace hE := hE.trans (Lt_in ex_2387)
                        have kx_2387 : ft (v_2343.toInt).toNat = x_2387 := by rw [ex_2387, i_clamp rfl]
                        refine pci (va_runS (As := [.int x_2387]) (rest := []) ⟨hx, hb, hml, hown, hts⟩ (v_isDigit l D K x_2387.toInt x_2387 H.size rfl) (va_cwS 1 hts gX12_next_X12_isDigit rfl rfl rfl (by decide +kernel) ⟨Nat.le_of_ble_eq_true rfl, Nat.le_of_ble_eq_true rfl⟩) (mkS hK hN (va_P.nil) (va_D.nil (A := fun _ => True))) rfl rfl hl.1 rfl (lv_room (Nat.le_of_ble_eq_true rfl)) dX12_next_271 ⟨Nat.le_of_ble_eq_true rfl, Nat.le_of_ble_eq_true rfl⟩) (fun r_2388 hw => ?_)
                        obtain ⟨hw, k_2389, -⟩ := hw
                        replace hE := hE.trans (Lt_in k_2389)
                        rcases hw with ⟨rfl, h_2390, h_2391⟩ | ⟨rfl, h_2392⟩
                        · replace hE := (hE).trans (if_pos rfl)
                          refine lv_if_eq (tgt := 335) hx hb dX12_next_274 (by decide +kernel) (fun c_2393 => absurd c_2393 (by decide +kernel)) (fun c_2393 => ?_)
                          refine lv_aload_n hx hb dX12_next_277 rfl (lv_at hl 0 rfl) (lv_aload_n hx hb dX12_next_278 rfl (lv_at hl 0 rfl) (va_get (ci := 12) (v := .long v_2344) (C := RX12) (T := TX12) (N := 60) hx hb hts hw12 hown hK hP 0 rfl rfl 17 (by decide +kernel) (hts _ mm_X12_next_847) (fun _ h9 => h9) rfl dX12_next_279 (lv_ldc2 (v := 1000000) hx hb hown (hts _ mm_X12_next_1091) dX12_next_282 ?_)))
                          refine W.lcmp hx hb dX12_next_285 ?_
                          refine lv_if_le (tgt := 296) hx hb dX12_next_286 (by decide +kernel) (fun c_2394 => ?_) (fun c_2394 => ?_)
                          · have c_2394i := l_le (x := v_2344.toInt) (y := 1000000) rfl rfl ((lg_cmp_le v_2344 1000000).mp c_2394)
                            replace hE := hE.trans (if_pos c_2394)
                            refine lv_aload_n hx hb dX12_next_296 rfl (lv_at hl 0 rfl) (va_get (ci := 12) (v := .long v_2344) (C := RX12) (T := TX12) (N := 60) hx hb hts hw12 hown hK hP 0 rfl rfl 17 (by decide +kernel) (hts _ mm_X12_next_847) (fun _ h9 => h9) rfl dX12_next_297 (lv_ldc2 (v := 10) hx hb hown (hts _ mm_X12_next_1045) dX12_next_300 (lv_lmul hx hb dX12_next_303 (lv_topl (fun x_2395 ex_2395 => ?_)))))
                            replace hE := hE.trans (Lt_in ex_2395)
                            have hx_2395 : x_2395.toInt = (v_2344.toInt * 10) := by rw [ex_2395]; exact l_mul rfl (show (10 : Int64).toInt = 10 from rfl) (by omega)
                            refine lv_aload_n hx hb dX12_next_304 rfl (lv_at hl 0 rfl) (va_get (ci := 12) (v := .ref t0) (C := RX12) (T := TX12) (N := 60) hx hb hts hw12 hown hK hP 0 rfl rfl 12 (by decide +kernel) (hts _ mm_X12_next_842) (fun _ h9 => h9) rfl dX12_next_305 (lv_aload_n hx hb dX12_next_308 rfl (lv_at hl 0 rfl) (va_get (ci := 12) (v := .int v_2343) (C := RX12) (T := TX12) (N := 60) hx hb hts hw12 hown hK hP 0 rfl rfl 15 (by decide +kernel) (hts _ mm_X12_next_845) (fun _ h9 => h9) rfl dX12_next_309 (va_iald hx hb hK hP 1 0 rfl rfl (i_in rfl (by omega)) dX12_next_312 (lv_topi (fun x_2396 ex_2396 => ?_))))))
                            replace hE := hE.trans (Lt_in ex_2396)
                            have erx_2396 : x_2396 = x_2387 := ex_2396.trans (by rw [i_clamp rfl]; exact kx_2387)
                            have hrx_2396 : x_2396.toInt = x_2387.toInt := (congrArg Int32.toInt erx_2396).trans rfl
                            refine lv_i2l hx hb dX12_next_313 rfl (lv_topl (fun x_2397 ex_2397 => ?_))
                            replace hE := hE.trans (Lt_in ex_2397)
                            have hx_2397 : x_2397.toInt = x_2387.toInt := by rw [ex_2397]; exact i_wide hrx_2396
                            refine lv_ladd hx hb dX12_next_314 (lv_topl (fun x_2398 ex_2398 => ?_))
                            replace hE := hE.trans (Lt_in ex_2398)
                            have hx_2398 : x_2398.toInt = ((v_2344.toInt * 10) + x_2387.toInt) := by rw [ex_2398]; exact l_add hx_2395 hx_2397 (by omega)
                            refine lv_ldc2 (v := 48) hx hb hown (hts _ mm_X12_next_1092) dX12_next_315 (lv_lsub hx hb dX12_next_318 (lv_topl (fun x_2399 ex_2399 => ?_)))
                            replace hE := hE.trans (Lt_in ex_2399)
                            have hx_2399 : x_2399.toInt = (((v_2344.toInt * 10) + x_2387.toInt) - 48) := by rw [ex_2399]; exact l_sub hx_2398 (show (48 : Int64).toInt = 48 from rfl) (by omega)
                            refine va_put (ci := 12) (v := .long x_2399) (ty := .long) (C := RX12) (T := TX12) (N := 60) hx hb hts hw12 tyX12 tyX12_ok nmX12 hown hK hP hD hS 0 rfl rfl 17 (by decide +kernel) (hts _ mm_X12_next_847) (fun _ h9 => h9) rfl (by decide +kernel) (by first | rfl | decide) (by first | rfl | decide) (Nat.le_of_ble_eq_true rfl) dX12_next_319 (fun H locs hP0 hD0 hS0 => ?_)
                            replace hP : va_P D vwCl [(cc_O m0 12 [m_0, m_1, m_2, m_3, m_4, m_5, m_6, m_7, m_8, m_9, m_10, m_11, .ref t0, .int ta, .int v_1944, .int v_2343, .int 2, .long x_2399, m_18, m_19, m_20, m_21, m_22, m_23, m_24, m_25, m_26, m_27, m_28, m_29, m_30, m_31, m_32, m_33, m_34, m_35, m_36, m_37, m_38, m_39, m_40, m_41, m_42, m_43, m_44, m_45, m_46, m_47, m_48, m_49, m_50, m_51, m_52, m_53, m_54, m_55, m_56, m_57, m_58, m_59]), (cc_l t0 (K 0) 400 ft)] H := hP0
                            replace hD := as_D hP hD0 rfl
                            replace hS := hS0
                            clear hP0 hD0 hS0
                            refine lv_aload_n hx hb dX12_next_322 rfl (lv_at hl 0 rfl) (lv_dup hx hb dX12_next_323 rfl (va_get (ci := 12) (v := .int v_2343) (C := RX12) (T := TX12) (N := 60) hx hb hts hw12 hown hK hP 0 rfl rfl 15 (by decide +kernel) (hts _ mm_X12_next_845) (fun _ h9 => h9) rfl dX12_next_324 (lv_iconst (v := 1) hx hb dX12_next_327 (by decide +kernel) (lv_iadd hx hb dX12_next_328 (lv_topi (fun x_2400 ex_2400 => ?_))))))
                            replace hE := hE.trans (Lt_in ex_2400)
                            have hx_2400 : x_2400.toInt = (v_2343.toInt + 1) := by rw [ex_2400]; exact i_add rfl (show (1 : Int32).toInt = 1 from rfl) (by omega)
                            refine va_put (ci := 12) (v := .int x_2400) (ty := .int) (C := RX12) (T := TX12) (N := 60) hx hb hts hw12 tyX12 tyX12_ok nmX12 hown hK hP hD hS 0 rfl rfl 15 (by decide +kernel) (hts _ mm_X12_next_845) (fun _ h9 => h9) rfl (by decide +kernel) (by first | rfl | decide) (by first | rfl | decide) (Nat.le_of_ble_eq_true rfl) dX12_next_329 (fun H locs hP0 hD0 hS0 => ?_)
                            replace hP : va_P D vwCl [(cc_O m0 12 [m_0, m_1, m_2, m_3, m_4, m_5, m_6, m_7, m_8, m_9, m_10, m_11, .ref t0, .int ta, .int v_1944, .int x_2400, .int 2, .long x_2399, m_18, m_19, m_20, m_21, m_22, m_23, m_24, m_25, m_26, m_27, m_28, m_29, m_30, m_31, m_32, m_33, m_34, m_35, m_36, m_37, m_38, m_39, m_40, m_41, m_42, m_43, m_44, m_45, m_46, m_47, m_48, m_49, m_50, m_51, m_52, m_53, m_54, m_55, m_56, m_57, m_58, m_59]), (cc_l t0 (K 0) 400 ft)] H := hP0
                            replace hD := as_D hP hD0 rfl
                            replace hS := hS0
                            clear hP0 hD0 hS0
                            refine lv_goto (tgt := 243) hx hb dX12_next_332 (by decide +kernel) ?_
                            exact ih_2384 x_2400 x_2399 (by rw [hx_2400]; omega) (by rw [hx_2399]; omega) (show v_1944.toInt < (x_2400 : Int32).toInt ∧ (x_2400 : Int32).toInt ≤ ta.toInt by omega) (by omega) (hE.trans (by rw [hrec_2383])) _ _ hP hD hS ls (lv_sub hl [0] rfl)
                          · have c_2394i := l_nle (x := v_2344.toInt) (y := 1000000) rfl rfl (fun q => c_2394 ((lg_cmp_le v_2344 1000000).mpr q))
                            replace hE := hE.trans (if_neg c_2394)
                            refine lv_aload_n hx hb dX12_next_289 rfl (lv_at hl 0 rfl) (va_get (ci := 12) (v := .long v_2344) (C := RX12) (T := TX12) (N := 60) hx hb hts hw12 hown hK hP 0 rfl rfl 17 (by decide +kernel) (hts _ mm_X12_next_847) (fun _ h9 => h9) rfl dX12_next_290 (lv_goto (tgt := 319) hx hb dX12_next_293 (by decide +kernel) (va_put (ci := 12) (v := .long v_2344) (ty := .long) (C := RX12) (T := TX12) (N := 60) hx hb hts hw12 tyX12 tyX12_ok nmX12 hown hK hP hD hS 0 rfl rfl 17 (by decide +kernel) (hts _ mm_X12_next_847) (fun _ h9 => h9) rfl (by decide +kernel) (by first | rfl | decide) (by first | rfl | decide) (Nat.le_of_ble_eq_true rfl) dX12_next_319 (fun H locs hP0 hD0 hS0 => ?_))))
                            replace hP : va_P D vwCl [(cc_O m0 12 [m_0, m_1, m_2, m_3, m_4, m_5, m_6, m_7, m_8, m_9, m_10, m_11, .ref t0, .int ta, .int v_1944, .int v_2343, .int 2, .long v_2344, m_18, m_19, m_20, m_21, m_22, m_23, m_24, m_25, m_26, m_27, m_28, m_29, m_30, m_31, m_32, m_33, m_34, m_35, m_36, m_37, m_38, m_39, m_40, m_41, m_42, m_43, m_44, m_45, m_46, m_47, m_48, m_49, m_50, m_51, m_52, m_53, m_54, m_55, m_56, m_57, m_58, m_59]), (cc_l t0 (K 0) 400 ft)] H := hP0
                            replace hD := as_D hP hD0 rfl
                            replace hS := hS0
                            clear hP0 hD0 hS0
                            refine lv_aload_n hx hb dX12_next_322 rfl (lv_at hl 0 rfl) (lv_dup hx hb dX12_next_323 rfl (va_get (ci := 12) (v := .int v_2343) (C := RX12) (T := TX12) (N := 60) hx hb hts hw12 hown hK hP 0 rfl rfl 15 (by decide +kernel) (hts _ mm_X12_next_845) (fun _ h9 => h9) rfl dX12_next_324 (lv_iconst (v := 1) hx hb dX12_next_327 (by decide +kernel) (lv_iadd hx hb dX12_next_328 (lv_topi (fun x_2401 ex_2401 => ?_))))))
                            replace hE := hE.trans (Lt_in ex_2401)
                            have hx_2401 : x_2401.toInt = (v_2343.toInt + 1) := by rw [ex_2401]; exact i_add rfl (show (1 : Int32).toInt = 1 from rfl) (by omega)
                            refine va_put (ci := 12) (v := .int x_2401) (ty := .int) (C := RX12) (T := TX12) (N := 60) hx hb hts hw12 tyX12 tyX12_ok nmX12 hown hK hP hD hS 0 rfl rfl 15 (by decide +kernel) (hts _ mm_X12_next_845) (fun _ h9 => h9) rfl (by decide +kernel) (by first | rfl | decide) (by first | rfl | decide) (Nat.le_of_ble_eq_true rfl) dX12_next_329 (fun H locs hP0 hD0 hS0 => ?_)
                            replace hP : va_P D vwCl [(cc_O m0 12 [m_0, m_1, m_2, m_3, m_4, m_5, m_6, m_7, m_8, m_9, m_10, m_11, .ref t0, .int ta, .int v_1944, .int x_2401, .int 2, .long v_2344, m_18, m_19, m_20, m_21, m_22, m_23, m_24, m_25, m_26, m_27, m_28, m_29, m_30, m_31, m_32, m_33, m_34, m_35, m_36, m_37, m_38, m_39, m_40, m_41, m_42, m_43, m_44, m_45, m_46, m_47, m_48, m_49, m_50, m_51, m_52, m_53, m_54, m_55, m_56, m_57, m_58, m_59]), (cc_l t0 (K 0) 400 ft)] H := hP0
                            replace hD := as_D hP hD0 rfl
                            replace hS := hS0
                            clear hP0 hD0 hS0
                            refine lv_goto (tgt := 243) hx hb dX12_next_332 (by decide +kernel) ?_
                            exact ih_2384 x_2401 v_2344 (by rw [hx_2401]; omega) (by omega) (show v_1944.toInt < (x_2401 : Int32).toInt ∧ (x_2401 : Int32).toInt ≤ ta.toInt by omega) (by omega) (hE.trans (by rw [hrec_2383])) _ _ hP hD hS ls (lv_sub hl [0] rfl)
                        · replace hE := (hE).trans (if_neg (by first | decide | (intro h9; have h8 := congrArg Int32.toInt h9; omega)))
                          refine lv_if_eq (tgt := 335) hx hb dX12_next_274 (by decide +kernel) (fun c_2402 => ?_) (fun c_2402 => absurd (by decide +kernel) c_2402)
                          rw [← hQ]
                          have hP9 := hP.sub (ws' := [(cc_O m0 12 [m_0, m_1, m_2, m_3, m_4, m_5, m_6, m_7, m_8, m_9, m_10, m_11, .ref t0, .int ta, .int v_1944, .int v_2343, .int 2, .long v_2344, m_18, m_19, m_20, m_21, m_22, m_23, m_24, m_25, m_26, m_27, m_28, m_29, m_30, m_31, m_32, m_33, m_34, m_35, m_36, m_37, m_38, m_39, m_40, m_41, m_42, m_43, m_44, m_45, m_46, m_47, m_48, m_49, m_50, m_51, m_52, m_53, m_54, m_55, m_56, m_57, m_58, m_59]), (cc_l t0 (K 0) 400 ft)]) [0, 1] rfl
                          have hD9 := sub_D hP9 hD [0, 1] (by decide +kernel) rfl
                          exact W.vret hx hb hr (fun t ht hW => ⟨⟨((fun _ => 0, fun _ => fun _ => 0, fun _ => fun _ => 0, fun i => match i with | 0 => v_1944 | 1 => v_2343 | _ => 2, fun i => match i with | _ => v_2344, fun _ => fun _ => none) : Su), rfl, ⟨(show 0 ≤ (v_1944 : Int32).toInt ∧ (v_1944 : Int32).toInt ≤ 400 by omega), (show 0 ≤ (v_2343 : Int32).toInt ∧ (v_2343 : Int32).toInt ≤ 401 by omega), (show 0 ≤ (2 : Int32).toInt ∧ (2 : Int32).toInt ≤ 3 by decide), hE.symm, (show ((0 ≤ (v_1944 : Int32).toInt ∧ (v_1944 : Int32).toInt ≤ (v_2343 : Int32).toInt ∧ (v_2343 : Int32).toInt ≤ ta.toInt) ∧ (2 = 0 ∨ (v_1944 : Int32).toInt < (v_2343 : Int32).toInt) ∧ (2 ≠ 1 ∨ (v_1944 : Int32).toInt + 1 < (v_2343 : Int32).toInt ∨ (v_2344 : Int64).toInt ≤ 26)) by omega), (show to.toInt ≤ (v_1944 : Int32).toInt by omega), trivial⟩, (⟨by rw [ht]; exact hP9, hD9⟩ : Wd D A _ t)⟩, hS.F ht⟩) hS.2.2 dX12_next_335
                  exact lp_2383 ((ta.toInt - (x_2286 : Int32).toInt : Int).toNat + 1) x_2286 x_2285 (by rw [hx_2286]; omega) (by rw [hx_2285]; omega) (show v_1944.toInt < (x_2286 : Int32).toInt ∧ (x_2286 : Int32).toInt ≤ ta.toInt by omega) (Nat.lt_succ_self _) hE _ _ hP hD hS ls (lv_sub hl [0] rfl)
                · replace hE := (hE).trans (if_neg (by first | decide | (intro h9; have h8 := congrArg Int32.toInt h9; omega)))
                  exfalso; omega
            · replace hE := (hE).trans (if_neg (by first | decide | (intro h9; have h8 := congrArg Int32.toInt h9; omega)))
              refine lv_if_eq (tgt := 113) hx hb dX12_next_106 (by decide +kernel) (fun c_2403 => ?_) (fun c_2403 => absurd (by decide +kernel) c_2403)
              refine lv_iconst (v := 3) hx hb dX12_next_113 (by decide +kernel) (va_put (ci := 12) (v := .int 3) (ty := .int) (C := RX12) (T := TX12) (N := 60) hx hb hts hw12 tyX12 tyX12_ok nmX12 hown hK hP hD hS 0 rfl rfl 16 (by decide +kernel) (hts _ mm_X12_next_846) (fun _ h9 => h9) rfl (by decide +kernel) (by first | rfl | decide) (by first | rfl | decide) (Nat.le_of_ble_eq_true rfl) dX12_next_114 (fun H locs hP0 hD0 hS0 => ?_))
              replace hP : va_P D vwCl [(cc_O m0 12 [m_0, m_1, m_2, m_3, m_4, m_5, m_6, m_7, m_8, m_9, m_10, m_11, .ref t0, .int ta, .int v_1944, .int v_1944, .int 3, .long 0, m_18, m_19, m_20, m_21, m_22, m_23, m_24, m_25, m_26, m_27, m_28, m_29, m_30, m_31, m_32, m_33, m_34, m_35, m_36, m_37, m_38, m_39, m_40, m_41, m_42, m_43, m_44, m_45, m_46, m_47, m_48, m_49, m_50, m_51, m_52, m_53, m_54, m_55, m_56, m_57, m_58, m_59]), (cc_l t0 (K 0) 400 ft)] H := hP0
              replace hD := as_D hP hD0 rfl
              replace hS := hS0
              clear hP0 hD0 hS0
              refine lv_aload_n hx hb dX12_next_117 rfl (lv_at hl 0 rfl) (va_get (ci := 12) (v := .int 3) (C := RX12) (T := TX12) (N := 60) hx hb hts hw12 hown hK hP 0 rfl rfl 16 (by decide +kernel) (hts _ mm_X12_next_846) (fun _ h9 => h9) rfl dX12_next_118 (lv_iconst (v := 3) hx hb dX12_next_121 (by decide +kernel) (lv_icmp_ne (tgt := 149) hx hb dX12_next_122 (by decide +kernel) (fun c_2404 => absurd (by decide +kernel) c_2404) (fun c_2404 => ?_))))
              refine lv_aload_n hx hb dX12_next_125 rfl (lv_at hl 0 rfl) (lv_aload_n hx hb dX12_next_126 rfl (lv_at hl 0 rfl) (va_get (ci := 12) (v := .ref t0) (C := RX12) (T := TX12) (N := 60) hx hb hts hw12 hown hK hP 0 rfl rfl 12 (by decide +kernel) (hts _ mm_X12_next_842) (fun _ h9 => h9) rfl dX12_next_127 (lv_aload_n hx hb dX12_next_130 rfl (lv_at hl 0 rfl) (va_get (ci := 12) (v := .int v_1944) (C := RX12) (T := TX12) (N := 60) hx hb hts hw12 hown hK hP 0 rfl rfl 14 (by decide +kernel) (hts _ mm_X12_next_844) (fun _ h9 => h9) rfl dX12_next_131 (va_iald hx hb hK hP 1 0 rfl rfl (i_in rfl (by omega)) dX12_next_134 (lv_topi (fun x_2405 ex_2405 => ?_)))))))
              replace hE := hE.trans (Lt_in ex_2405)
              have erx_2405 : x_2405 = x_1958 := ex_2405.trans (by rw [i_clamp rfl]; exact kx_1958)
              have hrx_2405 : x_2405.toInt = x_1958.toInt := (congrArg Int32.toInt erx_2405).trans rfl
              refine lv_i2l hx hb dX12_next_135 rfl (lv_topl (fun x_2406 ex_2406 => ?_))
              replace hE := hE.trans (Lt_in ex_2406)
              have hx_2406 : x_2406.toInt = x_1958.toInt := by rw [ex_2406]; exact i_wide hrx_2405
              have hbx_2406 := i_rng (a := x_2405) hrx_2405
              refine va_put (ci := 12) (v := .long x_2406) (ty := .long) (C := RX12) (T := TX12) (N := 60) hx hb hts hw12 tyX12 tyX12_ok nmX12 hown hK hP hD hS 0 rfl rfl 17 (by decide +kernel) (hts _ mm_X12_next_847) (fun _ h9 => h9) rfl (by decide +kernel) (by first | rfl | decide) (by first | rfl | decide) (Nat.le_of_ble_eq_true rfl) dX12_next_136 (fun H locs hP0 hD0 hS0 => ?_)
              replace hP : va_P D vwCl [(cc_O m0 12 [m_0, m_1, m_2, m_3, m_4, m_5, m_6, m_7, m_8, m_9, m_10, m_11, .ref t0, .int ta, .int v_1944, .int v_1944, .int 3, .long x_2406, m_18, m_19, m_20, m_21, m_22, m_23, m_24, m_25, m_26, m_27, m_28, m_29, m_30, m_31, m_32, m_33, m_34, m_35, m_36, m_37, m_38, m_39, m_40, m_41, m_42, m_43, m_44, m_45, m_46, m_47, m_48, m_49, m_50, m_51, m_52, m_53, m_54, m_55, m_56, m_57, m_58, m_59]), (cc_l t0 (K 0) 400 ft)] H := hP0
              replace hD := as_D hP hD0 rfl
              replace hS := hS0
              clear hP0 hD0 hS0
              refine lv_aload_n hx hb dX12_next_139 rfl (lv_at hl 0 rfl) (lv_dup hx hb dX12_next_140 rfl (va_get (ci := 12) (v := .int v_1944) (C := RX12) (T := TX12) (N := 60) hx hb hts hw12 hown hK hP 0 rfl rfl 15 (by decide +kernel) (hts _ mm_X12_next_845) (fun _ h9 => h9) rfl dX12_next_141 (lv_iconst (v := 1) hx hb dX12_next_144 (by decide +kernel) (lv_iadd hx hb dX12_next_145 (lv_topi (fun x_2407 ex_2407 => ?_))))))
              replace hE := hE.trans (Lt_in ex_2407)
              have hx_2407 : x_2407.toInt = (v_1944.toInt + 1) := by rw [ex_2407]; exact i_add rfl (show (1 : Int32).toInt = 1 from rfl) (by omega)
              refine va_put (ci := 12) (v := .int x_2407) (ty := .int) (C := RX12) (T := TX12) (N := 60) hx hb hts hw12 tyX12 tyX12_ok nmX12 hown hK hP hD hS 0 rfl rfl 15 (by decide +kernel) (hts _ mm_X12_next_845) (fun _ h9 => h9) rfl (by decide +kernel) (by first | rfl | decide) (by first | rfl | decide) (Nat.le_of_ble_eq_true rfl) dX12_next_146 (fun H locs hP0 hD0 hS0 => ?_)
              replace hP : va_P D vwCl [(cc_O m0 12 [m_0, m_1, m_2, m_3, m_4, m_5, m_6, m_7, m_8, m_9, m_10, m_11, .ref t0, .int ta, .int v_1944, .int x_2407, .int 3, .long x_2406, m_18, m_19, m_20, m_21, m_22, m_23, m_24, m_25, m_26, m_27, m_28, m_29, m_30, m_31, m_32, m_33, m_34, m_35, m_36, m_37, m_38, m_39, m_40, m_41, m_42, m_43, m_44, m_45, m_46, m_47, m_48, m_49, m_50, m_51, m_52, m_53, m_54, m_55, m_56, m_57, m_58, m_59]), (cc_l t0 (K 0) 400 ft)] H := hP0
              replace hD := as_D hP hD0 rfl
              replace hS := hS0
              clear hP0 hD0 hS0
              refine lv_aload_n hx hb dX12_next_149 rfl (lv_at hl 0 rfl) (va_get (ci := 12) (v := .int 3) (C := RX12) (T := TX12) (N := 60) hx hb hts hw12 hown hK hP 0 rfl rfl 16 (by decide +kernel) (hts _ mm_X12_next_846) (fun _ h9 => h9) rfl dX12_next_150 (lv_iconst (v := 1) hx hb dX12_next_153 (by decide +kernel) (lv_icmp_ne (tgt := 243) hx hb dX12_next_154 (by decide +kernel) (fun c_2408 => ?_) (fun c_2408 => absurd c_2408 (by decide +kernel)))))
              refine lv_aload_n hx hb dX12_next_243 rfl (lv_at hl 0 rfl) (va_get (ci := 12) (v := .int 3) (C := RX12) (T := TX12) (N := 60) hx hb hts hw12 hown hK hP 0 rfl rfl 16 (by decide +kernel) (hts _ mm_X12_next_846) (fun _ h9 => h9) rfl dX12_next_244 (lv_iconst (v := 2) hx hb dX12_next_247 (by decide +kernel) (lv_icmp_ne (tgt := 335) hx hb dX12_next_248 (by decide +kernel) (fun c_2409 => ?_) (fun c_2409 => absurd c_2409 (by decide +kernel)))))
              rw [← hQ]
              have hP9 := hP.sub (ws' := [(cc_O m0 12 [m_0, m_1, m_2, m_3, m_4, m_5, m_6, m_7, m_8, m_9, m_10, m_11, .ref t0, .int ta, .int v_1944, .int x_2407, .int 3, .long x_2406, m_18, m_19, m_20, m_21, m_22, m_23, m_24, m_25, m_26, m_27, m_28, m_29, m_30, m_31, m_32, m_33, m_34, m_35, m_36, m_37, m_38, m_39, m_40, m_41, m_42, m_43, m_44, m_45, m_46, m_47, m_48, m_49, m_50, m_51, m_52, m_53, m_54, m_55, m_56, m_57, m_58, m_59]), (cc_l t0 (K 0) 400 ft)]) [0, 1] rfl
              have hD9 := sub_D hP9 hD [0, 1] (by decide +kernel) rfl
              exact W.vret hx hb hr (fun t ht hW => ⟨⟨((fun _ => 0, fun _ => fun _ => 0, fun _ => fun _ => 0, fun i => match i with | 0 => v_1944 | 1 => x_2407 | _ => 3, fun i => match i with | _ => x_2406, fun _ => fun _ => none) : Su), rfl, ⟨(show 0 ≤ (v_1944 : Int32).toInt ∧ (v_1944 : Int32).toInt ≤ 400 by omega), (show 0 ≤ (x_2407 : Int32).toInt ∧ (x_2407 : Int32).toInt ≤ 401 by rw [hx_2407]; omega), (show 0 ≤ (3 : Int32).toInt ∧ (3 : Int32).toInt ≤ 3 by decide), hE.symm, (show ((0 ≤ (v_1944 : Int32).toInt ∧ (v_1944 : Int32).toInt ≤ (x_2407 : Int32).toInt ∧ (x_2407 : Int32).toInt ≤ ta.toInt) ∧ (3 = 0 ∨ (v_1944 : Int32).toInt < (x_2407 : Int32).toInt) ∧ (3 ≠ 1 ∨ (v_1944 : Int32).toInt + 1 < (x_2407 : Int32).toInt ∨ (x_2406 : Int64).toInt ≤ 26)) by omega), (show to.toInt ≤ (v_1944 : Int32).toInt by omega), trivial⟩, (⟨by rw [ht]; exact hP9, hD9⟩ : Wd D A _ t)⟩, hS.F ht⟩) hS.2.2 dX12_next_335
        · have c_1957i := i_eq (x := v_1944.toInt) (y := ta.toInt) rfl rfl c_1957
          replace hE := hE.trans (if_pos c_1957)
          refine lv_iconst (v := 0) hx hb dX12_next_71 (by decide +kernel) (lv_goto (tgt := 114) hx hb dX12_next_72 (by decide +kernel) (va_put (ci := 12) (v := .int 0) (ty := .int) (C := RX12) (T := TX12) (N := 60) hx hb hts hw12 tyX12 tyX12_ok nmX12 hown hK hP hD hS 0 rfl rfl 16 (by decide +kernel) (hts _ mm_X12_next_846) (fun _ h9 => h9) rfl (by decide +kernel) (by first | rfl | decide) (by first | rfl | decide) (Nat.le_of_ble_eq_true rfl) dX12_next_114 (fun H locs hP0 hD0 hS0 => ?_)))
          replace hP : va_P D vwCl [(cc_O m0 12 [m_0, m_1, m_2, m_3, m_4, m_5, m_6, m_7, m_8, m_9, m_10, m_11, .ref t0, .int ta, .int v_1944, .int v_1944, .int 0, .long 0, m_18, m_19, m_20, m_21, m_22, m_23, m_24, m_25, m_26, m_27, m_28, m_29, m_30, m_31, m_32, m_33, m_34, m_35, m_36, m_37, m_38, m_39, m_40, m_41, m_42, m_43, m_44, m_45, m_46, m_47, m_48, m_49, m_50, m_51, m_52, m_53, m_54, m_55, m_56, m_57, m_58, m_59]), (cc_l t0 (K 0) 400 ft)] H := hP0
          replace hD := as_D hP hD0 rfl
          replace hS := hS0
          clear hP0 hD0 hS0
          refine lv_aload_n hx hb dX12_next_117 rfl (lv_at hl 0 rfl) (va_get (ci := 12) (v := .int 0) (C := RX12) (T := TX12) (N := 60) hx hb hts hw12 hown hK hP 0 rfl rfl 16 (by decide +kernel) (hts _ mm_X12_next_846) (fun _ h9 => h9) rfl dX12_next_118 (lv_iconst (v := 3) hx hb dX12_next_121 (by decide +kernel) (lv_icmp_ne (tgt := 149) hx hb dX12_next_122 (by decide +kernel) (fun c_2410 => ?_) (fun c_2410 => absurd c_2410 (by decide +kernel)))))
          refine lv_aload_n hx hb dX12_next_149 rfl (lv_at hl 0 rfl) (va_get (ci := 12) (v := .int 0) (C := RX12) (T := TX12) (N := 60) hx hb hts hw12 hown hK hP 0 rfl rfl 16 (by decide +kernel) (hts _ mm_X12_next_846) (fun _ h9 => h9) rfl dX12_next_150 (lv_iconst (v := 1) hx hb dX12_next_153 (by decide +kernel) (lv_icmp_ne (tgt := 243) hx hb dX12_next_154 (by decide +kernel) (fun c_2411 => ?_) (fun c_2411 => absurd c_2411 (by decide +kernel)))))
          refine lv_aload_n hx hb dX12_next_243 rfl (lv_at hl 0 rfl) (va_get (ci := 12) (v := .int 0) (C := RX12) (T := TX12) (N := 60) hx hb hts hw12 hown hK hP 0 rfl rfl 16 (by decide +kernel) (hts _ mm_X12_next_846) (fun _ h9 => h9) rfl dX12_next_244 (lv_iconst (v := 2) hx hb dX12_next_247 (by decide +kernel) (lv_icmp_ne (tgt := 335) hx hb dX12_next_248 (by decide +kernel) (fun c_2412 => ?_) (fun c_2412 => absurd c_2412 (by decide +kernel)))))
          rw [← hQ]
          have hP9 := hP.sub (ws' := [(cc_O m0 12 [m_0, m_1, m_2, m_3, m_4, m_5, m_6, m_7, m_8, m_9, m_10, m_11, .ref t0, .int ta, .int v_1944, .int v_1944, .int 0, .long 0, m_18, m_19, m_20, m_21, m_22, m_23, m_24, m_25, m_26, m_27, m_28, m_29, m_30, m_31, m_32, m_33, m_34, m_35, m_36, m_37, m_38, m_39, m_40, m_41, m_42, m_43, m_44, m_45, m_46, m_47, m_48, m_49, m_50, m_51, m_52, m_53, m_54, m_55, m_56, m_57, m_58, m_59]), (cc_l t0 (K 0) 400 ft)]) [0, 1] rfl
          have hD9 := sub_D hP9 hD [0, 1] (by decide +kernel) rfl
          exact W.vret hx hb hr (fun t ht hW => ⟨⟨((fun _ => 0, fun _ => fun _ => 0, fun _ => fun _ => 0, fun i => match i with | 0 => v_1944 | 1 => v_1944 | _ => 0, fun i => match i with | _ => 0, fun _ => fun _ => none) : Su), rfl, ⟨(show 0 ≤ (v_1944 : Int32).toInt ∧ (v_1944 : Int32).toInt ≤ 400 by omega), (show 0 ≤ (v_1944 : Int32).toInt ∧ (v_1944 : Int32).toInt ≤ 401 by omega), (show 0 ≤ (0 : Int32).toInt ∧ (0 : Int32).toInt ≤ 3 by decide), hE.symm, (show ((0 ≤ (v_1944 : Int32).toInt ∧ (v_1944 : Int32).toInt ≤ (v_1944 : Int32).toInt ∧ (v_1944 : Int32).toInt ≤ ta.toInt) ∧ (0 = 0 ∨ (v_1944 : Int32).toInt < (v_1944 : Int32).toInt) ∧ (0 ≠ 1 ∨ (v_1944 : Int32).toInt + 1 < (v_1944 : Int32).toInt ∨ 0 ≤ 26)) by omega), (show to.toInt ≤ (v_1944 : Int32).toInt by omega), trivial⟩, (⟨by rw [ht]; exact hP9, hD9⟩ : Wd D A _ t)⟩, hS.F ht⟩) hS.2.2 dX12_next_335
      · have c_1956i := i_nle (x := ta.toInt) (y := v_1944.toInt) rfl rfl c_1956
        replace hE := hE.trans (if_neg c_1956)
        refine lv_aload_n hx hb dX12_next_19 rfl (lv_at hl 0 rfl) (va_get (ci := 12) (v := .ref t0) (C := RX12) (T := TX12) (N := 60) hx hb hts hw12 hown hK hP 0 rfl rfl 12 (by decide +kernel) (hts _ mm_X12_next_842) (fun _ h9 => h9) rfl dX12_next_20 (lv_aload_n hx hb dX12_next_23 rfl (lv_at hl 0 rfl) (va_get (ci := 12) (v := .int v_1944) (C := RX12) (T := TX12) (N := 60) hx hb hts hw12 hown hK hP 0 rfl rfl 14 (by decide +kernel) (hts _ mm_X12_next_844) (fun _ h9 => h9) rfl dX12_next_24 (va_iald hx hb hK hP 1 0 rfl rfl (i_in rfl (by omega)) dX12_next_27 (lv_topi (fun x_2413 ex_2413 => ?_))))))
        replace hE := hE.trans (Lt_in ex_2413)
        have kx_2413 : ft (v_1944.toInt).toNat = x_2413 := by rw [ex_2413, i_clamp rfl]
        refine lv_bipush (v := 32) hx hb dX12_next_28 (by decide +kernel) (lv_icmp_ne (tgt := 46) hx hb dX12_next_30 (by decide +kernel) (fun c_2414 => ?_) (fun c_2414 => ?_))
        · have c_2414i := i_ne (x := x_2413.toInt) (y := 32) rfl rfl c_2414
          replace hE := hE.trans (if_neg c_2414)
          refine lv_aload_n hx hb dX12_next_46 rfl (lv_at hl 0 rfl) (lv_aload_n hx hb dX12_next_47 rfl (lv_at hl 0 rfl) (va_get (ci := 12) (v := .int v_1944) (C := RX12) (T := TX12) (N := 60) hx hb hts hw12 hown hK hP 0 rfl rfl 14 (by decide +kernel) (hts _ mm_X12_next_844) (fun _ h9 => h9) rfl dX12_next_48 (va_put (ci := 12) (v := .int v_1944) (ty := .int) (C := RX12) (T := TX12) (N := 60) hx hb hts hw12 tyX12 tyX12_ok nmX12 hown hK hP hD hS 0 rfl rfl 15 (by decide +kernel) (hts _ mm_X12_next_845) (fun _ h9 => h9) rfl (by decide +kernel) (by first | rfl | decide) (by first | rfl | decide) (Nat.le_of_ble_eq_true rfl) dX12_next_51 (fun H locs hP0 hD0 hS0 => ?_))))
          replace hP : va_P D vwCl [(cc_O m0 12 [m_0, m_1, m_2, m_3, m_4, m_5, m_6, m_7, m_8, m_9, m_10, m_11, .ref t0, .int ta, .int v_1944, .int v_1944, .int so, .long wo, m_18, m_19, m_20, m_21, m_22, m_23, m_24, m_25, m_26, m_27, m_28, m_29, m_30, m_31, m_32, m_33, m_34, m_35, m_36, m_37, m_38, m_39, m_40, m_41, m_42, m_43, m_44, m_45, m_46, m_47, m_48, m_49, m_50, m_51, m_52, m_53, m_54, m_55, m_56, m_57, m_58, m_59]), (cc_l t0 (K 0) 400 ft)] H := hP0
          replace hD := as_D hP hD0 rfl
          replace hS := hS0
          clear hP0 hD0 hS0
          refine lv_aload_n hx hb dX12_next_54 rfl (lv_at hl 0 rfl) (lv_lconst (v := 0) hx hb dX12_next_55 (by decide +kernel) (va_put (ci := 12) (v := .long 0) (ty := .long) (C := RX12) (T := TX12) (N := 60) hx hb hts hw12 tyX12 tyX12_ok nmX12 hown hK hP hD hS 0 rfl rfl 17 (by decide +kernel) (hts _ mm_X12_next_847) (fun _ h9 => h9) rfl (by decide +kernel) (by first | rfl | decide) (by first | rfl | decide) (Nat.le_of_ble_eq_true rfl) dX12_next_56 (fun H locs hP0 hD0 hS0 => ?_)))
          replace hP : va_P D vwCl [(cc_O m0 12 [m_0, m_1, m_2, m_3, m_4, m_5, m_6, m_7, m_8, m_9, m_10, m_11, .ref t0, .int ta, .int v_1944, .int v_1944, .int so, .long 0, m_18, m_19, m_20, m_21, m_22, m_23, m_24, m_25, m_26, m_27, m_28, m_29, m_30, m_31, m_32, m_33, m_34, m_35, m_36, m_37, m_38, m_39, m_40, m_41, m_42, m_43, m_44, m_45, m_46, m_47, m_48, m_49, m_50, m_51, m_52, m_53, m_54, m_55, m_56, m_57, m_58, m_59]), (cc_l t0 (K 0) 400 ft)] H := hP0
          replace hD := as_D hP hD0 rfl
          replace hS := hS0
          clear hP0 hD0 hS0
          refine lv_aload_n hx hb dX12_next_59 rfl (lv_at hl 0 rfl) (lv_aload_n hx hb dX12_next_60 rfl (lv_at hl 0 rfl) (va_get (ci := 12) (v := .int v_1944) (C := RX12) (T := TX12) (N := 60) hx hb hts hw12 hown hK hP 0 rfl rfl 14 (by decide +kernel) (hts _ mm_X12_next_844) (fun _ h9 => h9) rfl dX12_next_61 (lv_aload_n hx hb dX12_next_64 rfl (lv_at hl 0 rfl) (va_get (ci := 12) (v := .int ta) (C := RX12) (T := TX12) (N := 60) hx hb hts hw12 hown hK hP 0 rfl rfl 13 (by decide +kernel) (hts _ mm_X12_next_843) (fun _ h9 => h9) rfl dX12_next_65 (lv_icmp_ne (tgt := 75) hx hb dX12_next_68 (by decide +kernel) (fun c_2415 => ?_) (fun c_2415 => ?_))))))
          · have c_2415i := i_ne (x := v_1944.toInt) (y := ta.toInt) rfl rfl c_2415
            replace hE := hE.trans (if_neg c_2415)
            refine lv_aload_n hx hb dX12_next_75 rfl (lv_at hl 0 rfl) (va_get (ci := 12) (v := .ref t0) (C := RX12) (T := TX12) (N := 60) hx hb hts hw12 hown hK hP 0 rfl rfl 12 (by decide +kernel) (hts _ mm_X12_next_842) (fun _ h9 => h9) rfl dX12_next_76 (lv_aload_n hx hb dX12_next_79 rfl (lv_at hl 0 rfl) (va_get (ci := 12) (v := .int v_1944) (C := RX12) (T := TX12) (N := 60) hx hb hts hw12 hown hK hP 0 rfl rfl 14 (by decide +kernel) (hts _ mm_X12_next_844) (fun _ h9 => h9) rfl dX12_next_80 (va_iald hx hb hK hP 1 0 rfl rfl (i_in rfl (by omega)) dX12_next_83 (lv_topi (fun x_2416 ex_2416 => ?_))))))
            replace hE := hE.trans (Lt_in ex_2416)
            have erx_2416 : x_2416 = x_2413 := ex_2416.trans (by rw [i_clamp rfl]; exact kx_2413)
            have hrx_2416 : x_2416.toInt = x_2413.toInt := (congrArg Int32.toInt erx_2416).trans rfl
            refine pci (va_runS (As := [.int x_2416]) (rest := [.ref m0]) ⟨hx, hb, hml, hown, hts⟩ (v_isSmall l D K x_2413.toInt x_2416 H.size hrx_2416) (va_cwS 1 hts gX12_next_X12_isSmall rfl rfl rfl (by decide +kernel) ⟨Nat.le_of_ble_eq_true rfl, Nat.le_of_ble_eq_true rfl⟩) (mkS hK hN (va_P.nil) (va_D.nil (A := fun _ => True))) rfl rfl hl.1 rfl (lv_room (Nat.le_of_ble_eq_true rfl)) dX12_next_84 ⟨Nat.le_of_ble_eq_true rfl, Nat.le_of_ble_eq_true rfl⟩) (fun r_2417 hw => ?_)
            obtain ⟨hw, k_2418, -⟩ := hw
            replace hE := hE.trans (Lt_in k_2418)
            rcases hw with ⟨rfl, h_2419, h_2420⟩ | ⟨rfl, h_2421⟩
            · replace hE := (hE).trans (if_pos rfl)
              refine lv_if_eq (tgt := 94) hx hb dX12_next_87 (by decide +kernel) (fun c_2422 => absurd c_2422 (by decide +kernel)) (fun c_2422 => ?_)
              refine lv_iconst (v := 1) hx hb dX12_next_90 (by decide +kernel) (lv_goto (tgt := 114) hx hb dX12_next_91 (by decide +kernel) (va_put (ci := 12) (v := .int 1) (ty := .int) (C := RX12) (T := TX12) (N := 60) hx hb hts hw12 tyX12 tyX12_ok nmX12 hown hK hP hD hS 0 rfl rfl 16 (by decide +kernel) (hts _ mm_X12_next_846) (fun _ h9 => h9) rfl (by decide +kernel) (by first | rfl | decide) (by first | rfl | decide) (Nat.le_of_ble_eq_true rfl) dX12_next_114 (fun H locs hP0 hD0 hS0 => ?_)))
              replace hP : va_P D vwCl [(cc_O m0 12 [m_0, m_1, m_2, m_3, m_4, m_5, m_6, m_7, m_8, m_9, m_10, m_11, .ref t0, .int ta, .int v_1944, .int v_1944, .int 1, .long 0, m_18, m_19, m_20, m_21, m_22, m_23, m_24, m_25, m_26, m_27, m_28, m_29, m_30, m_31, m_32, m_33, m_34, m_35, m_36, m_37, m_38, m_39, m_40, m_41, m_42, m_43, m_44, m_45, m_46, m_47, m_48, m_49, m_50, m_51, m_52, m_53, m_54, m_55, m_56, m_57, m_58, m_59]), (cc_l t0 (K 0) 400 ft)] H := hP0
              replace hD := as_D hP hD0 rfl
              replace hS := hS0
              clear hP0 hD0 hS0
              refine lv_aload_n hx hb dX12_next_117 rfl (lv_at hl 0 rfl) (va_get (ci := 12) (v := .int 1) (C := RX12) (T := TX12) (N := 60) hx hb hts hw12 hown hK hP 0 rfl rfl 16 (by decide +kernel) (hts _ mm_X12_next_846) (fun _ h9 => h9) rfl dX12_next_118 (lv_iconst (v := 3) hx hb dX12_next_121 (by decide +kernel) (lv_icmp_ne (tgt := 149) hx hb dX12_next_122 (by decide +kernel) (fun c_2423 => ?_) (fun c_2423 => absurd c_2423 (by decide +kernel)))))
              refine lv_aload_n hx hb dX12_next_149 rfl (lv_at hl 0 rfl) (va_get (ci := 12) (v := .int 1) (C := RX12) (T := TX12) (N := 60) hx hb hts hw12 hown hK hP 0 rfl rfl 16 (by decide +kernel) (hts _ mm_X12_next_846) (fun _ h9 => h9) rfl dX12_next_150 (lv_iconst (v := 1) hx hb dX12_next_153 (by decide +kernel) (lv_icmp_ne (tgt := 243) hx hb dX12_next_154 (by decide +kernel) (fun c_2424 => absurd (by decide +kernel) c_2424) (fun c_2424 => ?_))))
              refine lv_aload_n hx hb dX12_next_157 rfl (lv_at hl 0 rfl) (va_get (ci := 12) (v := .int v_1944) (C := RX12) (T := TX12) (N := 60) hx hb hts hw12 hown hK hP 0 rfl rfl 15 (by decide +kernel) (hts _ mm_X12_next_845) (fun _ h9 => h9) rfl dX12_next_158 (lv_aload_n hx hb dX12_next_161 rfl (lv_at hl 0 rfl) (va_get (ci := 12) (v := .int ta) (C := RX12) (T := TX12) (N := 60) hx hb hts hw12 hown hK hP 0 rfl rfl 13 (by decide +kernel) (hts _ mm_X12_next_843) (fun _ h9 => h9) rfl dX12_next_162 (lv_icmp_ge (tgt := 243) hx hb dX12_next_165 (by decide +kernel) (fun c_2425 => ?_) (fun c_2425 => ?_)))))
              · have c_2425i := i_le (x := ta.toInt) (y := v_1944.toInt) rfl rfl c_2425
                replace hE := hE.trans (if_pos c_2425)
                refine lv_aload_n hx hb dX12_next_243 rfl (lv_at hl 0 rfl) (va_get (ci := 12) (v := .int 1) (C := RX12) (T := TX12) (N := 60) hx hb hts hw12 hown hK hP 0 rfl rfl 16 (by decide +kernel) (hts _ mm_X12_next_846) (fun _ h9 => h9) rfl dX12_next_244 (lv_iconst (v := 2) hx hb dX12_next_247 (by decide +kernel) (lv_icmp_ne (tgt := 335) hx hb dX12_next_248 (by decide +kernel) (fun c_2426 => ?_) (fun c_2426 => absurd c_2426 (by decide +kernel)))))
                rw [← hQ]
                have hP9 := hP.sub (ws' := [(cc_O m0 12 [m_0, m_1, m_2, m_3, m_4, m_5, m_6, m_7, m_8, m_9, m_10, m_11, .ref t0, .int ta, .int v_1944, .int v_1944, .int 1, .long 0, m_18, m_19, m_20, m_21, m_22, m_23, m_24, m_25, m_26, m_27, m_28, m_29, m_30, m_31, m_32, m_33, m_34, m_35, m_36, m_37, m_38, m_39, m_40, m_41, m_42, m_43, m_44, m_45, m_46, m_47, m_48, m_49, m_50, m_51, m_52, m_53, m_54, m_55, m_56, m_57, m_58, m_59]), (cc_l t0 (K 0) 400 ft)]) [0, 1] rfl
                have hD9 := sub_D hP9 hD [0, 1] (by decide +kernel) rfl
                exact W.vret hx hb hr (fun t ht hW => ⟨⟨((fun _ => 0, fun _ => fun _ => 0, fun _ => fun _ => 0, fun i => match i with | 0 => v_1944 | 1 => v_1944 | _ => 1, fun i => match i with | _ => 0, fun _ => fun _ => none) : Su), rfl, ⟨(show 0 ≤ (v_1944 : Int32).toInt ∧ (v_1944 : Int32).toInt ≤ 400 by omega), (show 0 ≤ (v_1944 : Int32).toInt ∧ (v_1944 : Int32).toInt ≤ 401 by omega), (show 0 ≤ (1 : Int32).toInt ∧ (1 : Int32).toInt ≤ 3 by decide), hE.symm, (show ((0 ≤ (v_1944 : Int32).toInt ∧ (v_1944 : Int32).toInt ≤ (v_1944 : Int32).toInt ∧ (v_1944 : Int32).toInt ≤ ta.toInt) ∧ (1 = 0 ∨ (v_1944 : Int32).toInt < (v_1944 : Int32).toInt) ∧ (1 ≠ 1 ∨ (v_1944 : Int32).toInt + 1 < (v_1944 : Int32).toInt ∨ 0 ≤ 26)) by omega), (show to.toInt ≤ (v_1944 : Int32).toInt by omega), trivial⟩, (⟨by rw [ht]; exact hP9, hD9⟩ : Wd D A _ t)⟩, hS.F ht⟩) hS.2.2 dX12_next_335
              · have c_2425i := i_nle (x := ta.toInt) (y := v_1944.toInt) rfl rfl c_2425
                replace hE := hE.trans (if_neg c_2425)
                refine lv_aload_n hx hb dX12_next_168 rfl (lv_at hl 0 rfl) (va_get (ci := 12) (v := .ref t0) (C := RX12) (T := TX12) (N := 60) hx hb hts hw12 hown hK hP 0 rfl rfl 12 (by decide +kernel) (hts _ mm_X12_next_842) (fun _ h9 => h9) rfl dX12_next_169 (lv_aload_n hx hb dX12_next_172 rfl (lv_at hl 0 rfl) (va_get (ci := 12) (v := .int v_1944) (C := RX12) (T := TX12) (N := 60) hx hb hts hw12 hown hK hP 0 rfl rfl 15 (by decide +kernel) (hts _ mm_X12_next_845) (fun _ h9 => h9) rfl dX12_next_173 (va_iald hx hb hK hP 1 0 rfl rfl (i_in rfl (by omega)) dX12_next_176 (lv_topi (fun x_2427 ex_2427 => ?_))))))
                replace hE := hE.trans (Lt_in ex_2427)
                have erx_2427 : x_2427 = x_2413 := ex_2427.trans (by rw [i_clamp rfl]; exact kx_2413)
                have hrx_2427 : x_2427.toInt = x_2413.toInt := (congrArg Int32.toInt erx_2427).trans rfl
                refine pci (va_runS (As := [.int x_2427]) (rest := []) ⟨hx, hb, hml, hown, hts⟩ (v_isSmall l D K x_2413.toInt x_2427 H.size hrx_2427) (va_cwS 1 hts gX12_next_X12_isSmall rfl rfl rfl (by decide +kernel) ⟨Nat.le_of_ble_eq_true rfl, Nat.le_of_ble_eq_true rfl⟩) (mkS hK hN (va_P.nil) (va_D.nil (A := fun _ => True))) rfl rfl hl.1 rfl (lv_room (Nat.le_of_ble_eq_true rfl)) dX12_next_177 ⟨Nat.le_of_ble_eq_true rfl, Nat.le_of_ble_eq_true rfl⟩) (fun r_2428 hw => ?_)
                obtain ⟨hw, k_2429, -⟩ := hw
                replace hE := hE.trans (Lt_in k_2429)
                rcases hw with ⟨rfl, h_2430, h_2431⟩ | ⟨rfl, h_2432⟩
                · replace hE := (hE).trans (if_pos rfl)
                  refine lv_if_eq (tgt := 243) hx hb dX12_next_180 (by decide +kernel) (fun c_2433 => absurd c_2433 (by decide +kernel)) (fun c_2433 => ?_)
                  refine lv_aload_n hx hb dX12_next_183 rfl (lv_at hl 0 rfl) (lv_aload_n hx hb dX12_next_184 rfl (lv_at hl 0 rfl) (va_get (ci := 12) (v := .int v_1944) (C := RX12) (T := TX12) (N := 60) hx hb hts hw12 hown hK hP 0 rfl rfl 15 (by decide +kernel) (hts _ mm_X12_next_845) (fun _ h9 => h9) rfl dX12_next_185 (lv_aload_n hx hb dX12_next_188 rfl (lv_at hl 0 rfl) (va_get (ci := 12) (v := .int v_1944) (C := RX12) (T := TX12) (N := 60) hx hb hts hw12 hown hK hP 0 rfl rfl 14 (by decide +kernel) (hts _ mm_X12_next_844) (fun _ h9 => h9) rfl dX12_next_189 (lv_isub hx hb dX12_next_192 (lv_topi (fun x_2434 ex_2434 => ?_)))))))
                  replace hE := hE.trans (Lt_in ex_2434)
                  have hx_2434 : x_2434.toInt = (v_1944.toInt - v_1944.toInt) := by rw [ex_2434]; exact i_sub rfl rfl (by omega)
                  refine lv_bipush (v := 10) hx hb dX12_next_193 (by decide +kernel) (lv_icmp_ge (tgt := 224) hx hb dX12_next_195 (by decide +kernel) (fun c_2435 => ?_) (fun c_2435 => ?_))
                  · have c_2435i := i_le (x := 10) (y := (v_1944.toInt - v_1944.toInt)) rfl hx_2434 c_2435
                    replace hE := hE.trans (if_pos c_2435)
                    refine lv_ldc2 (v := (-1)) hx hb hown (hts _ mm_X12_next_1008) dX12_next_224 (va_put (ci := 12) (v := .long (-1)) (ty := .long) (C := RX12) (T := TX12) (N := 60) hx hb hts hw12 tyX12 tyX12_ok nmX12 hown hK hP hD hS 0 rfl rfl 17 (by decide +kernel) (hts _ mm_X12_next_847) (fun _ h9 => h9) rfl (by decide +kernel) (by first | rfl | decide) (by first | rfl | decide) (Nat.le_of_ble_eq_true rfl) dX12_next_227 (fun H locs hP0 hD0 hS0 => ?_))
                    replace hP : va_P D vwCl [(cc_O m0 12 [m_0, m_1, m_2, m_3, m_4, m_5, m_6, m_7, m_8, m_9, m_10, m_11, .ref t0, .int ta, .int v_1944, .int v_1944, .int 1, .long (-1), m_18, m_19, m_20, m_21, m_22, m_23, m_24, m_25, m_26, m_27, m_28, m_29, m_30, m_31, m_32, m_33, m_34, m_35, m_36, m_37, m_38, m_39, m_40, m_41, m_42, m_43, m_44, m_45, m_46, m_47, m_48, m_49, m_50, m_51, m_52, m_53, m_54, m_55, m_56, m_57, m_58, m_59]), (cc_l t0 (K 0) 400 ft)] H := hP0
                    replace hD := as_D hP hD0 rfl
                    replace hS := hS0
                    clear hP0 hD0 hS0
                    refine lv_aload_n hx hb dX12_next_230 rfl (lv_at hl 0 rfl) (lv_dup hx hb dX12_next_231 rfl (va_get (ci := 12) (v := .int v_1944) (C := RX12) (T := TX12) (N := 60) hx hb hts hw12 hown hK hP 0 rfl rfl 15 (by decide +kernel) (hts _ mm_X12_next_845) (fun _ h9 => h9) rfl dX12_next_232 (lv_iconst (v := 1) hx hb dX12_next_235 (by decide +kernel) (lv_iadd hx hb dX12_next_236 (lv_topi (fun x_2436 ex_2436 => ?_))))))
                    replace hE := hE.trans (Lt_in ex_2436)
                    have hx_2436 : x_2436.toInt = (v_1944.toInt + 1) := by rw [ex_2436]; exact i_add rfl (show (1 : Int32).toInt = 1 from rfl) (by omega)
                    refine va_put (ci := 12) (v := .int x_2436) (ty := .int) (C := RX12) (T := TX12) (N := 60) hx hb hts hw12 tyX12 tyX12_ok nmX12 hown hK hP hD hS 0 rfl rfl 15 (by decide +kernel) (hts _ mm_X12_next_845) (fun _ h9 => h9) rfl (by decide +kernel) (by first | rfl | decide) (by first | rfl | decide) (Nat.le_of_ble_eq_true rfl) dX12_next_237 (fun H locs hP0 hD0 hS0 => ?_)
                    replace hP : va_P D vwCl [(cc_O m0 12 [m_0, m_1, m_2, m_3, m_4, m_5, m_6, m_7, m_8, m_9, m_10, m_11, .ref t0, .int ta, .int v_1944, .int x_2436, .int 1, .long (-1), m_18, m_19, m_20, m_21, m_22, m_23, m_24, m_25, m_26, m_27, m_28, m_29, m_30, m_31, m_32, m_33, m_34, m_35, m_36, m_37, m_38, m_39, m_40, m_41, m_42, m_43, m_44, m_45, m_46, m_47, m_48, m_49, m_50, m_51, m_52, m_53, m_54, m_55, m_56, m_57, m_58, m_59]), (cc_l t0 (K 0) 400 ft)] H := hP0
                    replace hD := as_D hP hD0 rfl
                    replace hS := hS0
                    clear hP0 hD0 hS0
                    refine lv_goto (tgt := 149) hx hb dX12_next_240 (by decide +kernel) ?_
                    have lp_2561 : ∀ (nn_ : Nat) (v_2519 : Int32) (v_2520 : Int64) (hv_2519 : 1 ≤ v_2519.toInt ∧ v_2519.toInt ≤ 400) (hr0_lp_2561 : v_1944.toInt < v_2519.toInt ∧ v_2519.toInt ≤ ta.toInt ∧ (v_1944.toInt + 1 < v_2519.toInt ∨ v_2520.toInt ≤ 26)) (hn : (ta.toInt - v_2519.toInt : Int).toNat < nn_) (hE : E_v_next ta fr to so wo ft = Lp (α := Int32 → Int64 → (Int32 × Int32 × Int32 × Int64)) (E_v_next_l149 ta ft v_1944) (fun _ _ => ((0, 0, 0, 0) : Int32 × Int32 × Int32 × Int64)) nn_ v_2519 v_2520) (H : Heap) (locs : List Loc) (hP : va_P D vwCl [(cc_O m0 12 [m_0, m_1, m_2, m_3, m_4, m_5, m_6, m_7, m_8, m_9, m_10, m_11, .ref t0, .int ta, .int v_1944, .int v_2519, .int 1, .long v_2520, m_18, m_19, m_20, m_21, m_22, m_23, m_24, m_25, m_26, m_27, m_28, m_29, m_30, m_31, m_32, m_33, m_34, m_35, m_36, m_37, m_38, m_39, m_40, m_41, m_42, m_43, m_44, m_45, m_46, m_47, m_48, m_49, m_50, m_51, m_52, m_53, m_54, m_55, m_56, m_57, m_58, m_59]), (cc_l t0 (K 0) 400 ft)] H) (hD : va_D A [(cc_O m0 12 [m_0, m_1, m_2, m_3, m_4, m_5, m_6, m_7, m_8, m_9, m_10, m_11, .ref t0, .int ta, .int v_1944, .int v_2519, .int 1, .long v_2520, m_18, m_19, m_20, m_21, m_22, m_23, m_24, m_25, m_26, m_27, m_28, m_29, m_30, m_31, m_32, m_33, m_34, m_35, m_36, m_37, m_38, m_39, m_40, m_41, m_42, m_43, m_44, m_45, m_46, m_47, m_48, m_49, m_50, m_51, m_52, m_53, m_54, m_55, m_56, m_57, m_58, m_59]), (cc_l t0 (K 0) 400 ft)]) (hS : va_S A s.heap H locs) (ls : Array Slot) (hl : lv_has ls 1 [(0, .ref m0)]), W p l e ({ frames := 1, cells := 0, slots := 0, locals := 20 }) s m (([.ref m0] : List Value).toArray) below meth c H locs 0 0 Q (F0 m 149 ls []) := by
                      clear hE hP hD hS hl
                      intro nn_
                      induction nn_ with
                      | zero =>
                        intro v_2519 v_2520 hv_2519 hr0_lp_2561 hn hE H locs hP hD hS ls hl
                        exact absurd hn (Nat.not_lt_zero _)
                      | succ nn_ ih_2562 =>
                        intro v_2519 v_2520 hv_2519 hr0_lp_2561 hn hE H locs hP hD hS ls hl
                        replace hE : E_v_next ta fr to so wo ft = E_v_next_l149 ta ft v_1944 (Lp (α := Int32 → Int64 → (Int32 × Int32 × Int32 × Int64)) (E_v_next_l149 ta ft v_1944) (fun _ _ => ((0, 0, 0, 0) : Int32 × Int32 × Int32 × Int64)) nn_) v_2519 v_2520 := hE
                        obtain ⟨rec_2561, hrec_2561⟩ : ∃ z9, z9 = Lp (α := Int32 → Int64 → (Int32 × Int32 × Int32 × Int64)) (E_v_next_l149 ta ft v_1944) (fun _ _ => ((0, 0, 0, 0) : Int32 × Int32 × Int32 × Int64)) nn_ := ⟨_, rfl⟩
                        rw [← hrec_2561] at hE
                        replace hE := hE.trans (E_v_next_l149.eq_def _ _ _ _ _ _)
                        refine lv_aload_n hx hb dX12_next_149 rfl (lv_at hl 0 rfl) (va_get (ci := 12) (v := .int 1) (C := RX12) (T := TX12) (N := 60) hx hb hts hw12 hown hK hP 0 rfl rfl 16 (by decide +kernel) (hts _ mm_X12_next_846) (fun _ h9 => h9) rfl dX12_next_150 (lv_iconst (v := 1) hx hb dX12_next_153 (by decide +kernel) (lv_icmp_ne (tgt := 243) hx hb dX12_next_154 (by decide +kernel) (fun c_2563 => absurd (by decide +kernel) c_2563) (fun c_2563 => ?_))))
                        refine lv_aload_n hx hb dX12_next_157 rfl (lv_at hl 0 rfl) (va_get (ci := 12) (v := .int v_2519) (C := RX12) (T := TX12) (N := 60) hx hb hts hw12 hown hK hP 0 rfl rfl 15 (by decide +kernel) (hts _ mm_X12_next_845) (fun _ h9 => h9) rfl dX12_next_158 (lv_aload_n hx hb dX12_next_161 rfl (lv_at hl 0 rfl) (va_get (ci := 12) (v := .int ta) (C := RX12) (T := TX12) (N := 60) hx hb hts hw12 hown hK hP 0 rfl rfl 13 (by decide +kernel) (hts _ mm_X12_next_843) (fun _ h9 => h9) rfl dX12_next_162 (lv_icmp_ge (tgt := 243) hx hb dX12_next_165 (by decide +kernel) (fun c_2564 => ?_) (fun c_2564 => ?_)))))
                        · have c_2564i := i_le (x := ta.toInt) (y := v_2519.toInt) rfl rfl c_2564
                          replace hE := hE.trans (if_pos c_2564)
                          refine lv_aload_n hx hb dX12_next_243 rfl (lv_at hl 0 rfl) (va_get (ci := 12) (v := .int 1) (C := RX12) (T := TX12) (N := 60) hx hb hts hw12 hown hK hP 0 rfl rfl 16 (by decide +kernel) (hts _ mm_X12_next_846) (fun _ h9 => h9) rfl dX12_next_244 (lv_iconst (v := 2) hx hb dX12_next_247 (by decide +kernel) (lv_icmp_ne (tgt := 335) hx hb dX12_next_248 (by decide +kernel) (fun c_2565 => ?_) (fun c_2565 => absurd c_2565 (by decide +kernel)))))
                          rw [← hQ]
                          have hP9 := hP.sub (ws' := [(cc_O m0 12 [m_0, m_1, m_2, m_3, m_4, m_5, m_6, m_7, m_8, m_9, m_10, m_11, .ref t0, .int ta, .int v_1944, .int v_2519, .int 1, .long v_2520, m_18, m_19, m_20, m_21, m_22, m_23, m_24, m_25, m_26, m_27, m_28, m_29, m_30, m_31, m_32, m_33, m_34, m_35, m_36, m_37, m_38, m_39, m_40, m_41, m_42, m_43, m_44, m_45, m_46, m_47, m_48, m_49, m_50, m_51, m_52, m_53, m_54, m_55, m_56, m_57, m_58, m_59]), (cc_l t0 (K 0) 400 ft)]) [0, 1] rfl
                          have hD9 := sub_D hP9 hD [0, 1] (by decide +kernel) rfl
                          exact W.vret hx hb hr (fun t ht hW => ⟨⟨((fun _ => 0, fun _ => fun _ => 0, fun _ => fun _ => 0, fun i => match i with | 0 => v_1944 | 1 => v_2519 | _ => 1, fun i => match i with | _ => v_2520, fun _ => fun _ => none) : Su), rfl, ⟨(show 0 ≤ (v_1944 : Int32).toInt ∧ (v_1944 : Int32).toInt ≤ 400 by omega), (show 0 ≤ (v_2519 : Int32).toInt ∧ (v_2519 : Int32).toInt ≤ 401 by omega), (show 0 ≤ (1 : Int32).toInt ∧ (1 : Int32).toInt ≤ 3 by decide), hE.symm, (show ((0 ≤ (v_1944 : Int32).toInt ∧ (v_1944 : Int32).toInt ≤ (v_2519 : Int32).toInt ∧ (v_2519 : Int32).toInt ≤ ta.toInt) ∧ (1 = 0 ∨ (v_1944 : Int32).toInt < (v_2519 : Int32).toInt) ∧ (1 ≠ 1 ∨ (v_1944 : Int32).toInt + 1 < (v_2519 : Int32).toInt ∨ (v_2520 : Int64).toInt ≤ 26)) by omega), (show to.toInt ≤ (v_1944 : Int32).toInt by omega), trivial⟩, (⟨by rw [ht]; exact hP9, hD9⟩ : Wd D A _ t)⟩, hS.F ht⟩) hS.2.2 dX12_next_335
                        · have c_2564i := i_nle (x := ta.toInt) (y := v_2519.toInt) rfl rfl c_2564
                          replace hE := hE.trans (if_neg c_2564)
                          refine lv_aload_n hx hb dX12_next_168 rfl (lv_at hl 0 rfl) (va_get (ci := 12) (v := .ref t0) (C := RX12) (T := TX12) (N := 60) hx hb hts hw12 hown hK hP 0 rfl rfl 12 (by decide +kernel) (hts _ mm_X12_next_842) (fun _ h9 => h9) rfl dX12_next_169 (lv_aload_n hx hb dX12_next_172 rfl (lv_at hl 0 rfl) (va_get (ci := 12) (v := .int v_2519) (C := RX12) (T := TX12) (N := 60) hx hb hts hw12 hown hK hP 0 rfl rfl 15 (by decide +kernel) (hts _ mm_X12_next_845) (fun _ h9 => h9) rfl dX12_next_173 (va_iald hx hb hK hP 1 0 rfl rfl (i_in rfl (by omega)) dX12_next_176 (lv_topi (fun x_2566 ex_2566 => ?_))))))
                          replace hE := hE.trans (Lt_in ex_2566)
                          have kx_2566 : ft (v_2519.toInt).toNat = x_2566 := by rw [ex_2566, i_clamp rfl]
                          refine pci (va_runS (As := [.int x_2566]) (rest := []) ⟨hx, hb, hml, hown, hts⟩ (v_isSmall l D K x_2566.toInt x_2566 H.size rfl) (va_cwS 1 hts gX12_next_X12_isSmall rfl rfl rfl (by decide +kernel) ⟨Nat.le_of_ble_eq_true rfl, Nat.le_of_ble_eq_true rfl⟩) (mkS hK hN (va_P.nil) (va_D.nil (A := fun _ => True))) rfl rfl hl.1 rfl (lv_room (Nat.le_of_ble_eq_true rfl)) dX12_next_177 ⟨Nat.le_of_ble_eq_true rfl, Nat.le_of_ble_eq_true rfl⟩) (fun r_2567 hw => ?_)
                          obtain ⟨hw, k_2568, -⟩ := hw
                          replace hE := hE.trans (Lt_in k_2568)
                          rcases hw with ⟨rfl, h_2569, h_2570⟩ | ⟨rfl, h_2571⟩
                          · replace hE := (hE).trans (if_pos rfl)
                            refine lv_if_eq (tgt := 243) hx hb dX12_next_180 (by decide +kernel) (fun c_2572 => absurd c_2572 (by decide +kernel)) (fun c_2572 => ?_)
                            refine lv_aload_n hx hb dX12_next_183 rfl (lv_at hl 0 rfl) (lv_aload_n hx hb dX12_next_184 rfl (lv_at hl 0 rfl) (va_get (ci := 12) (v := .int v_2519) (C := RX12) (T := TX12) (N := 60) hx hb hts hw12 hown hK hP 0 rfl rfl 15 (by decide +kernel) (hts _ mm_X12_next_845) (fun _ h9 => h9) rfl dX12_next_185 (lv_aload_n hx hb dX12_next_188 rfl (lv_at hl 0 rfl) (va_get (ci := 12) (v := .int v_1944) (C := RX12) (T := TX12) (N := 60) hx hb hts hw12 hown hK hP 0 rfl rfl 14 (by decide +kernel) (hts _ mm_X12_next_844) (fun _ h9 => h9) rfl dX12_next_189 (lv_isub hx hb dX12_next_192 (lv_topi (fun x_2573 ex_2573 => ?_)))))))
                            replace hE := hE.trans (Lt_in ex_2573)
                            have hx_2573 : x_2573.toInt = (v_2519.toInt - v_1944.toInt) := by rw [ex_2573]; exact i_sub rfl rfl (by omega)
                            refine lv_bipush (v := 10) hx hb dX12_next_193 (by decide +kernel) (lv_icmp_ge (tgt := 224) hx hb dX12_next_195 (by decide +kernel) (fun c_2574 => ?_) (fun c_2574 => ?_))
                            · have c_2574i := i_le (x := 10) (y := (v_2519.toInt - v_1944.toInt)) rfl hx_2573 c_2574
                              replace hE := hE.trans (if_pos c_2574)
                              refine lv_ldc2 (v := (-1)) hx hb hown (hts _ mm_X12_next_1008) dX12_next_224 (va_put (ci := 12) (v := .long (-1)) (ty := .long) (C := RX12) (T := TX12) (N := 60) hx hb hts hw12 tyX12 tyX12_ok nmX12 hown hK hP hD hS 0 rfl rfl 17 (by decide +kernel) (hts _ mm_X12_next_847) (fun _ h9 => h9) rfl (by decide +kernel) (by first | rfl | decide) (by first | rfl | decide) (Nat.le_of_ble_eq_true rfl) dX12_next_227 (fun H locs hP0 hD0 hS0 => ?_))
                              replace hP : va_P D vwCl [(cc_O m0 12 [m_0, m_1, m_2, m_3, m_4, m_5, m_6, m_7, m_8, m_9, m_10, m_11, .ref t0, .int ta, .int v_1944, .int v_2519, .int 1, .long (-1), m_18, m_19, m_20, m_21, m_22, m_23, m_24, m_25, m_26, m_27, m_28, m_29, m_30, m_31, m_32, m_33, m_34, m_35, m_36, m_37, m_38, m_39, m_40, m_41, m_42, m_43, m_44, m_45, m_46, m_47, m_48, m_49, m_50, m_51, m_52, m_53, m_54, m_55, m_56, m_57, m_58, m_59]), (cc_l t0 (K 0) 400 ft)] H := hP0
                              replace hD := as_D hP hD0 rfl
                              replace hS := hS0
                              clear hP0 hD0 hS0
                              refine lv_aload_n hx hb dX12_next_230 rfl (lv_at hl 0 rfl) (lv_dup hx hb dX12_next_231 rfl (va_get (ci := 12) (v := .int v_2519) (C := RX12) (T := TX12) (N := 60) hx hb hts hw12 hown hK hP 0 rfl rfl 15 (by decide +kernel) (hts _ mm_X12_next_845) (fun _ h9 => h9) rfl dX12_next_232 (lv_iconst (v := 1) hx hb dX12_next_235 (by decide +kernel) (lv_iadd hx hb dX12_next_236 (lv_topi (fun x_2575 ex_2575 => ?_))))))
                              replace hE := hE.trans (Lt_in ex_2575)
                              have hx_2575 : x_2575.toInt = (v_2519.toInt + 1) := by rw [ex_2575]; exact i_add rfl (show (1 : Int32).toInt = 1 from rfl) (by omega)
                              refine va_put (ci := 12) (v := .int x_2575) (ty := .int) (C := RX12) (T := TX12) (N := 60) hx hb hts hw12 tyX12 tyX12_ok nmX12 hown hK hP hD hS 0 rfl rfl 15 (by decide +kernel) (hts _ mm_X12_next_845) (fun _ h9 => h9) rfl (by decide +kernel) (by first | rfl | decide) (by first | rfl | decide) (Nat.le_of_ble_eq_true rfl) dX12_next_237 (fun H locs hP0 hD0 hS0 => ?_)
                              replace hP : va_P D vwCl [(cc_O m0 12 [m_0, m_1, m_2, m_3, m_4, m_5, m_6, m_7, m_8, m_9, m_10, m_11, .ref t0, .int ta, .int v_1944, .int x_2575, .int 1, .long (-1), m_18, m_19, m_20, m_21, m_22, m_23, m_24, m_25, m_26, m_27, m_28, m_29, m_30, m_31, m_32, m_33, m_34, m_35, m_36, m_37, m_38, m_39, m_40, m_41, m_42, m_43, m_44, m_45, m_46, m_47, m_48, m_49, m_50, m_51, m_52, m_53, m_54, m_55, m_56, m_57, m_58, m_59]), (cc_l t0 (K 0) 400 ft)] H := hP0
                              replace hD := as_D hP hD0 rfl
                              replace hS := hS0
                              clear hP0 hD0 hS0
                              refine lv_goto (tgt := 149) hx hb dX12_next_240 (by decide +kernel) ?_
                              have hz_2576 : ((-1) : Int64).toInt = (-1) := rfl
                              exact ih_2562 x_2575 (-1) (by rw [hx_2575]; omega) (show v_1944.toInt < (x_2575 : Int32).toInt ∧ (x_2575 : Int32).toInt ≤ ta.toInt ∧ (v_1944.toInt + 1 < (x_2575 : Int32).toInt ∨ ((-1) : Int64).toInt ≤ 26) by omega) (by omega) (hE.trans (by rw [hrec_2561])) _ _ hP hD hS ls (lv_sub hl [0] rfl)
                            · have c_2574i := i_nle (x := 10) (y := (v_2519.toInt - v_1944.toInt)) rfl hx_2573 c_2574
                              replace hE := hE.trans (if_neg c_2574)
                              refine lv_aload_n hx hb dX12_next_198 rfl (lv_at hl 0 rfl) (va_get (ci := 12) (v := .long v_2520) (C := RX12) (T := TX12) (N := 60) hx hb hts hw12 hown hK hP 0 rfl rfl 17 (by decide +kernel) (hts _ mm_X12_next_847) (fun _ h9 => h9) rfl dX12_next_199 (lv_ldc2 (v := 32) hx hb hown (hts _ mm_X12_next_1089) dX12_next_202 (lv_lmul hx hb dX12_next_205 (lv_topl (fun x_2577 ex_2577 => ?_)))))
                              replace hE := hE.trans (Lt_in ex_2577)
                              refine lv_aload_n hx hb dX12_next_206 rfl (lv_at hl 0 rfl) (va_get (ci := 12) (v := .ref t0) (C := RX12) (T := TX12) (N := 60) hx hb hts hw12 hown hK hP 0 rfl rfl 12 (by decide +kernel) (hts _ mm_X12_next_842) (fun _ h9 => h9) rfl dX12_next_207 (lv_aload_n hx hb dX12_next_210 rfl (lv_at hl 0 rfl) (va_get (ci := 12) (v := .int v_2519) (C := RX12) (T := TX12) (N := 60) hx hb hts hw12 hown hK hP 0 rfl rfl 15 (by decide +kernel) (hts _ mm_X12_next_845) (fun _ h9 => h9) rfl dX12_next_211 (va_iald hx hb hK hP 1 0 rfl rfl (i_in rfl (by omega)) dX12_next_214 (lv_topi (fun x_2578 ex_2578 => ?_))))))
                              replace hE := hE.trans (Lt_in ex_2578)
                              have erx_2578 : x_2578 = x_2566 := ex_2578.trans (by rw [i_clamp rfl]; exact kx_2566)
                              have hrx_2578 : x_2578.toInt = x_2566.toInt := (congrArg Int32.toInt erx_2578).trans rfl
                              refine lv_i2l hx hb dX12_next_215 rfl (lv_topl (fun x_2579 ex_2579 => ?_))
                              replace hE := hE.trans (Lt_in ex_2579)
                              have hx_2579 : x_2579.toInt = x_2566.toInt := by rw [ex_2579]; exact i_wide hrx_2578
                              refine lv_ladd hx hb dX12_next_216 (lv_topl (fun x_2580 ex_2580 => ?_))
                              replace hE := hE.trans (Lt_in ex_2580)
                              refine lv_ldc2 (v := 96) hx hb hown (hts _ mm_X12_next_1090) dX12_next_217 (lv_lsub hx hb dX12_next_220 (lv_topl (fun x_2581 ex_2581 => ?_)))
                              replace hE := hE.trans (Lt_in ex_2581)
                              refine lv_goto (tgt := 227) hx hb dX12_next_221 (by decide +kernel) (va_put (ci := 12) (v := .long x_2581) (ty := .long) (C := RX12) (T := TX12) (N := 60) hx hb hts hw12 tyX12 tyX12_ok nmX12 hown hK hP hD hS 0 rfl rfl 17 (by decide +kernel) (hts _ mm_X12_next_847) (fun _ h9 => h9) rfl (by decide +kernel) (by first | rfl | decide) (by first | rfl | decide) (Nat.le_of_ble_eq_true rfl) dX12_next_227 (fun H locs hP0 hD0 hS0 => ?_))
                              replace hP : va_P D vwCl [(cc_O m0 12 [m_0, m_1, m_2, m_3, m_4, m_5, m_6, m_7, m_8, m_9, m_10, m_11, .ref t0, .int ta, .int v_1944, .int v_2519, .int 1, .long x_2581, m_18, m_19, m_20, m_21, m_22, m_23, m_24, m_25, m_26, m_27, m_28, m_29, m_30, m_31, m_32, m_33, m_34, m_35, m_36, m_37, m_38, m_39, m_40, m_41, m_42, m_43, m_44, m_45, m_46, m_47, m_48, m_49, m_50, m_51, m_52, m_53, m_54, m_55, m_56, m_57, m_58, m_59]), (cc_l t0 (K 0) 400 ft)] H := hP0
                              replace hD := as_D hP hD0 rfl
                              replace hS := hS0
                              clear hP0 hD0 hS0
                              refine lv_aload_n hx hb dX12_next_230 rfl (lv_at hl 0 rfl) (lv_dup hx hb dX12_next_231 rfl (va_get (ci := 12) (v := .int v_2519) (C := RX12) (T := TX12) (N := 60) hx hb hts hw12 hown hK hP 0 rfl rfl 15 (by decide +kernel) (hts _ mm_X12_next_845) (fun _ h9 => h9) rfl dX12_next_232 (lv_iconst (v := 1) hx hb dX12_next_235 (by decide +kernel) (lv_iadd hx hb dX12_next_236 (lv_topi (fun x_2582 ex_2582 => ?_))))))
                              replace hE := hE.trans (Lt_in ex_2582)
                              have hx_2582 : x_2582.toInt = (v_2519.toInt + 1) := by rw [ex_2582]; exact i_add rfl (show (1 : Int32).toInt = 1 from rfl) (by omega)
                              refine va_put (ci := 12) (v := .int x_2582) (ty := .int) (C := RX12) (T := TX12) (N := 60) hx hb hts hw12 tyX12 tyX12_ok nmX12 hown hK hP hD hS 0 rfl rfl 15 (by decide +kernel) (hts _ mm_X12_next_845) (fun _ h9 => h9) rfl (by decide +kernel) (by first | rfl | decide) (by first | rfl | decide) (Nat.le_of_ble_eq_true rfl) dX12_next_237 (fun H locs hP0 hD0 hS0 => ?_)
                              replace hP : va_P D vwCl [(cc_O m0 12 [m_0, m_1, m_2, m_3, m_4, m_5, m_6, m_7, m_8, m_9, m_10, m_11, .ref t0, .int ta, .int v_1944, .int x_2582, .int 1, .long x_2581, m_18, m_19, m_20, m_21, m_22, m_23, m_24, m_25, m_26, m_27, m_28, m_29, m_30, m_31, m_32, m_33, m_34, m_35, m_36, m_37, m_38, m_39, m_40, m_41, m_42, m_43, m_44, m_45, m_46, m_47, m_48, m_49, m_50, m_51, m_52, m_53, m_54, m_55, m_56, m_57, m_58, m_59]), (cc_l t0 (K 0) 400 ft)] H := hP0
                              replace hD := as_D hP hD0 rfl
                              replace hS := hS0
                              clear hP0 hD0 hS0
                              refine lv_goto (tgt := 149) hx hb dX12_next_240 (by decide +kernel) ?_
                              exact ih_2562 x_2582 x_2581 (by rw [hx_2582]; omega) (show v_1944.toInt < (x_2582 : Int32).toInt ∧ (x_2582 : Int32).toInt ≤ ta.toInt ∧ (v_1944.toInt + 1 < (x_2582 : Int32).toInt ∨ (x_2581 : Int64).toInt ≤ 26) by omega) (by omega) (hE.trans (by rw [hrec_2561])) _ _ hP hD hS ls (lv_sub hl [0] rfl)
                          · replace hE := (hE).trans (if_neg (by first | decide | (intro h9; have h8 := congrArg Int32.toInt h9; omega)))
                            refine lv_if_eq (tgt := 243) hx hb dX12_next_180 (by decide +kernel) (fun c_2583 => ?_) (fun c_2583 => absurd (by decide +kernel) c_2583)
                            refine lv_aload_n hx hb dX12_next_243 rfl (lv_at hl 0 rfl) (va_get (ci := 12) (v := .int 1) (C := RX12) (T := TX12) (N := 60) hx hb hts hw12 hown hK hP 0 rfl rfl 16 (by decide +kernel) (hts _ mm_X12_next_846) (fun _ h9 => h9) rfl dX12_next_244 (lv_iconst (v := 2) hx hb dX12_next_247 (by decide +kernel) (lv_icmp_ne (tgt := 335) hx hb dX12_next_248 (by decide +kernel) (fun c_2584 => ?_) (fun c_2584 => absurd c_2584 (by decide +kernel)))))
                            rw [← hQ]
                            have hP9 := hP.sub (ws' := [(cc_O m0 12 [m_0, m_1, m_2, m_3, m_4, m_5, m_6, m_7, m_8, m_9, m_10, m_11, .ref t0, .int ta, .int v_1944, .int v_2519, .int 1, .long v_2520, m_18, m_19, m_20, m_21, m_22, m_23, m_24, m_25, m_26, m_27, m_28, m_29, m_30, m_31, m_32, m_33, m_34, m_35, m_36, m_37, m_38, m_39, m_40, m_41, m_42, m_43, m_44, m_45, m_46, m_47, m_48, m_49, m_50, m_51, m_52, m_53, m_54, m_55, m_56, m_57, m_58, m_59]), (cc_l t0 (K 0) 400 ft)]) [0, 1] rfl
                            have hD9 := sub_D hP9 hD [0, 1] (by decide +kernel) rfl
                            exact W.vret hx hb hr (fun t ht hW => ⟨⟨((fun _ => 0, fun _ => fun _ => 0, fun _ => fun _ => 0, fun i => match i with | 0 => v_1944 | 1 => v_2519 | _ => 1, fun i => match i with | _ => v_2520, fun _ => fun _ => none) : Su), rfl, ⟨(show 0 ≤ (v_1944 : Int32).toInt ∧ (v_1944 : Int32).toInt ≤ 400 by omega), (show 0 ≤ (v_2519 : Int32).toInt ∧ (v_2519 : Int32).toInt ≤ 401 by omega), (show 0 ≤ (1 : Int32).toInt ∧ (1 : Int32).toInt ≤ 3 by decide), hE.symm, (show ((0 ≤ (v_1944 : Int32).toInt ∧ (v_1944 : Int32).toInt ≤ (v_2519 : Int32).toInt ∧ (v_2519 : Int32).toInt ≤ ta.toInt) ∧ (1 = 0 ∨ (v_1944 : Int32).toInt < (v_2519 : Int32).toInt) ∧ (1 ≠ 1 ∨ (v_1944 : Int32).toInt + 1 < (v_2519 : Int32).toInt ∨ (v_2520 : Int64).toInt ≤ 26)) by omega), (show to.toInt ≤ (v_1944 : Int32).toInt by omega), trivial⟩, (⟨by rw [ht]; exact hP9, hD9⟩ : Wd D A _ t)⟩, hS.F ht⟩) hS.2.2 dX12_next_335
                    have hz_2585 : ((-1) : Int64).toInt = (-1) := rfl
                    exact lp_2561 ((ta.toInt - (x_2436 : Int32).toInt : Int).toNat + 1) x_2436 (-1) (by rw [hx_2436]; omega) (show v_1944.toInt < (x_2436 : Int32).toInt ∧ (x_2436 : Int32).toInt ≤ ta.toInt ∧ (v_1944.toInt + 1 < (x_2436 : Int32).toInt ∨ ((-1) : Int64).toInt ≤ 26) by omega) (Nat.lt_succ_self _) hE _ _ hP hD hS ls (lv_sub hl [0] rfl)
                  · have c_2435i := i_nle (x := 10) (y := (v_1944.toInt - v_1944.toInt)) rfl hx_2434 c_2435
                    replace hE := hE.trans (if_neg c_2435)
                    refine lv_aload_n hx hb dX12_next_198 rfl (lv_at hl 0 rfl) (va_get (ci := 12) (v := .long 0) (C := RX12) (T := TX12) (N := 60) hx hb hts hw12 hown hK hP 0 rfl rfl 17 (by decide +kernel) (hts _ mm_X12_next_847) (fun _ h9 => h9) rfl dX12_next_199 (lv_ldc2 (v := 32) hx hb hown (hts _ mm_X12_next_1089) dX12_next_202 (lv_lmul hx hb dX12_next_205 (lv_topl (fun x_2586 ex_2586 => ?_)))))
                    obtain rfl : x_2586 = 0 := ex_2586.trans (by first | rfl | decide)
                    refine lv_aload_n hx hb dX12_next_206 rfl (lv_at hl 0 rfl) (va_get (ci := 12) (v := .ref t0) (C := RX12) (T := TX12) (N := 60) hx hb hts hw12 hown hK hP 0 rfl rfl 12 (by decide +kernel) (hts _ mm_X12_next_842) (fun _ h9 => h9) rfl dX12_next_207 (lv_aload_n hx hb dX12_next_210 rfl (lv_at hl 0 rfl) (va_get (ci := 12) (v := .int v_1944) (C := RX12) (T := TX12) (N := 60) hx hb hts hw12 hown hK hP 0 rfl rfl 15 (by decide +kernel) (hts _ mm_X12_next_845) (fun _ h9 => h9) rfl dX12_next_211 (va_iald hx hb hK hP 1 0 rfl rfl (i_in rfl (by omega)) dX12_next_214 (lv_topi (fun x_2587 ex_2587 => ?_))))))
                    replace hE := hE.trans (Lt_in ex_2587)
                    have erx_2587 : x_2587 = x_2413 := ex_2587.trans (by rw [i_clamp rfl]; exact kx_2413)
                    have hrx_2587 : x_2587.toInt = x_2413.toInt := (congrArg Int32.toInt erx_2587).trans rfl
                    refine lv_i2l hx hb dX12_next_215 rfl (lv_topl (fun x_2588 ex_2588 => ?_))
                    replace hE := hE.trans (Lt_in ex_2588)
                    have hx_2588 : x_2588.toInt = x_2413.toInt := by rw [ex_2588]; exact i_wide hrx_2587
                    refine lv_ladd hx hb dX12_next_216 (lv_topl (fun x_2589 ex_2589 => ?_))
                    replace hE := hE.trans (Lt_in ex_2589)
                    have hx_2589 : x_2589.toInt = (0 + x_2413.toInt) := by rw [ex_2589]; exact l_add (show (0 : Int64).toInt = 0 from rfl) hx_2588 (by omega)
                    refine lv_ldc2 (v := 96) hx hb hown (hts _ mm_X12_next_1090) dX12_next_217 (lv_lsub hx hb dX12_next_220 (lv_topl (fun x_2590 ex_2590 => ?_)))
                    replace hE := hE.trans (Lt_in ex_2590)
                    have hx_2590 : x_2590.toInt = ((0 + x_2413.toInt) - 96) := by rw [ex_2590]; exact l_sub hx_2589 (show (96 : Int64).toInt = 96 from rfl) (by omega)
                    refine lv_goto (tgt := 227) hx hb dX12_next_221 (by decide +kernel) (va_put (ci := 12) (v := .long x_2590) (ty := .long) (C := RX12) (T := TX12) (N := 60) hx hb hts hw12 tyX12 tyX12_ok nmX12 hown hK hP hD hS 0 rfl rfl 17 (by decide +kernel) (hts _ mm_X12_next_847) (fun _ h9 => h9) rfl (by decide +kernel) (by first | rfl | decide) (by first | rfl | decide) (Nat.le_of_ble_eq_true rfl) dX12_next_227 (fun H locs hP0 hD0 hS0 => ?_))
                    replace hP : va_P D vwCl [(cc_O m0 12 [m_0, m_1, m_2, m_3, m_4, m_5, m_6, m_7, m_8, m_9, m_10, m_11, .ref t0, .int ta, .int v_1944, .int v_1944, .int 1, .long x_2590, m_18, m_19, m_20, m_21, m_22, m_23, m_24, m_25, m_26, m_27, m_28, m_29, m_30, m_31, m_32, m_33, m_34, m_35, m_36, m_37, m_38, m_39, m_40, m_41, m_42, m_43, m_44, m_45, m_46, m_47, m_48, m_49, m_50, m_51, m_52, m_53, m_54, m_55, m_56, m_57, m_58, m_59]), (cc_l t0 (K 0) 400 ft)] H := hP0
                    replace hD := as_D hP hD0 rfl
                    replace hS := hS0
                    clear hP0 hD0 hS0
                    refine lv_aload_n hx hb dX12_next_230 rfl (lv_at hl 0 rfl) (lv_dup hx hb dX12_next_231 rfl (va_get (ci := 12) (v := .int v_1944) (C := RX12) (T := TX12) (N := 60) hx hb hts hw12 hown hK hP 0 rfl rfl 15 (by decide +kernel) (hts _ mm_X12_next_845) (fun _ h9 => h9) rfl dX12_next_232 (lv_iconst (v := 1) hx hb dX12_next_235 (by decide +kernel) (lv_iadd hx hb dX12_next_236 (lv_topi (fun x_2591 ex_2591 => ?_))))))
                    replace hE := hE.trans (Lt_in ex_2591)
                    have hx_2591 : x_2591.toInt = (v_1944.toInt + 1) := by rw [ex_2591]; exact i_add rfl (show (1 : Int32).toInt = 1 from rfl) (by omega)
                    refine va_put (ci := 12) (v := .int x_2591) (ty := .int) (C := RX12) (T := TX12) (N := 60) hx hb hts hw12 tyX12 tyX12_ok nmX12 hown hK hP hD hS 0 rfl rfl 15 (by decide +kernel) (hts _ mm_X12_next_845) (fun _ h9 => h9) rfl (by decide +kernel) (by first | rfl | decide) (by first | rfl | decide) (Nat.le_of_ble_eq_true rfl) dX12_next_237 (fun H locs hP0 hD0 hS0 => ?_)
                    replace hP : va_P D vwCl [(cc_O m0 12 [m_0, m_1, m_2, m_3, m_4, m_5, m_6, m_7, m_8, m_9, m_10, m_11, .ref t0, .int ta, .int v_1944, .int x_2591, .int 1, .long x_2590, m_18, m_19, m_20, m_21, m_22, m_23, m_24, m_25, m_26, m_27, m_28, m_29, m_30, m_31, m_32, m_33, m_34, m_35, m_36, m_37, m_38, m_39, m_40, m_41, m_42, m_43, m_44, m_45, m_46, m_47, m_48, m_49, m_50, m_51, m_52, m_53, m_54, m_55, m_56, m_57, m_58, m_59]), (cc_l t0 (K 0) 400 ft)] H := hP0
                    replace hD := as_D hP hD0 rfl
                    replace hS := hS0
                    clear hP0 hD0 hS0
                    refine lv_goto (tgt := 149) hx hb dX12_next_240 (by decide +kernel) ?_
                    have lp_2695 : ∀ (nn_ : Nat) (v_2653 : Int32) (v_2654 : Int64) (hv_2653 : 1 ≤ v_2653.toInt ∧ v_2653.toInt ≤ 400) (hr0_lp_2695 : v_1944.toInt < v_2653.toInt ∧ v_2653.toInt ≤ ta.toInt ∧ (v_1944.toInt + 1 < v_2653.toInt ∨ v_2654.toInt ≤ 26)) (hn : (ta.toInt - v_2653.toInt : Int).toNat < nn_) (hE : E_v_next ta fr to so wo ft = Lp (α := Int32 → Int64 → (Int32 × Int32 × Int32 × Int64)) (E_v_next_l149 ta ft v_1944) (fun _ _ => ((0, 0, 0, 0) : Int32 × Int32 × Int32 × Int64)) nn_ v_2653 v_2654) (H : Heap) (locs : List Loc) (hP : va_P D vwCl [(cc_O m0 12 [m_0, m_1, m_2, m_3, m_4, m_5, m_6, m_7, m_8, m_9, m_10, m_11, .ref t0, .int ta, .int v_1944, .int v_2653, .int 1, .long v_2654, m_18, m_19, m_20, m_21, m_22, m_23, m_24, m_25, m_26, m_27, m_28, m_29, m_30, m_31, m_32, m_33, m_34, m_35, m_36, m_37, m_38, m_39, m_40, m_41, m_42, m_43, m_44, m_45, m_46, m_47, m_48, m_49, m_50, m_51, m_52, m_53, m_54, m_55, m_56, m_57, m_58, m_59]), (cc_l t0 (K 0) 400 ft)] H) (hD : va_D A [(cc_O m0 12 [m_0, m_1, m_2, m_3, m_4, m_5, m_6, m_7, m_8, m_9, m_10, m_11, .ref t0, .int ta, .int v_1944, .int v_2653, .int 1, .long v_2654, m_18, m_19, m_20, m_21, m_22, m_23, m_24, m_25, m_26, m_27, m_28, m_29, m_30, m_31, m_32, m_33, m_34, m_35, m_36, m_37, m_38, m_39, m_40, m_41, m_42, m_43, m_44, m_45, m_46, m_47, m_48, m_49, m_50, m_51, m_52, m_53, m_54, m_55, m_56, m_57, m_58, m_59]), (cc_l t0 (K 0) 400 ft)]) (hS : va_S A s.heap H locs) (ls : Array Slot) (hl : lv_has ls 1 [(0, .ref m0)]), W p l e ({ frames := 1, cells := 0, slots := 0, locals := 20 }) s m (([.ref m0] : List Value).toArray) below meth c H locs 0 0 Q (F0 m 149 ls []) := by
                      clear hE hP hD hS hl
                      intro nn_
                      induction nn_ with
                      | zero =>
                        intro v_2653 v_2654 hv_2653 hr0_lp_2695 hn hE H locs hP hD hS ls hl
                        exact absurd hn (Nat.not_lt_zero _)
                      | succ nn_ ih_2696 =>
                        intro v_2653 v_2654 hv_2653 hr0_lp_2695 hn hE H locs hP hD hS ls hl
                        replace hE : E_v_next ta fr to so wo ft = E_v_next_l149 ta ft v_1944 (Lp (α := Int32 → Int64 → (Int32 × Int32 × Int32 × Int64)) (E_v_next_l149 ta ft v_1944) (fun _ _ => ((0, 0, 0, 0) : Int32 × Int32 × Int32 × Int64)) nn_) v_2653 v_2654 := hE
                        obtain ⟨rec_2695, hrec_2695⟩ : ∃ z9, z9 = Lp (α := Int32 → Int64 → (Int32 × Int32 × Int32 × Int64)) (E_v_next_l149 ta ft v_1944) (fun _ _ => ((0, 0, 0, 0) : Int32 × Int32 × Int32 × Int64)) nn_ := ⟨_, rfl⟩
                        rw [← hrec_2695] at hE
                        replace hE := hE.trans (E_v_next_l149.eq_def _ _ _ _ _ _)
                        refine lv_aload_n hx hb dX12_next_149 rfl (lv_at hl 0 rfl) (va_get (ci := 12) (v := .int 1) (C := RX12) (T := TX12) (N := 60) hx hb hts hw12 hown hK hP 0 rfl rfl 16 (by decide +kernel) (hts _ mm_X12_next_846) (fun _ h9 => h9) rfl dX12_next_150 (lv_iconst (v := 1) hx hb dX12_next_153 (by decide +kernel) (lv_icmp_ne (tgt := 243) hx hb dX12_next_154 (by decide +kernel) (fun c_2697 => absurd (by decide +kernel) c_2697) (fun c_2697 => ?_))))
                        refine lv_aload_n hx hb dX12_next_157 rfl (lv_at hl 0 rfl) (va_get (ci := 12) (v := .int v_2653) (C := RX12) (T := TX12) (N := 60) hx hb hts hw12 hown hK hP 0 rfl rfl 15 (by decide +kernel) (hts _ mm_X12_next_845) (fun _ h9 => h9) rfl dX12_next_158 (lv_aload_n hx hb dX12_next_161 rfl (lv_at hl 0 rfl) (va_get (ci := 12) (v := .int ta) (C := RX12) (T := TX12) (N := 60) hx hb hts hw12 hown hK hP 0 rfl rfl 13 (by decide +kernel) (hts _ mm_X12_next_843) (fun _ h9 => h9) rfl dX12_next_162 (lv_icmp_ge (tgt := 243) hx hb dX12_next_165 (by decide +kernel) (fun c_2698 => ?_) (fun c_2698 => ?_)))))
                        · have c_2698i := i_le (x := ta.toInt) (y := v_2653.toInt) rfl rfl c_2698
                          replace hE := hE.trans (if_pos c_2698)
                          refine lv_aload_n hx hb dX12_next_243 rfl (lv_at hl 0 rfl) (va_get (ci := 12) (v := .int 1) (C := RX12) (T := TX12) (N := 60) hx hb hts hw12 hown hK hP 0 rfl rfl 16 (by decide +kernel) (hts _ mm_X12_next_846) (fun _ h9 => h9) rfl dX12_next_244 (lv_iconst (v := 2) hx hb dX12_next_247 (by decide +kernel) (lv_icmp_ne (tgt := 335) hx hb dX12_next_248 (by decide +kernel) (fun c_2699 => ?_) (fun c_2699 => absurd c_2699 (by decide +kernel)))))
                          rw [← hQ]
                          have hP9 := hP.sub (ws' := [(cc_O m0 12 [m_0, m_1, m_2, m_3, m_4, m_5, m_6, m_7, m_8, m_9, m_10, m_11, .ref t0, .int ta, .int v_1944, .int v_2653, .int 1, .long v_2654, m_18, m_19, m_20, m_21, m_22, m_23, m_24, m_25, m_26, m_27, m_28, m_29, m_30, m_31, m_32, m_33, m_34, m_35, m_36, m_37, m_38, m_39, m_40, m_41, m_42, m_43, m_44, m_45, m_46, m_47, m_48, m_49, m_50, m_51, m_52, m_53, m_54, m_55, m_56, m_57, m_58, m_59]), (cc_l t0 (K 0) 400 ft)]) [0, 1] rfl
                          have hD9 := sub_D hP9 hD [0, 1] (by decide +kernel) rfl
                          exact W.vret hx hb hr (fun t ht hW => ⟨⟨((fun _ => 0, fun _ => fun _ => 0, fun _ => fun _ => 0, fun i => match i with | 0 => v_1944 | 1 => v_2653 | _ => 1, fun i => match i with | _ => v_2654, fun _ => fun _ => none) : Su), rfl, ⟨(show 0 ≤ (v_1944 : Int32).toInt ∧ (v_1944 : Int32).toInt ≤ 400 by omega), (show 0 ≤ (v_2653 : Int32).toInt ∧ (v_2653 : Int32).toInt ≤ 401 by omega), (show 0 ≤ (1 : Int32).toInt ∧ (1 : Int32).toInt ≤ 3 by decide), hE.symm, (show ((0 ≤ (v_1944 : Int32).toInt ∧ (v_1944 : Int32).toInt ≤ (v_2653 : Int32).toInt ∧ (v_2653 : Int32).toInt ≤ ta.toInt) ∧ (1 = 0 ∨ (v_1944 : Int32).toInt < (v_2653 : Int32).toInt) ∧ (1 ≠ 1 ∨ (v_1944 : Int32).toInt + 1 < (v_2653 : Int32).toInt ∨ (v_2654 : Int64).toInt ≤ 26)) by omega), (show to.toInt ≤ (v_1944 : Int32).toInt by omega), trivial⟩, (⟨by rw [ht]; exact hP9, hD9⟩ : Wd D A _ t)⟩, hS.F ht⟩) hS.2.2 dX12_next_335
                        · have c_2698i := i_nle (x := ta.toInt) (y := v_2653.toInt) rfl rfl c_2698
                          replace hE := hE.trans (if_neg c_2698)
                          refine lv_aload_n hx hb dX12_next_168 rfl (lv_at hl 0 rfl) (va_get (ci := 12) (v := .ref t0) (C := RX12) (T := TX12) (N := 60) hx hb hts hw12 hown hK hP 0 rfl rfl 12 (by decide +kernel) (hts _ mm_X12_next_842) (fun _ h9 => h9) rfl dX12_next_169 (lv_aload_n hx hb dX12_next_172 rfl (lv_at hl 0 rfl) (va_get (ci := 12) (v := .int v_2653) (C := RX12) (T := TX12) (N := 60) hx hb hts hw12 hown hK hP 0 rfl rfl 15 (by decide +kernel) (hts _ mm_X12_next_845) (fun _ h9 => h9) rfl dX12_next_173 (va_iald hx hb hK hP 1 0 rfl rfl (i_in rfl (by omega)) dX12_next_176 (lv_topi (fun x_2700 ex_2700 => ?_))))))
                          replace hE := hE.trans (Lt_in ex_2700)
                          have kx_2700 : ft (v_2653.toInt).toNat = x_2700 := by rw [ex_2700, i_clamp rfl]
                          refine pci (va_runS (As := [.int x_2700]) (rest := []) ⟨hx, hb, hml, hown, hts⟩ (v_isSmall l D K x_2700.toInt x_2700 H.size rfl) (va_cwS 1 hts gX12_next_X12_isSmall rfl rfl rfl (by decide +kernel) ⟨Nat.le_of_ble_eq_true rfl, Nat.le_of_ble_eq_true rfl⟩) (mkS hK hN (va_P.nil) (va_D.nil (A := fun _ => True))) rfl rfl hl.1 rfl (lv_room (Nat.le_of_ble_eq_true rfl)) dX12_next_177 ⟨Nat.le_of_ble_eq_true rfl, Nat.le_of_ble_eq_true rfl⟩) (fun r_2701 hw => ?_)
                          obtain ⟨hw, k_2702, -⟩ := hw
                          replace hE := hE.trans (Lt_in k_2702)
                          rcases hw with ⟨rfl, h_2703, h_2704⟩ | ⟨rfl, h_2705⟩
                          · replace hE := (hE).trans (if_pos rfl)
                            refine lv_if_eq (tgt := 243) hx hb dX12_next_180 (by decide +kernel) (fun c_2706 => absurd c_2706 (by decide +kernel)) (fun c_2706 => ?_)
                            refine lv_aload_n hx hb dX12_next_183 rfl (lv_at hl 0 rfl) (lv_aload_n hx hb dX12_next_184 rfl (lv_at hl 0 rfl) (va_get (ci := 12) (v := .int v_2653) (C := RX12) (T := TX12) (N := 60) hx hb hts hw12 hown hK hP 0 rfl rfl 15 (by decide +kernel) (hts _ mm_X12_next_845) (fun _ h9 => h9) rfl dX12_next_185 (lv_aload_n hx hb dX12_next_188 rfl (lv_at hl 0 rfl) (va_get (ci := 12) (v := .int v_1944) (C := RX12) (T := TX12) (N := 60) hx hb hts hw12 hown hK hP 0 rfl rfl 14 (by decide +kernel) (hts _ mm_X12_next_844) (fun _ h9 => h9) rfl dX12_next_189 (lv_isub hx hb dX12_next_192 (lv_topi (fun x_2707 ex_2707 => ?_)))))))
                            replace hE := hE.trans (Lt_in ex_2707)
                            have hx_2707 : x_2707.toInt = (v_2653.toInt - v_1944.toInt) := by rw [ex_2707]; exact i_sub rfl rfl (by omega)
                            refine lv_bipush (v := 10) hx hb dX12_next_193 (by decide +kernel) (lv_icmp_ge (tgt := 224) hx hb dX12_next_195 (by decide +kernel) (fun c_2708 => ?_) (fun c_2708 => ?_))
                            · have c_2708i := i_le (x := 10) (y := (v_2653.toInt - v_1944.toInt)) rfl hx_2707 c_2708
                              replace hE := hE.trans (if_pos c_2708)
                              refine lv_ldc2 (v := (-1)) hx hb hown (hts _ mm_X12_next_1008) dX12_next_224 (va_put (ci := 12) (v := .long (-1)) (ty := .long) (C := RX12) (T := TX12) (N := 60) hx hb hts hw12 tyX12 tyX12_ok nmX12 hown hK hP hD hS 0 rfl rfl 17 (by decide +kernel) (hts _ mm_X12_next_847) (fun _ h9 => h9) rfl (by decide +kernel) (by first | rfl | decide) (by first | rfl | decide) (Nat.le_of_ble_eq_true rfl) dX12_next_227 (fun H locs hP0 hD0 hS0 => ?_))
                              replace hP : va_P D vwCl [(cc_O m0 12 [m_0, m_1, m_2, m_3, m_4, m_5, m_6, m_7, m_8, m_9, m_10, m_11, .ref t0, .int ta, .int v_1944, .int v_2653, .int 1, .long (-1), m_18, m_19, m_20, m_21, m_22, m_23, m_24, m_25, m_26, m_27, m_28, m_29, m_30, m_31, m_32, m_33, m_34, m_35, m_36, m_37, m_38, m_39, m_40, m_41, m_42, m_43, m_44, m_45, m_46, m_47, m_48, m_49, m_50, m_51, m_52, m_53, m_54, m_55, m_56, m_57, m_58, m_59]), (cc_l t0 (K 0) 400 ft)] H := hP0
                              replace hD := as_D hP hD0 rfl
                              replace hS := hS0
                              clear hP0 hD0 hS0
                              refine lv_aload_n hx hb dX12_next_230 rfl (lv_at hl 0 rfl) (lv_dup hx hb dX12_next_231 rfl (va_get (ci := 12) (v := .int v_2653) (C := RX12) (T := TX12) (N := 60) hx hb hts hw12 hown hK hP 0 rfl rfl 15 (by decide +kernel) (hts _ mm_X12_next_845) (fun _ h9 => h9) rfl dX12_next_232 (lv_iconst (v := 1) hx hb dX12_next_235 (by decide +kernel) (lv_iadd hx hb dX12_next_236 (lv_topi (fun x_2709 ex_2709 => ?_))))))
                              replace hE := hE.trans (Lt_in ex_2709)
                              have hx_2709 : x_2709.toInt = (v_2653.toInt + 1) := by rw [ex_2709]; exact i_add rfl (show (1 : Int32).toInt = 1 from rfl) (by omega)
                              refine va_put (ci := 12) (v := .int x_2709) (ty := .int) (C := RX12) (T := TX12) (N := 60) hx hb hts hw12 tyX12 tyX12_ok nmX12 hown hK hP hD hS 0 rfl rfl 15 (by decide +kernel) (hts _ mm_X12_next_845) (fun _ h9 => h9) rfl (by decide +kernel) (by first | rfl | decide) (by first | rfl | decide) (Nat.le_of_ble_eq_true rfl) dX12_next_237 (fun H locs hP0 hD0 hS0 => ?_)
                              replace hP : va_P D vwCl [(cc_O m0 12 [m_0, m_1, m_2, m_3, m_4, m_5, m_6, m_7, m_8, m_9, m_10, m_11, .ref t0, .int ta, .int v_1944, .int x_2709, .int 1, .long (-1), m_18, m_19, m_20, m_21, m_22, m_23, m_24, m_25, m_26, m_27, m_28, m_29, m_30, m_31, m_32, m_33, m_34, m_35, m_36, m_37, m_38, m_39, m_40, m_41, m_42, m_43, m_44, m_45, m_46, m_47, m_48, m_49, m_50, m_51, m_52, m_53, m_54, m_55, m_56, m_57, m_58, m_59]), (cc_l t0 (K 0) 400 ft)] H := hP0
                              replace hD := as_D hP hD0 rfl
                              replace hS := hS0
                              clear hP0 hD0 hS0
                              refine lv_goto (tgt := 149) hx hb dX12_next_240 (by decide +kernel) ?_
                              have hz_2710 : ((-1) : Int64).toInt = (-1) := rfl
                              exact ih_2696 x_2709 (-1) (by rw [hx_2709]; omega) (show v_1944.toInt < (x_2709 : Int32).toInt ∧ (x_2709 : Int32).toInt ≤ ta.toInt ∧ (v_1944.toInt + 1 < (x_2709 : Int32).toInt ∨ ((-1) : Int64).toInt ≤ 26) by omega) (by omega) (hE.trans (by rw [hrec_2695])) _ _ hP hD hS ls (lv_sub hl [0] rfl)
                            · have c_2708i := i_nle (x := 10) (y := (v_2653.toInt - v_1944.toInt)) rfl hx_2707 c_2708
                              replace hE := hE.trans (if_neg c_2708)
                              refine lv_aload_n hx hb dX12_next_198 rfl (lv_at hl 0 rfl) (va_get (ci := 12) (v := .long v_2654) (C := RX12) (T := TX12) (N := 60) hx hb hts hw12 hown hK hP 0 rfl rfl 17 (by decide +kernel) (hts _ mm_X12_next_847) (fun _ h9 => h9) rfl dX12_next_199 (lv_ldc2 (v := 32) hx hb hown (hts _ mm_X12_next_1089) dX12_next_202 (lv_lmul hx hb dX12_next_205 (lv_topl (fun x_2711 ex_2711 => ?_)))))
                              replace hE := hE.trans (Lt_in ex_2711)
                              refine lv_aload_n hx hb dX12_next_206 rfl (lv_at hl 0 rfl) (va_get (ci := 12) (v := .ref t0) (C := RX12) (T := TX12) (N := 60) hx hb hts hw12 hown hK hP 0 rfl rfl 12 (by decide +kernel) (hts _ mm_X12_next_842) (fun _ h9 => h9) rfl dX12_next_207 (lv_aload_n hx hb dX12_next_210 rfl (lv_at hl 0 rfl) (va_get (ci := 12) (v := .int v_2653) (C := RX12) (T := TX12) (N := 60) hx hb hts hw12 hown hK hP 0 rfl rfl 15 (by decide +kernel) (hts _ mm_X12_next_845) (fun _ h9 => h9) rfl dX12_next_211 (va_iald hx hb hK hP 1 0 rfl rfl (i_in rfl (by omega)) dX12_next_214 (lv_topi (fun x_2712 ex_2712 => ?_))))))
                              replace hE := hE.trans (Lt_in ex_2712)
                              have erx_2712 : x_2712 = x_2700 := ex_2712.trans (by rw [i_clamp rfl]; exact kx_2700)
                              have hrx_2712 : x_2712.toInt = x_2700.toInt := (congrArg Int32.toInt erx_2712).trans rfl
                              refine lv_i2l hx hb dX12_next_215 rfl (lv_topl (fun x_2713 ex_2713 => ?_))
                              replace hE := hE.trans (Lt_in ex_2713)
                              have hx_2713 : x_2713.toInt = x_2700.toInt := by rw [ex_2713]; exact i_wide hrx_2712
                              refine lv_ladd hx hb dX12_next_216 (lv_topl (fun x_2714 ex_2714 => ?_))
                              replace hE := hE.trans (Lt_in ex_2714)
                              refine lv_ldc2 (v := 96) hx hb hown (hts _ mm_X12_next_1090) dX12_next_217 (lv_lsub hx hb dX12_next_220 (lv_topl (fun x_2715 ex_2715 => ?_)))
                              replace hE := hE.trans (Lt_in ex_2715)
                              refine lv_goto (tgt := 227) hx hb dX12_next_221 (by decide +kernel) (va_put (ci := 12) (v := .long x_2715) (ty := .long) (C := RX12) (T := TX12) (N := 60) hx hb hts hw12 tyX12 tyX12_ok nmX12 hown hK hP hD hS 0 rfl rfl 17 (by decide +kernel) (hts _ mm_X12_next_847) (fun _ h9 => h9) rfl (by decide +kernel) (by first | rfl | decide) (by first | rfl | decide) (Nat.le_of_ble_eq_true rfl) dX12_next_227 (fun H locs hP0 hD0 hS0 => ?_))
                              replace hP : va_P D vwCl [(cc_O m0 12 [m_0, m_1, m_2, m_3, m_4, m_5, m_6, m_7, m_8, m_9, m_10, m_11, .ref t0, .int ta, .int v_1944, .int v_2653, .int 1, .long x_2715, m_18, m_19, m_20, m_21, m_22, m_23, m_24, m_25, m_26, m_27, m_28, m_29, m_30, m_31, m_32, m_33, m_34, m_35, m_36, m_37, m_38, m_39, m_40, m_41, m_42, m_43, m_44, m_45, m_46, m_47, m_48, m_49, m_50, m_51, m_52, m_53, m_54, m_55, m_56, m_57, m_58, m_59]), (cc_l t0 (K 0) 400 ft)] H := hP0
                              replace hD := as_D hP hD0 rfl
                              replace hS := hS0
                              clear hP0 hD0 hS0
                              refine lv_aload_n hx hb dX12_next_230 rfl (lv_at hl 0 rfl) (lv_dup hx hb dX12_next_231 rfl (va_get (ci := 12) (v := .int v_2653) (C := RX12) (T := TX12) (N := 60) hx hb hts hw12 hown hK hP 0 rfl rfl 15 (by decide +kernel) (hts _ mm_X12_next_845) (fun _ h9 => h9) rfl dX12_next_232 (lv_iconst (v := 1) hx hb dX12_next_235 (by decide +kernel) (lv_iadd hx hb dX12_next_236 (lv_topi (fun x_2716 ex_2716 => ?_))))))
                              replace hE := hE.trans (Lt_in ex_2716)
                              have hx_2716 : x_2716.toInt = (v_2653.toInt + 1) := by rw [ex_2716]; exact i_add rfl (show (1 : Int32).toInt = 1 from rfl) (by omega)
                              refine va_put (ci := 12) (v := .int x_2716) (ty := .int) (C := RX12) (T := TX12) (N := 60) hx hb hts hw12 tyX12 tyX12_ok nmX12 hown hK hP hD hS 0 rfl rfl 15 (by decide +kernel) (hts _ mm_X12_next_845) (fun _ h9 => h9) rfl (by decide +kernel) (by first | rfl | decide) (by first | rfl | decide) (Nat.le_of_ble_eq_true rfl) dX12_next_237 (fun H locs hP0 hD0 hS0 => ?_)
                              replace hP : va_P D vwCl [(cc_O m0 12 [m_0, m_1, m_2, m_3, m_4, m_5, m_6, m_7, m_8, m_9, m_10, m_11, .ref t0, .int ta, .int v_1944, .int x_2716, .int 1, .long x_2715, m_18, m_19, m_20, m_21, m_22, m_23, m_24, m_25, m_26, m_27, m_28, m_29, m_30, m_31, m_32, m_33, m_34, m_35, m_36, m_37, m_38, m_39, m_40, m_41, m_42, m_43, m_44, m_45, m_46, m_47, m_48, m_49, m_50, m_51, m_52, m_53, m_54, m_55, m_56, m_57, m_58, m_59]), (cc_l t0 (K 0) 400 ft)] H := hP0
                              replace hD := as_D hP hD0 rfl
                              replace hS := hS0
                              clear hP0 hD0 hS0
                              refine lv_goto (tgt := 149) hx hb dX12_next_240 (by decide +kernel) ?_
                              exact ih_2696 x_2716 x_2715 (by rw [hx_2716]; omega) (show v_1944.toInt < (x_2716 : Int32).toInt ∧ (x_2716 : Int32).toInt ≤ ta.toInt ∧ (v_1944.toInt + 1 < (x_2716 : Int32).toInt ∨ (x_2715 : Int64).toInt ≤ 26) by omega) (by omega) (hE.trans (by rw [hrec_2695])) _ _ hP hD hS ls (lv_sub hl [0] rfl)
                          · replace hE := (hE).trans (if_neg (by first | decide | (intro h9; have h8 := congrArg Int32.toInt h9; omega)))
                            refine lv_if_eq (tgt := 243) hx hb dX12_next_180 (by decide +kernel) (fun c_2717 => ?_) (fun c_2717 => absurd (by decide +kernel) c_2717)
                            refine lv_aload_n hx hb dX12_next_243 rfl (lv_at hl 0 rfl) (va_get (ci := 12) (v := .int 1) (C := RX12) (T := TX12) (N := 60) hx hb hts hw12 hown hK hP 0 rfl rfl 16 (by decide +kernel) (hts _ mm_X12_next_846) (fun _ h9 => h9) rfl dX12_next_244 (lv_iconst (v := 2) hx hb dX12_next_247 (by decide +kernel) (lv_icmp_ne (tgt := 335) hx hb dX12_next_248 (by decide +kernel) (fun c_2718 => ?_) (fun c_2718 => absurd c_2718 (by decide +kernel)))))
                            rw [← hQ]
                            have hP9 := hP.sub (ws' := [(cc_O m0 12 [m_0, m_1, m_2, m_3, m_4, m_5, m_6, m_7, m_8, m_9, m_10, m_11, .ref t0, .int ta, .int v_1944, .int v_2653, .int 1, .long v_2654, m_18, m_19, m_20, m_21, m_22, m_23, m_24, m_25, m_26, m_27, m_28, m_29, m_30, m_31, m_32, m_33, m_34, m_35, m_36, m_37, m_38, m_39, m_40, m_41, m_42, m_43, m_44, m_45, m_46, m_47, m_48, m_49, m_50, m_51, m_52, m_53, m_54, m_55, m_56, m_57, m_58, m_59]), (cc_l t0 (K 0) 400 ft)]) [0, 1] rfl
                            have hD9 := sub_D hP9 hD [0, 1] (by decide +kernel) rfl
                            exact W.vret hx hb hr (fun t ht hW => ⟨⟨((fun _ => 0, fun _ => fun _ => 0, fun _ => fun _ => 0, fun i => match i with | 0 => v_1944 | 1 => v_2653 | _ => 1, fun i => match i with | _ => v_2654, fun _ => fun _ => none) : Su), rfl, ⟨(show 0 ≤ (v_1944 : Int32).toInt ∧ (v_1944 : Int32).toInt ≤ 400 by omega), (show 0 ≤ (v_2653 : Int32).toInt ∧ (v_2653 : Int32).toInt ≤ 401 by omega), (show 0 ≤ (1 : Int32).toInt ∧ (1 : Int32).toInt ≤ 3 by decide), hE.symm, (show ((0 ≤ (v_1944 : Int32).toInt ∧ (v_1944 : Int32).toInt ≤ (v_2653 : Int32).toInt ∧ (v_2653 : Int32).toInt ≤ ta.toInt) ∧ (1 = 0 ∨ (v_1944 : Int32).toInt < (v_2653 : Int32).toInt) ∧ (1 ≠ 1 ∨ (v_1944 : Int32).toInt + 1 < (v_2653 : Int32).toInt ∨ (v_2654 : Int64).toInt ≤ 26)) by omega), (show to.toInt ≤ (v_1944 : Int32).toInt by omega), trivial⟩, (⟨by rw [ht]; exact hP9, hD9⟩ : Wd D A _ t)⟩, hS.F ht⟩) hS.2.2 dX12_next_335
                    exact lp_2695 ((ta.toInt - (x_2591 : Int32).toInt : Int).toNat + 1) x_2591 x_2590 (by rw [hx_2591]; omega) (show v_1944.toInt < (x_2591 : Int32).toInt ∧ (x_2591 : Int32).toInt ≤ ta.toInt ∧ (v_1944.toInt + 1 < (x_2591 : Int32).toInt ∨ (x_2590 : Int64).toInt ≤ 26) by omega) (Nat.lt_succ_self _) hE _ _ hP hD hS ls (lv_sub hl [0] rfl)
                · replace hE := (hE).trans (if_neg (by first | decide | (intro h9; have h8 := congrArg Int32.toInt h9; omega)))
                  exfalso; omega
            · replace hE := (hE).trans (if_neg (by first | decide | (intro h9; have h8 := congrArg Int32.toInt h9; omega)))
              refine lv_if_eq (tgt := 94) hx hb dX12_next_87 (by decide +kernel) (fun c_2719 => ?_) (fun c_2719 => absurd (by decide +kernel) c_2719)
              refine lv_aload_n hx hb dX12_next_94 rfl (lv_at hl 0 rfl) (va_get (ci := 12) (v := .ref t0) (C := RX12) (T := TX12) (N := 60) hx hb hts hw12 hown hK hP 0 rfl rfl 12 (by decide +kernel) (hts _ mm_X12_next_842) (fun _ h9 => h9) rfl dX12_next_95 (lv_aload_n hx hb dX12_next_98 rfl (lv_at hl 0 rfl) (va_get (ci := 12) (v := .int v_1944) (C := RX12) (T := TX12) (N := 60) hx hb hts hw12 hown hK hP 0 rfl rfl 14 (by decide +kernel) (hts _ mm_X12_next_844) (fun _ h9 => h9) rfl dX12_next_99 (va_iald hx hb hK hP 1 0 rfl rfl (i_in rfl (by omega)) dX12_next_102 (lv_topi (fun x_2720 ex_2720 => ?_))))))
              replace hE := hE.trans (Lt_in ex_2720)
              have erx_2720 : x_2720 = x_2413 := ex_2720.trans (by rw [i_clamp rfl]; exact kx_2413)
              have hrx_2720 : x_2720.toInt = x_2413.toInt := (congrArg Int32.toInt erx_2720).trans rfl
              refine pci (va_runS (As := [.int x_2720]) (rest := [.ref m0]) ⟨hx, hb, hml, hown, hts⟩ (v_isDigit l D K x_2413.toInt x_2720 H.size hrx_2720) (va_cwS 1 hts gX12_next_X12_isDigit rfl rfl rfl (by decide +kernel) ⟨Nat.le_of_ble_eq_true rfl, Nat.le_of_ble_eq_true rfl⟩) (mkS hK hN (va_P.nil) (va_D.nil (A := fun _ => True))) rfl rfl hl.1 rfl (lv_room (Nat.le_of_ble_eq_true rfl)) dX12_next_103 ⟨Nat.le_of_ble_eq_true rfl, Nat.le_of_ble_eq_true rfl⟩) (fun r_2721 hw => ?_)
              obtain ⟨hw, k_2722, -⟩ := hw
              replace hE := hE.trans (Lt_in k_2722)
              rcases hw with ⟨rfl, h_2723, h_2724⟩ | ⟨rfl, h_2725⟩
              · replace hE := (hE).trans (if_pos rfl)
                refine lv_if_eq (tgt := 113) hx hb dX12_next_106 (by decide +kernel) (fun c_2726 => absurd c_2726 (by decide +kernel)) (fun c_2726 => ?_)
                refine lv_iconst (v := 2) hx hb dX12_next_109 (by decide +kernel) (lv_goto (tgt := 114) hx hb dX12_next_110 (by decide +kernel) (va_put (ci := 12) (v := .int 2) (ty := .int) (C := RX12) (T := TX12) (N := 60) hx hb hts hw12 tyX12 tyX12_ok nmX12 hown hK hP hD hS 0 rfl rfl 16 (by decide +kernel) (hts _ mm_X12_next_846) (fun _ h9 => h9) rfl (by decide +kernel) (by first | rfl | decide) (by first | rfl | decide) (Nat.le_of_ble_eq_true rfl) dX12_next_114 (fun H locs hP0 hD0 hS0 => ?_)))
                replace hP : va_P D vwCl [(cc_O m0 12 [m_0, m_1, m_2, m_3, m_4, m_5, m_6, m_7, m_8, m_9, m_10, m_11, .ref t0, .int ta, .int v_1944, .int v_1944, .int 2, .long 0, m_18, m_19, m_20, m_21, m_22, m_23, m_24, m_25, m_26, m_27, m_28, m_29, m_30, m_31, m_32, m_33, m_34, m_35, m_36, m_37, m_38, m_39, m_40, m_41, m_42, m_43, m_44, m_45, m_46, m_47, m_48, m_49, m_50, m_51, m_52, m_53, m_54, m_55, m_56, m_57, m_58, m_59]), (cc_l t0 (K 0) 400 ft)] H := hP0
                replace hD := as_D hP hD0 rfl
                replace hS := hS0
                clear hP0 hD0 hS0
                refine lv_aload_n hx hb dX12_next_117 rfl (lv_at hl 0 rfl) (va_get (ci := 12) (v := .int 2) (C := RX12) (T := TX12) (N := 60) hx hb hts hw12 hown hK hP 0 rfl rfl 16 (by decide +kernel) (hts _ mm_X12_next_846) (fun _ h9 => h9) rfl dX12_next_118 (lv_iconst (v := 3) hx hb dX12_next_121 (by decide +kernel) (lv_icmp_ne (tgt := 149) hx hb dX12_next_122 (by decide +kernel) (fun c_2727 => ?_) (fun c_2727 => absurd c_2727 (by decide +kernel)))))
                refine lv_aload_n hx hb dX12_next_149 rfl (lv_at hl 0 rfl) (va_get (ci := 12) (v := .int 2) (C := RX12) (T := TX12) (N := 60) hx hb hts hw12 hown hK hP 0 rfl rfl 16 (by decide +kernel) (hts _ mm_X12_next_846) (fun _ h9 => h9) rfl dX12_next_150 (lv_iconst (v := 1) hx hb dX12_next_153 (by decide +kernel) (lv_icmp_ne (tgt := 243) hx hb dX12_next_154 (by decide +kernel) (fun c_2728 => ?_) (fun c_2728 => absurd c_2728 (by decide +kernel)))))
                refine lv_aload_n hx hb dX12_next_243 rfl (lv_at hl 0 rfl) (va_get (ci := 12) (v := .int 2) (C := RX12) (T := TX12) (N := 60) hx hb hts hw12 hown hK hP 0 rfl rfl 16 (by decide +kernel) (hts _ mm_X12_next_846) (fun _ h9 => h9) rfl dX12_next_244 (lv_iconst (v := 2) hx hb dX12_next_247 (by decide +kernel) (lv_icmp_ne (tgt := 335) hx hb dX12_next_248 (by decide +kernel) (fun c_2729 => absurd (by decide +kernel) c_2729) (fun c_2729 => ?_))))
                refine lv_aload_n hx hb dX12_next_251 rfl (lv_at hl 0 rfl) (va_get (ci := 12) (v := .int v_1944) (C := RX12) (T := TX12) (N := 60) hx hb hts hw12 hown hK hP 0 rfl rfl 15 (by decide +kernel) (hts _ mm_X12_next_845) (fun _ h9 => h9) rfl dX12_next_252 (lv_aload_n hx hb dX12_next_255 rfl (lv_at hl 0 rfl) (va_get (ci := 12) (v := .int ta) (C := RX12) (T := TX12) (N := 60) hx hb hts hw12 hown hK hP 0 rfl rfl 13 (by decide +kernel) (hts _ mm_X12_next_843) (fun _ h9 => h9) rfl dX12_next_256 (lv_icmp_ge (tgt := 335) hx hb dX12_next_259 (by decide +kernel) (fun c_2730 => ?_) (fun c_2730 => ?_)))))
                · have c_2730i := i_le (x := ta.toInt) (y := v_1944.toInt) rfl rfl c_2730
                  replace hE := hE.trans (if_pos c_2730)
                  rw [← hQ]
                  have hP9 := hP.sub (ws' := [(cc_O m0 12 [m_0, m_1, m_2, m_3, m_4, m_5, m_6, m_7, m_8, m_9, m_10, m_11, .ref t0, .int ta, .int v_1944, .int v_1944, .int 2, .long 0, m_18, m_19, m_20, m_21, m_22, m_23, m_24, m_25, m_26, m_27, m_28, m_29, m_30, m_31, m_32, m_33, m_34, m_35, m_36, m_37, m_38, m_39, m_40, m_41, m_42, m_43, m_44, m_45, m_46, m_47, m_48, m_49, m_50, m_51, m_52, m_53, m_54, m_55, m_56, m_57, m_58, m_59]), (cc_l t0 (K 0) 400 ft)]) [0, 1] rfl
                  have hD9 := sub_D hP9 hD [0, 1] (by decide +kernel) rfl
                  exact W.vret hx hb hr (fun t ht hW => ⟨⟨((fun _ => 0, fun _ => fun _ => 0, fun _ => fun _ => 0, fun i => match i with | 0 => v_1944 | 1 => v_1944 | _ => 2, fun i => match i with | _ => 0, fun _ => fun _ => none) : Su), rfl, ⟨(show 0 ≤ (v_1944 : Int32).toInt ∧ (v_1944 : Int32).toInt ≤ 400 by omega), (show 0 ≤ (v_1944 : Int32).toInt ∧ (v_1944 : Int32).toInt ≤ 401 by omega), (show 0 ≤ (2 : Int32).toInt ∧ (2 : Int32).toInt ≤ 3 by decide), hE.symm, (show ((0 ≤ (v_1944 : Int32).toInt ∧ (v_1944 : Int32).toInt ≤ (v_1944 : Int32).toInt ∧ (v_1944 : Int32).toInt ≤ ta.toInt) ∧ (2 = 0 ∨ (v_1944 : Int32).toInt < (v_1944 : Int32).toInt) ∧ (2 ≠ 1 ∨ (v_1944 : Int32).toInt + 1 < (v_1944 : Int32).toInt ∨ 0 ≤ 26)) by omega), (show to.toInt ≤ (v_1944 : Int32).toInt by omega), trivial⟩, (⟨by rw [ht]; exact hP9, hD9⟩ : Wd D A _ t)⟩, hS.F ht⟩) hS.2.2 dX12_next_335
                · have c_2730i := i_nle (x := ta.toInt) (y := v_1944.toInt) rfl rfl c_2730
                  replace hE := hE.trans (if_neg c_2730)
                  refine lv_aload_n hx hb dX12_next_262 rfl (lv_at hl 0 rfl) (va_get (ci := 12) (v := .ref t0) (C := RX12) (T := TX12) (N := 60) hx hb hts hw12 hown hK hP 0 rfl rfl 12 (by decide +kernel) (hts _ mm_X12_next_842) (fun _ h9 => h9) rfl dX12_next_263 (lv_aload_n hx hb dX12_next_266 rfl (lv_at hl 0 rfl) (va_get (ci := 12) (v := .int v_1944) (C := RX12) (T := TX12) (N := 60) hx hb hts hw12 hown hK hP 0 rfl rfl 15 (by decide +kernel) (hts _ mm_X12_next_845) (fun _ h9 => h9) rfl dX12_next_267 (va_iald hx hb hK hP 1 0 rfl rfl (i_in rfl (by omega)) dX12_next_270 (lv_topi (fun x_2731 ex_2731 => ?_))))))
                  replace hE := hE.trans (Lt_in ex_2731)
                  have erx_2731 : x_2731 = x_2413 := ex_2731.trans (by rw [i_clamp rfl]; exact kx_2413)
                  have hrx_2731 : x_2731.toInt = x_2413.toInt := (congrArg Int32.toInt erx_2731).trans rfl
                  refine pci (va_runS (As := [.int x_2731]) (rest := []) ⟨hx, hb, hml, hown, hts⟩ (v_isDigit l D K x_2413.toInt x_2731 H.size hrx_2731) (va_cwS 1 hts gX12_next_X12_isDigit rfl rfl rfl (by decide +kernel) ⟨Nat.le_of_ble_eq_true rfl, Nat.le_of_ble_eq_true rfl⟩) (mkS hK hN (va_P.nil) (va_D.nil (A := fun _ => True))) rfl rfl hl.1 rfl (lv_room (Nat.le_of_ble_eq_true rfl)) dX12_next_271 ⟨Nat.le_of_ble_eq_true rfl, Nat.le_of_ble_eq_true rfl⟩) (fun r_2732 hw => ?_)
                  obtain ⟨hw, k_2733, -⟩ := hw
                  replace hE := hE.trans (Lt_in k_2733)
                  rcases hw with ⟨rfl, h_2734, h_2735⟩ | ⟨rfl, h_2736⟩
                  · replace hE := (hE).trans (if_pos rfl)
                    refine lv_if_eq (tgt := 335) hx hb dX12_next_274 (by decide +kernel) (fun c_2737 => absurd c_2737 (by decide +kernel)) (fun c_2737 => ?_)
                    refine lv_aload_n hx hb dX12_next_277 rfl (lv_at hl 0 rfl) (lv_aload_n hx hb dX12_next_278 rfl (lv_at hl 0 rfl) (va_get (ci := 12) (v := .long 0) (C := RX12) (T := TX12) (N := 60) hx hb hts hw12 hown hK hP 0 rfl rfl 17 (by decide +kernel) (hts _ mm_X12_next_847) (fun _ h9 => h9) rfl dX12_next_279 (lv_ldc2 (v := 1000000) hx hb hown (hts _ mm_X12_next_1091) dX12_next_282 ?_)))
                    refine W.lcmp hx hb dX12_next_285 ?_
                    refine lv_if_le (tgt := 296) hx hb dX12_next_286 (by decide +kernel) (fun c_2738 => ?_) (fun c_2738 => absurd (by decide +kernel) c_2738)
                    refine lv_aload_n hx hb dX12_next_296 rfl (lv_at hl 0 rfl) (va_get (ci := 12) (v := .long 0) (C := RX12) (T := TX12) (N := 60) hx hb hts hw12 hown hK hP 0 rfl rfl 17 (by decide +kernel) (hts _ mm_X12_next_847) (fun _ h9 => h9) rfl dX12_next_297 (lv_ldc2 (v := 10) hx hb hown (hts _ mm_X12_next_1045) dX12_next_300 (lv_lmul hx hb dX12_next_303 (lv_topl (fun x_2739 ex_2739 => ?_)))))
                    obtain rfl : x_2739 = 0 := ex_2739.trans (by first | rfl | decide)
                    refine lv_aload_n hx hb dX12_next_304 rfl (lv_at hl 0 rfl) (va_get (ci := 12) (v := .ref t0) (C := RX12) (T := TX12) (N := 60) hx hb hts hw12 hown hK hP 0 rfl rfl 12 (by decide +kernel) (hts _ mm_X12_next_842) (fun _ h9 => h9) rfl dX12_next_305 (lv_aload_n hx hb dX12_next_308 rfl (lv_at hl 0 rfl) (va_get (ci := 12) (v := .int v_1944) (C := RX12) (T := TX12) (N := 60) hx hb hts hw12 hown hK hP 0 rfl rfl 15 (by decide +kernel) (hts _ mm_X12_next_845) (fun _ h9 => h9) rfl dX12_next_309 (va_iald hx hb hK hP 1 0 rfl rfl (i_in rfl (by omega)) dX12_next_312 (lv_topi (fun x_2740 ex_2740 => ?_))))))
                    replace hE := hE.trans (Lt_in ex_2740)
                    have erx_2740 : x_2740 = x_2413 := ex_2740.trans (by rw [i_clamp rfl]; exact kx_2413)
                    have hrx_2740 : x_2740.toInt = x_2413.toInt := (congrArg Int32.toInt erx_2740).trans rfl
                    refine lv_i2l hx hb dX12_next_313 rfl (lv_topl (fun x_2741 ex_2741 => ?_))
                    replace hE := hE.trans (Lt_in ex_2741)
                    have hx_2741 : x_2741.toInt = x_2413.toInt := by rw [ex_2741]; exact i_wide hrx_2740
                    refine lv_ladd hx hb dX12_next_314 (lv_topl (fun x_2742 ex_2742 => ?_))
                    replace hE := hE.trans (Lt_in ex_2742)
                    have hx_2742 : x_2742.toInt = (0 + x_2413.toInt) := by rw [ex_2742]; exact l_add (show (0 : Int64).toInt = 0 from rfl) hx_2741 (by omega)
                    refine lv_ldc2 (v := 48) hx hb hown (hts _ mm_X12_next_1092) dX12_next_315 (lv_lsub hx hb dX12_next_318 (lv_topl (fun x_2743 ex_2743 => ?_)))
                    replace hE := hE.trans (Lt_in ex_2743)
                    have hx_2743 : x_2743.toInt = ((0 + x_2413.toInt) - 48) := by rw [ex_2743]; exact l_sub hx_2742 (show (48 : Int64).toInt = 48 from rfl) (by omega)
                    refine va_put (ci := 12) (v := .long x_2743) (ty := .long) (C := RX12) (T := TX12) (N := 60) hx hb hts hw12 tyX12 tyX12_ok nmX12 hown hK hP hD hS 0 rfl rfl 17 (by decide +kernel) (hts _ mm_X12_next_847) (fun _ h9 => h9) rfl (by decide +kernel) (by first | rfl | decide) (by first | rfl | decide) (Nat.le_of_ble_eq_true rfl) dX12_next_319 (fun H locs hP0 hD0 hS0 => ?_)
                    replace hP : va_P D vwCl [(cc_O m0 12 [m_0, m_1, m_2, m_3, m_4, m_5, m_6, m_7, m_8, m_9, m_10, m_11, .ref t0, .int ta, .int v_1944, .int v_1944, .int 2, .long x_2743, m_18, m_19, m_20, m_21, m_22, m_23, m_24, m_25, m_26, m_27, m_28, m_29, m_30, m_31, m_32, m_33, m_34, m_35, m_36, m_37, m_38, m_39, m_40, m_41, m_42, m_43, m_44, m_45, m_46, m_47, m_48, m_49, m_50, m_51, m_52, m_53, m_54, m_55, m_56, m_57, m_58, m_59]), (cc_l t0 (K 0) 400 ft)] H := hP0
                    replace hD := as_D hP hD0 rfl
                    replace hS := hS0
                    clear hP0 hD0 hS0
                    refine lv_aload_n hx hb dX12_next_322 rfl (lv_at hl 0 rfl) (lv_dup hx hb dX12_next_323 rfl (va_get (ci := 12) (v := .int v_1944) (C := RX12) (T := TX12) (N := 60) hx hb hts hw12 hown hK hP 0 rfl rfl 15 (by decide +kernel) (hts _ mm_X12_next_845) (fun _ h9 => h9) rfl dX12_next_324 (lv_iconst (v := 1) hx hb dX12_next_327 (by decide +kernel) (lv_iadd hx hb dX12_next_328 (lv_topi (fun x_2744 ex_2744 => ?_))))))
                    replace hE := hE.trans (Lt_in ex_2744)
                    have hx_2744 : x_2744.toInt = (v_1944.toInt + 1) := by rw [ex_2744]; exact i_add rfl (show (1 : Int32).toInt = 1 from rfl) (by omega)
                    refine va_put (ci := 12) (v := .int x_2744) (ty := .int) (C := RX12) (T := TX12) (N := 60) hx hb hts hw12 tyX12 tyX12_ok nmX12 hown hK hP hD hS 0 rfl rfl 15 (by decide +kernel) (hts _ mm_X12_next_845) (fun _ h9 => h9) rfl (by decide +kernel) (by first | rfl | decide) (by first | rfl | decide) (Nat.le_of_ble_eq_true rfl) dX12_next_329 (fun H locs hP0 hD0 hS0 => ?_)
                    replace hP : va_P D vwCl [(cc_O m0 12 [m_0, m_1, m_2, m_3, m_4, m_5, m_6, m_7, m_8, m_9, m_10, m_11, .ref t0, .int ta, .int v_1944, .int x_2744, .int 2, .long x_2743, m_18, m_19, m_20, m_21, m_22, m_23, m_24, m_25, m_26, m_27, m_28, m_29, m_30, m_31, m_32, m_33, m_34, m_35, m_36, m_37, m_38, m_39, m_40, m_41, m_42, m_43, m_44, m_45, m_46, m_47, m_48, m_49, m_50, m_51, m_52, m_53, m_54, m_55, m_56, m_57, m_58, m_59]), (cc_l t0 (K 0) 400 ft)] H := hP0
                    replace hD := as_D hP hD0 rfl
                    replace hS := hS0
                    clear hP0 hD0 hS0
                    refine lv_goto (tgt := 243) hx hb dX12_next_332 (by decide +kernel) ?_
                    have lp_2841 : ∀ (nn_ : Nat) (v_2801 : Int32) (v_2802 : Int64) (hv_2801 : 1 ≤ v_2801.toInt ∧ v_2801.toInt ≤ 400) (hv_2802 : 0 ≤ v_2802.toInt) (hr0_lp_2841 : v_1944.toInt < v_2801.toInt ∧ v_2801.toInt ≤ ta.toInt) (hn : (ta.toInt - v_2801.toInt : Int).toNat < nn_) (hE : E_v_next ta fr to so wo ft = Lp (α := Int32 → Int64 → (Int32 × Int32 × Int32 × Int64)) (E_v_next_l243 ta ft v_1944) (fun _ _ => ((0, 0, 0, 0) : Int32 × Int32 × Int32 × Int64)) nn_ v_2801 v_2802) (H : Heap) (locs : List Loc) (hP : va_P D vwCl [(cc_O m0 12 [m_0, m_1, m_2, m_3, m_4, m_5, m_6, m_7, m_8, m_9, m_10, m_11, .ref t0, .int ta, .int v_1944, .int v_2801, .int 2, .long v_2802, m_18, m_19, m_20, m_21, m_22, m_23, m_24, m_25, m_26, m_27, m_28, m_29, m_30, m_31, m_32, m_33, m_34, m_35, m_36, m_37, m_38, m_39, m_40, m_41, m_42, m_43, m_44, m_45, m_46, m_47, m_48, m_49, m_50, m_51, m_52, m_53, m_54, m_55, m_56, m_57, m_58, m_59]), (cc_l t0 (K 0) 400 ft)] H) (hD : va_D A [(cc_O m0 12 [m_0, m_1, m_2, m_3, m_4, m_5, m_6, m_7, m_8, m_9, m_10, m_11, .ref t0, .int ta, .int v_1944, .int v_2801, .int 2, .long v_2802, m_18, m_19, m_20, m_21, m_22, m_23, m_24, m_25, m_26, m_27, m_28, m_29, m_30, m_31, m_32, m_33, m_34, m_35, m_36, m_37, m_38, m_39, m_40, m_41, m_42, m_43, m_44, m_45, m_46, m_47, m_48, m_49, m_50, m_51, m_52, m_53, m_54, m_55, m_56, m_57, m_58, m_59]), (cc_l t0 (K 0) 400 ft)]) (hS : va_S A s.heap H locs) (ls : Array Slot) (hl : lv_has ls 1 [(0, .ref m0)]), W p l e ({ frames := 1, cells := 0, slots := 0, locals := 20 }) s m (([.ref m0] : List Value).toArray) below meth c H locs 0 0 Q (F0 m 243 ls []) := by
                      clear hE hP hD hS hl
                      intro nn_
                      induction nn_ with
                      | zero =>
                        intro v_2801 v_2802 hv_2801 hv_2802 hr0_lp_2841 hn hE H locs hP hD hS ls hl
                        exact absurd hn (Nat.not_lt_zero _)
                      | succ nn_ ih_2842 =>
                        intro v_2801 v_2802 hv_2801 hv_2802 hr0_lp_2841 hn hE H locs hP hD hS ls hl
                        replace hE : E_v_next ta fr to so wo ft = E_v_next_l243 ta ft v_1944 (Lp (α := Int32 → Int64 → (Int32 × Int32 × Int32 × Int64)) (E_v_next_l243 ta ft v_1944) (fun _ _ => ((0, 0, 0, 0) : Int32 × Int32 × Int32 × Int64)) nn_) v_2801 v_2802 := hE
                        obtain ⟨rec_2841, hrec_2841⟩ : ∃ z9, z9 = Lp (α := Int32 → Int64 → (Int32 × Int32 × Int32 × Int64)) (E_v_next_l243 ta ft v_1944) (fun _ _ => ((0, 0, 0, 0) : Int32 × Int32 × Int32 × Int64)) nn_ := ⟨_, rfl⟩
                        rw [← hrec_2841] at hE
                        replace hE := hE.trans (E_v_next_l243.eq_def _ _ _ _ _ _)
                        refine lv_aload_n hx hb dX12_next_243 rfl (lv_at hl 0 rfl) (va_get (ci := 12) (v := .int 2) (C := RX12) (T := TX12) (N := 60) hx hb hts hw12 hown hK hP 0 rfl rfl 16 (by decide +kernel) (hts _ mm_X12_next_846) (fun _ h9 => h9) rfl dX12_next_244 (lv_iconst (v := 2) hx hb dX12_next_247 (by decide +kernel) (lv_icmp_ne (tgt := 335) hx hb dX12_next_248 (by decide +kernel) (fun c_2843 => absurd (by decide +kernel) c_2843) (fun c_2843 => ?_))))
                        refine lv_aload_n hx hb dX12_next_251 rfl (lv_at hl 0 rfl) (va_get (ci := 12) (v := .int v_2801) (C := RX12) (T := TX12) (N := 60) hx hb hts hw12 hown hK hP 0 rfl rfl 15 (by decide +kernel) (hts _ mm_X12_next_845) (fun _ h9 => h9) rfl dX12_next_252 (lv_aload_n hx hb dX12_next_255 rfl (lv_at hl 0 rfl) (va_get (ci := 12) (v := .int ta) (C := RX12) (T := TX12) (N := 60) hx hb hts hw12 hown hK hP 0 rfl rfl 13 (by decide +kernel) (hts _ mm_X12_next_843) (fun _ h9 => h9) rfl dX12_next_256 (lv_icmp_ge (tgt := 335) hx hb dX12_next_259 (by decide +kernel) (fun c_2844 => ?_) (fun c_2844 => ?_)))))
                        · have c_2844i := i_le (x := ta.toInt) (y := v_2801.toInt) rfl rfl c_2844
                          replace hE := hE.trans (if_pos c_2844)
                          rw [← hQ]
                          have hP9 := hP.sub (ws' := [(cc_O m0 12 [m_0, m_1, m_2, m_3, m_4, m_5, m_6, m_7, m_8, m_9, m_10, m_11, .ref t0, .int ta, .int v_1944, .int v_2801, .int 2, .long v_2802, m_18, m_19, m_20, m_21, m_22, m_23, m_24, m_25, m_26, m_27, m_28, m_29, m_30, m_31, m_32, m_33, m_34, m_35, m_36, m_37, m_38, m_39, m_40, m_41, m_42, m_43, m_44, m_45, m_46, m_47, m_48, m_49, m_50, m_51, m_52, m_53, m_54, m_55, m_56, m_57, m_58, m_59]), (cc_l t0 (K 0) 400 ft)]) [0, 1] rfl
                          have hD9 := sub_D hP9 hD [0, 1] (by decide +kernel) rfl
                          exact W.vret hx hb hr (fun t ht hW => ⟨⟨((fun _ => 0, fun _ => fun _ => 0, fun _ => fun _ => 0, fun i => match i with | 0 => v_1944 | 1 => v_2801 | _ => 2, fun i => match i with | _ => v_2802, fun _ => fun _ => none) : Su), rfl, ⟨(show 0 ≤ (v_1944 : Int32).toInt ∧ (v_1944 : Int32).toInt ≤ 400 by omega), (show 0 ≤ (v_2801 : Int32).toInt ∧ (v_2801 : Int32).toInt ≤ 401 by omega), (show 0 ≤ (2 : Int32).toInt ∧ (2 : Int32).toInt ≤ 3 by decide), hE.symm, (show ((0 ≤ (v_1944 : Int32).toInt ∧ (v_1944 : Int32).toInt ≤ (v_2801 : Int32).toInt ∧ (v_2801 : Int32).toInt ≤ ta.toInt) ∧ (2 = 0 ∨ (v_1944 : Int32).toInt < (v_2801 : Int32).toInt) ∧ (2 ≠ 1 ∨ (v_1944 : Int32).toInt + 1 < (v_2801 : Int32).toInt ∨ (v_2802 : Int64).toInt ≤ 26)) by omega), (show to.toInt ≤ (v_1944 : Int32).toInt by omega), trivial⟩, (⟨by rw [ht]; exact hP9, hD9⟩ : Wd D A _ t)⟩, hS.F ht⟩) hS.2.2 dX12_next_335
                        · have c_2844i := i_nle (x := ta.toInt) (y := v_2801.toInt) rfl rfl c_2844
                          replace hE := hE.trans (if_neg c_2844)
                          refine lv_aload_n hx hb dX12_next_262 rfl (lv_at hl 0 rfl) (va_get (ci := 12) (v := .ref t0) (C := RX12) (T := TX12) (N := 60) hx hb hts hw12 hown hK hP 0 rfl rfl 12 (by decide +kernel) (hts _ mm_X12_next_842) (fun _ h9 => h9) rfl dX12_next_263 (lv_aload_n hx hb dX12_next_266 rfl (lv_at hl 0 rfl) (va_get (ci := 12) (v := .int v_2801) (C := RX12) (T := TX12) (N := 60) hx hb hts hw12 hown hK hP 0 rfl rfl 15 (by decide +kernel) (hts _ mm_X12_next_845) (fun _ h9 => h9) rfl dX12_next_267 (va_iald hx hb hK hP 1 0 rfl rfl (i_in rfl (by omega)) dX12_next_270 (lv_topi (fun x_2845 ex_2845 => ?_))))))
                          replace hE := hE.trans (Lt_in ex_2845)
                          have kx_2845 : ft (v_2801.toInt).toNat = x_2845 := by rw [ex_2845, i_clamp rfl]
                          refine pci (va_runS (As := [.int x_2845]) (rest := []) ⟨hx, hb, hml, hown, hts⟩ (v_isDigit l D K x_2845.toInt x_2845 H.size rfl) (va_cwS 1 hts gX12_next_X12_isDigit rfl rfl rfl (by decide +kernel) ⟨Nat.le_of_ble_eq_true rfl, Nat.le_of_ble_eq_true rfl⟩) (mkS hK hN (va_P.nil) (va_D.nil (A := fun _ => True))) rfl rfl hl.1 rfl (lv_room (Nat.le_of_ble_eq_true rfl)) dX12_next_271 ⟨Nat.le_of_ble_eq_true rfl, Nat.le_of_ble_eq_true rfl⟩) (fun r_2846 hw => ?_)
                          obtain ⟨hw, k_2847, -⟩ := hw
                          replace hE := hE.trans (Lt_in k_2847)
                          rcases hw with ⟨rfl, h_2848, h_2849⟩ | ⟨rfl, h_2850⟩
                          · replace hE := (hE).trans (if_pos rfl)
                            refine lv_if_eq (tgt := 335) hx hb dX12_next_274 (by decide +kernel) (fun c_2851 => absurd c_2851 (by decide +kernel)) (fun c_2851 => ?_)
                            refine lv_aload_n hx hb dX12_next_277 rfl (lv_at hl 0 rfl) (lv_aload_n hx hb dX12_next_278 rfl (lv_at hl 0 rfl) (va_get (ci := 12) (v := .long v_2802) (C := RX12) (T := TX12) (N := 60) hx hb hts hw12 hown hK hP 0 rfl rfl 17 (by decide +kernel) (hts _ mm_X12_next_847) (fun _ h9 => h9) rfl dX12_next_279 (lv_ldc2 (v := 1000000) hx hb hown (hts _ mm_X12_next_1091) dX12_next_282 ?_)))
                            refine W.lcmp hx hb dX12_next_285 ?_
                            refine lv_if_le (tgt := 296) hx hb dX12_next_286 (by decide +kernel) (fun c_2852 => ?_) (fun c_2852 => ?_)
                            · have c_2852i := l_le (x := v_2802.toInt) (y := 1000000) rfl rfl ((lg_cmp_le v_2802 1000000).mp c_2852)
                              replace hE := hE.trans (if_pos c_2852)
                              refine lv_aload_n hx hb dX12_next_296 rfl (lv_at hl 0 rfl) (va_get (ci := 12) (v := .long v_2802) (C := RX12) (T := TX12) (N := 60) hx hb hts hw12 hown hK hP 0 rfl rfl 17 (by decide +kernel) (hts _ mm_X12_next_847) (fun _ h9 => h9) rfl dX12_next_297 (lv_ldc2 (v := 10) hx hb hown (hts _ mm_X12_next_1045) dX12_next_300 (lv_lmul hx hb dX12_next_303 (lv_topl (fun x_2853 ex_2853 => ?_)))))
                              replace hE := hE.trans (Lt_in ex_2853)
                              have hx_2853 : x_2853.toInt = (v_2802.toInt * 10) := by rw [ex_2853]; exact l_mul rfl (show (10 : Int64).toInt = 10 from rfl) (by omega)
                              refine lv_aload_n hx hb dX12_next_304 rfl (lv_at hl 0 rfl) (va_get (ci := 12) (v := .ref t0) (C := RX12) (T := TX12) (N := 60) hx hb hts hw12 hown hK hP 0 rfl rfl 12 (by decide +kernel) (hts _ mm_X12_next_842) (fun _ h9 => h9) rfl dX12_next_305 (lv_aload_n hx hb dX12_next_308 rfl (lv_at hl 0 rfl) (va_get (ci := 12) (v := .int v_2801) (C := RX12) (T := TX12) (N := 60) hx hb hts hw12 hown hK hP 0 rfl rfl 15 (by decide +kernel) (hts _ mm_X12_next_845) (fun _ h9 => h9) rfl dX12_next_309 (va_iald hx hb hK hP 1 0 rfl rfl (i_in rfl (by omega)) dX12_next_312 (lv_topi (fun x_2854 ex_2854 => ?_))))))
                              replace hE := hE.trans (Lt_in ex_2854)
                              have erx_2854 : x_2854 = x_2845 := ex_2854.trans (by rw [i_clamp rfl]; exact kx_2845)
                              have hrx_2854 : x_2854.toInt = x_2845.toInt := (congrArg Int32.toInt erx_2854).trans rfl
                              refine lv_i2l hx hb dX12_next_313 rfl (lv_topl (fun x_2855 ex_2855 => ?_))
                              replace hE := hE.trans (Lt_in ex_2855)
                              have hx_2855 : x_2855.toInt = x_2845.toInt := by rw [ex_2855]; exact i_wide hrx_2854
                              refine lv_ladd hx hb dX12_next_314 (lv_topl (fun x_2856 ex_2856 => ?_))
                              replace hE := hE.trans (Lt_in ex_2856)
                              have hx_2856 : x_2856.toInt = ((v_2802.toInt * 10) + x_2845.toInt) := by rw [ex_2856]; exact l_add hx_2853 hx_2855 (by omega)
                              refine lv_ldc2 (v := 48) hx hb hown (hts _ mm_X12_next_1092) dX12_next_315 (lv_lsub hx hb dX12_next_318 (lv_topl (fun x_2857 ex_2857 => ?_)))
                              replace hE := hE.trans (Lt_in ex_2857)
                              have hx_2857 : x_2857.toInt = (((v_2802.toInt * 10) + x_2845.toInt) - 48) := by rw [ex_2857]; exact l_sub hx_2856 (show (48 : Int64).toInt = 48 from rfl) (by omega)
                              refine va_put (ci := 12) (v := .long x_2857) (ty := .long) (C := RX12) (T := TX12) (N := 60) hx hb hts hw12 tyX12 tyX12_ok nmX12 hown hK hP hD hS 0 rfl rfl 17 (by decide +kernel) (hts _ mm_X12_next_847) (fun _ h9 => h9) rfl (by decide +kernel) (by first | rfl | decide) (by first | rfl | decide) (Nat.le_of_ble_eq_true rfl) dX12_next_319 (fun H locs hP0 hD0 hS0 => ?_)
                              replace hP : va_P D vwCl [(cc_O m0 12 [m_0, m_1, m_2, m_3, m_4, m_5, m_6, m_7, m_8, m_9, m_10, m_11, .ref t0, .int ta, .int v_1944, .int v_2801, .int 2, .long x_2857, m_18, m_19, m_20, m_21, m_22, m_23, m_24, m_25, m_26, m_27, m_28, m_29, m_30, m_31, m_32, m_33, m_34, m_35, m_36, m_37, m_38, m_39, m_40, m_41, m_42, m_43, m_44, m_45, m_46, m_47, m_48, m_49, m_50, m_51, m_52, m_53, m_54, m_55, m_56, m_57, m_58, m_59]), (cc_l t0 (K 0) 400 ft)] H := hP0
                              replace hD := as_D hP hD0 rfl
                              replace hS := hS0
                              clear hP0 hD0 hS0
                              refine lv_aload_n hx hb dX12_next_322 rfl (lv_at hl 0 rfl) (lv_dup hx hb dX12_next_323 rfl (va_get (ci := 12) (v := .int v_2801) (C := RX12) (T := TX12) (N := 60) hx hb hts hw12 hown hK hP 0 rfl rfl 15 (by decide +kernel) (hts _ mm_X12_next_845) (fun _ h9 => h9) rfl dX12_next_324 (lv_iconst (v := 1) hx hb dX12_next_327 (by decide +kernel) (lv_iadd hx hb dX12_next_328 (lv_topi (fun x_2858 ex_2858 => ?_))))))
                              replace hE := hE.trans (Lt_in ex_2858)
                              have hx_2858 : x_2858.toInt = (v_2801.toInt + 1) := by rw [ex_2858]; exact i_add rfl (show (1 : Int32).toInt = 1 from rfl) (by omega)
                              refine va_put (ci := 12) (v := .int x_2858) (ty := .int) (C := RX12) (T := TX12) (N := 60) hx hb hts hw12 tyX12 tyX12_ok nmX12 hown hK hP hD hS 0 rfl rfl 15 (by decide +kernel) (hts _ mm_X12_next_845) (fun _ h9 => h9) rfl (by decide +kernel) (by first | rfl | decide) (by first | rfl | decide) (Nat.le_of_ble_eq_true rfl) dX12_next_329 (fun H locs hP0 hD0 hS0 => ?_)
                              replace hP : va_P D vwCl [(cc_O m0 12 [m_0, m_1, m_2, m_3, m_4, m_5, m_6, m_7, m_8, m_9, m_10, m_11, .ref t0, .int ta, .int v_1944, .int x_2858, .int 2, .long x_2857, m_18, m_19, m_20, m_21, m_22, m_23, m_24, m_25, m_26, m_27, m_28, m_29, m_30, m_31, m_32, m_33, m_34, m_35, m_36, m_37, m_38, m_39, m_40, m_41, m_42, m_43, m_44, m_45, m_46, m_47, m_48, m_49, m_50, m_51, m_52, m_53, m_54, m_55, m_56, m_57, m_58, m_59]), (cc_l t0 (K 0) 400 ft)] H := hP0
                              replace hD := as_D hP hD0 rfl
                              replace hS := hS0
                              clear hP0 hD0 hS0
                              refine lv_goto (tgt := 243) hx hb dX12_next_332 (by decide +kernel) ?_
                              exact ih_2842 x_2858 x_2857 (by rw [hx_2858]; omega) (by rw [hx_2857]; omega) (show v_1944.toInt < (x_2858 : Int32).toInt ∧ (x_2858 : Int32).toInt ≤ ta.toInt by omega) (by omega) (hE.trans (by rw [hrec_2841])) _ _ hP hD hS ls (lv_sub hl [0] rfl)
                            · have c_2852i := l_nle (x := v_2802.toInt) (y := 1000000) rfl rfl (fun q => c_2852 ((lg_cmp_le v_2802 1000000).mpr q))
                              replace hE := hE.trans (if_neg c_2852)
                              refine lv_aload_n hx hb dX12_next_289 rfl (lv_at hl 0 rfl) (va_get (ci := 12) (v := .long v_2802) (C := RX12) (T := TX12) (N := 60) hx hb hts hw12 hown hK hP 0 rfl rfl 17 (by decide +kernel) (hts _ mm_X12_next_847) (fun _ h9 => h9) rfl dX12_next_290 (lv_goto (tgt := 319) hx hb dX12_next_293 (by decide +kernel) (va_put (ci := 12) (v := .long v_2802) (ty := .long) (C := RX12) (T := TX12) (N := 60) hx hb hts hw12 tyX12 tyX12_ok nmX12 hown hK hP hD hS 0 rfl rfl 17 (by decide +kernel) (hts _ mm_X12_next_847) (fun _ h9 => h9) rfl (by decide +kernel) (by first | rfl | decide) (by first | rfl | decide) (Nat.le_of_ble_eq_true rfl) dX12_next_319 (fun H locs hP0 hD0 hS0 => ?_))))
                              replace hP : va_P D vwCl [(cc_O m0 12 [m_0, m_1, m_2, m_3, m_4, m_5, m_6, m_7, m_8, m_9, m_10, m_11, .ref t0, .int ta, .int v_1944, .int v_2801, .int 2, .long v_2802, m_18, m_19, m_20, m_21, m_22, m_23, m_24, m_25, m_26, m_27, m_28, m_29, m_30, m_31, m_32, m_33, m_34, m_35, m_36, m_37, m_38, m_39, m_40, m_41, m_42, m_43, m_44, m_45, m_46, m_47, m_48, m_49, m_50, m_51, m_52, m_53, m_54, m_55, m_56, m_57, m_58, m_59]), (cc_l t0 (K 0) 400 ft)] H := hP0
                              replace hD := as_D hP hD0 rfl
                              replace hS := hS0
                              clear hP0 hD0 hS0
                              refine lv_aload_n hx hb dX12_next_322 rfl (lv_at hl 0 rfl) (lv_dup hx hb dX12_next_323 rfl (va_get (ci := 12) (v := .int v_2801) (C := RX12) (T := TX12) (N := 60) hx hb hts hw12 hown hK hP 0 rfl rfl 15 (by decide +kernel) (hts _ mm_X12_next_845) (fun _ h9 => h9) rfl dX12_next_324 (lv_iconst (v := 1) hx hb dX12_next_327 (by decide +kernel) (lv_iadd hx hb dX12_next_328 (lv_topi (fun x_2859 ex_2859 => ?_))))))
                              replace hE := hE.trans (Lt_in ex_2859)
                              have hx_2859 : x_2859.toInt = (v_2801.toInt + 1) := by rw [ex_2859]; exact i_add rfl (show (1 : Int32).toInt = 1 from rfl) (by omega)
                              refine va_put (ci := 12) (v := .int x_2859) (ty := .int) (C := RX12) (T := TX12) (N := 60) hx hb hts hw12 tyX12 tyX12_ok nmX12 hown hK hP hD hS 0 rfl rfl 15 (by decide +kernel) (hts _ mm_X12_next_845) (fun _ h9 => h9) rfl (by decide +kernel) (by first | rfl | decide) (by first | rfl | decide) (Nat.le_of_ble_eq_true rfl) dX12_next_329 (fun H locs hP0 hD0 hS0 => ?_)
                              replace hP : va_P D vwCl [(cc_O m0 12 [m_0, m_1, m_2, m_3, m_4, m_5, m_6, m_7, m_8, m_9, m_10, m_11, .ref t0, .int ta, .int v_1944, .int x_2859, .int 2, .long v_2802, m_18, m_19, m_20, m_21, m_22, m_23, m_24, m_25, m_26, m_27, m_28, m_29, m_30, m_31, m_32, m_33, m_34, m_35, m_36, m_37, m_38, m_39, m_40, m_41, m_42, m_43, m_44, m_45, m_46, m_47, m_48, m_49, m_50, m_51, m_52, m_53, m_54, m_55, m_56, m_57, m_58, m_59]), (cc_l t0 (K 0) 400 ft)] H := hP0
                              replace hD := as_D hP hD0 rfl
                              replace hS := hS0
                              clear hP0 hD0 hS0
                              refine lv_goto (tgt := 243) hx hb dX12_next_332 (by decide +kernel) ?_
                              exact ih_2842 x_2859 v_2802 (by rw [hx_2859]; omega) (by omega) (show v_1944.toInt < (x_2859 : Int32).toInt ∧ (x_2859 : Int32).toInt ≤ ta.toInt by omega) (by omega) (hE.trans (by rw [hrec_2841])) _ _ hP hD hS ls (lv_sub hl [0] rfl)
                          · replace hE := (hE).trans (if_neg (by first | decide | (intro h9; have h8 := congrArg Int32.toInt h9; omega)))
                            refine lv_if_eq (tgt := 335) hx hb dX12_next_274 (by decide +kernel) (fun c_2860 => ?_) (fun c_2860 => absurd (by decide +kernel) c_2860)
                            rw [← hQ]
                            have hP9 := hP.sub (ws' := [(cc_O m0 12 [m_0, m_1, m_2, m_3, m_4, m_5, m_6, m_7, m_8, m_9, m_10, m_11, .ref t0, .int ta, .int v_1944, .int v_2801, .int 2, .long v_2802, m_18, m_19, m_20, m_21, m_22, m_23, m_24, m_25, m_26, m_27, m_28, m_29, m_30, m_31, m_32, m_33, m_34, m_35, m_36, m_37, m_38, m_39, m_40, m_41, m_42, m_43, m_44, m_45, m_46, m_47, m_48, m_49, m_50, m_51, m_52, m_53, m_54, m_55, m_56, m_57, m_58, m_59]), (cc_l t0 (K 0) 400 ft)]) [0, 1] rfl
                            have hD9 := sub_D hP9 hD [0, 1] (by decide +kernel) rfl
                            exact W.vret hx hb hr (fun t ht hW => ⟨⟨((fun _ => 0, fun _ => fun _ => 0, fun _ => fun _ => 0, fun i => match i with | 0 => v_1944 | 1 => v_2801 | _ => 2, fun i => match i with | _ => v_2802, fun _ => fun _ => none) : Su), rfl, ⟨(show 0 ≤ (v_1944 : Int32).toInt ∧ (v_1944 : Int32).toInt ≤ 400 by omega), (show 0 ≤ (v_2801 : Int32).toInt ∧ (v_2801 : Int32).toInt ≤ 401 by omega), (show 0 ≤ (2 : Int32).toInt ∧ (2 : Int32).toInt ≤ 3 by decide), hE.symm, (show ((0 ≤ (v_1944 : Int32).toInt ∧ (v_1944 : Int32).toInt ≤ (v_2801 : Int32).toInt ∧ (v_2801 : Int32).toInt ≤ ta.toInt) ∧ (2 = 0 ∨ (v_1944 : Int32).toInt < (v_2801 : Int32).toInt) ∧ (2 ≠ 1 ∨ (v_1944 : Int32).toInt + 1 < (v_2801 : Int32).toInt ∨ (v_2802 : Int64).toInt ≤ 26)) by omega), (show to.toInt ≤ (v_1944 : Int32).toInt by omega), trivial⟩, (⟨by rw [ht]; exact hP9, hD9⟩ : Wd D A _ t)⟩, hS.F ht⟩) hS.2.2 dX12_next_335
                    exact lp_2841 ((ta.toInt - (x_2744 : Int32).toInt : Int).toNat + 1) x_2744 x_2743 (by rw [hx_2744]; omega) (by rw [hx_2743]; omega) (show v_1944.toInt < (x_2744 : Int32).toInt ∧ (x_2744 : Int32).toInt ≤ ta.toInt by omega) (Nat.lt_succ_self _) hE _ _ hP hD hS ls (lv_sub hl [0] rfl)
                  · replace hE := (hE).trans (if_neg (by first | decide | (intro h9; have h8 := congrArg Int32.toInt h9; omega)))
                    exfalso; omega
              · replace hE := (hE).trans (if_neg (by first | decide | (intro h9; have h8 := congrArg Int32.toInt h9; omega)))
                refine lv_if_eq (tgt := 113) hx hb dX12_next_106 (by decide +kernel) (fun c_2861 => ?_) (fun c_2861 => absurd (by decide +kernel) c_2861)
                refine lv_iconst (v := 3) hx hb dX12_next_113 (by decide +kernel) (va_put (ci := 12) (v := .int 3) (ty := .int) (C := RX12) (T := TX12) (N := 60) hx hb hts hw12 tyX12 tyX12_ok nmX12 hown hK hP hD hS 0 rfl rfl 16 (by decide +kernel) (hts _ mm_X12_next_846) (fun _ h9 => h9) rfl (by decide +kernel) (by first | rfl | decide) (by first | rfl | decide) (Nat.le_of_ble_eq_true rfl) dX12_next_114 (fun H locs hP0 hD0 hS0 => ?_))
                replace hP : va_P D vwCl [(cc_O m0 12 [m_0, m_1, m_2, m_3, m_4, m_5, m_6, m_7, m_8, m_9, m_10, m_11, .ref t0, .int ta, .int v_1944, .int v_1944, .int 3, .long 0, m_18, m_19, m_20, m_21, m_22, m_23, m_24, m_25, m_26, m_27, m_28, m_29, m_30, m_31, m_32, m_33, m_34, m_35, m_36, m_37, m_38, m_39, m_40, m_41, m_42, m_43, m_44, m_45, m_46, m_47, m_48, m_49, m_50, m_51, m_52, m_53, m_54, m_55, m_56, m_57, m_58, m_59]), (cc_l t0 (K 0) 400 ft)] H := hP0
                replace hD := as_D hP hD0 rfl
                replace hS := hS0
                clear hP0 hD0 hS0
                refine lv_aload_n hx hb dX12_next_117 rfl (lv_at hl 0 rfl) (va_get (ci := 12) (v := .int 3) (C := RX12) (T := TX12) (N := 60) hx hb hts hw12 hown hK hP 0 rfl rfl 16 (by decide +kernel) (hts _ mm_X12_next_846) (fun _ h9 => h9) rfl dX12_next_118 (lv_iconst (v := 3) hx hb dX12_next_121 (by decide +kernel) (lv_icmp_ne (tgt := 149) hx hb dX12_next_122 (by decide +kernel) (fun c_2862 => absurd (by decide +kernel) c_2862) (fun c_2862 => ?_))))
                refine lv_aload_n hx hb dX12_next_125 rfl (lv_at hl 0 rfl) (lv_aload_n hx hb dX12_next_126 rfl (lv_at hl 0 rfl) (va_get (ci := 12) (v := .ref t0) (C := RX12) (T := TX12) (N := 60) hx hb hts hw12 hown hK hP 0 rfl rfl 12 (by decide +kernel) (hts _ mm_X12_next_842) (fun _ h9 => h9) rfl dX12_next_127 (lv_aload_n hx hb dX12_next_130 rfl (lv_at hl 0 rfl) (va_get (ci := 12) (v := .int v_1944) (C := RX12) (T := TX12) (N := 60) hx hb hts hw12 hown hK hP 0 rfl rfl 14 (by decide +kernel) (hts _ mm_X12_next_844) (fun _ h9 => h9) rfl dX12_next_131 (va_iald hx hb hK hP 1 0 rfl rfl (i_in rfl (by omega)) dX12_next_134 (lv_topi (fun x_2863 ex_2863 => ?_)))))))
                replace hE := hE.trans (Lt_in ex_2863)
                have erx_2863 : x_2863 = x_2413 := ex_2863.trans (by rw [i_clamp rfl]; exact kx_2413)
                have hrx_2863 : x_2863.toInt = x_2413.toInt := (congrArg Int32.toInt erx_2863).trans rfl
                refine lv_i2l hx hb dX12_next_135 rfl (lv_topl (fun x_2864 ex_2864 => ?_))
                replace hE := hE.trans (Lt_in ex_2864)
                have hx_2864 : x_2864.toInt = x_2413.toInt := by rw [ex_2864]; exact i_wide hrx_2863
                have hbx_2864 := i_rng (a := x_2863) hrx_2863
                refine va_put (ci := 12) (v := .long x_2864) (ty := .long) (C := RX12) (T := TX12) (N := 60) hx hb hts hw12 tyX12 tyX12_ok nmX12 hown hK hP hD hS 0 rfl rfl 17 (by decide +kernel) (hts _ mm_X12_next_847) (fun _ h9 => h9) rfl (by decide +kernel) (by first | rfl | decide) (by first | rfl | decide) (Nat.le_of_ble_eq_true rfl) dX12_next_136 (fun H locs hP0 hD0 hS0 => ?_)
                replace hP : va_P D vwCl [(cc_O m0 12 [m_0, m_1, m_2, m_3, m_4, m_5, m_6, m_7, m_8, m_9, m_10, m_11, .ref t0, .int ta, .int v_1944, .int v_1944, .int 3, .long x_2864, m_18, m_19, m_20, m_21, m_22, m_23, m_24, m_25, m_26, m_27, m_28, m_29, m_30, m_31, m_32, m_33, m_34, m_35, m_36, m_37, m_38, m_39, m_40, m_41, m_42, m_43, m_44, m_45, m_46, m_47, m_48, m_49, m_50, m_51, m_52, m_53, m_54, m_55, m_56, m_57, m_58, m_59]), (cc_l t0 (K 0) 400 ft)] H := hP0
                replace hD := as_D hP hD0 rfl
                replace hS := hS0
                clear hP0 hD0 hS0
                refine lv_aload_n hx hb dX12_next_139 rfl (lv_at hl 0 rfl) (lv_dup hx hb dX12_next_140 rfl (va_get (ci := 12) (v := .int v_1944) (C := RX12) (T := TX12) (N := 60) hx hb hts hw12 hown hK hP 0 rfl rfl 15 (by decide +kernel) (hts _ mm_X12_next_845) (fun _ h9 => h9) rfl dX12_next_141 (lv_iconst (v := 1) hx hb dX12_next_144 (by decide +kernel) (lv_iadd hx hb dX12_next_145 (lv_topi (fun x_2865 ex_2865 => ?_))))))
                replace hE := hE.trans (Lt_in ex_2865)
                have hx_2865 : x_2865.toInt = (v_1944.toInt + 1) := by rw [ex_2865]; exact i_add rfl (show (1 : Int32).toInt = 1 from rfl) (by omega)
                refine va_put (ci := 12) (v := .int x_2865) (ty := .int) (C := RX12) (T := TX12) (N := 60) hx hb hts hw12 tyX12 tyX12_ok nmX12 hown hK hP hD hS 0 rfl rfl 15 (by decide +kernel) (hts _ mm_X12_next_845) (fun _ h9 => h9) rfl (by decide +kernel) (by first | rfl | decide) (by first | rfl | decide) (Nat.le_of_ble_eq_true rfl) dX12_next_146 (fun H locs hP0 hD0 hS0 => ?_)
                replace hP : va_P D vwCl [(cc_O m0 12 [m_0, m_1, m_2, m_3, m_4, m_5, m_6, m_7, m_8, m_9, m_10, m_11, .ref t0, .int ta, .int v_1944, .int x_2865, .int 3, .long x_2864, m_18, m_19, m_20, m_21, m_22, m_23, m_24, m_25, m_26, m_27, m_28, m_29, m_30, m_31, m_32, m_33, m_34, m_35, m_36, m_37, m_38, m_39, m_40, m_41, m_42, m_43, m_44, m_45, m_46, m_47, m_48, m_49, m_50, m_51, m_52, m_53, m_54, m_55, m_56, m_57, m_58, m_59]), (cc_l t0 (K 0) 400 ft)] H := hP0
                replace hD := as_D hP hD0 rfl
                replace hS := hS0
                clear hP0 hD0 hS0
                refine lv_aload_n hx hb dX12_next_149 rfl (lv_at hl 0 rfl) (va_get (ci := 12) (v := .int 3) (C := RX12) (T := TX12) (N := 60) hx hb hts hw12 hown hK hP 0 rfl rfl 16 (by decide +kernel) (hts _ mm_X12_next_846) (fun _ h9 => h9) rfl dX12_next_150 (lv_iconst (v := 1) hx hb dX12_next_153 (by decide +kernel) (lv_icmp_ne (tgt := 243) hx hb dX12_next_154 (by decide +kernel) (fun c_2866 => ?_) (fun c_2866 => absurd c_2866 (by decide +kernel)))))
                refine lv_aload_n hx hb dX12_next_243 rfl (lv_at hl 0 rfl) (va_get (ci := 12) (v := .int 3) (C := RX12) (T := TX12) (N := 60) hx hb hts hw12 hown hK hP 0 rfl rfl 16 (by decide +kernel) (hts _ mm_X12_next_846) (fun _ h9 => h9) rfl dX12_next_244 (lv_iconst (v := 2) hx hb dX12_next_247 (by decide +kernel) (lv_icmp_ne (tgt := 335) hx hb dX12_next_248 (by decide +kernel) (fun c_2867 => ?_) (fun c_2867 => absurd c_2867 (by decide +kernel)))))
                rw [← hQ]
                have hP9 := hP.sub (ws' := [(cc_O m0 12 [m_0, m_1, m_2, m_3, m_4, m_5, m_6, m_7, m_8, m_9, m_10, m_11, .ref t0, .int ta, .int v_1944, .int x_2865, .int 3, .long x_2864, m_18, m_19, m_20, m_21, m_22, m_23, m_24, m_25, m_26, m_27, m_28, m_29, m_30, m_31, m_32, m_33, m_34, m_35, m_36, m_37, m_38, m_39, m_40, m_41, m_42, m_43, m_44, m_45, m_46, m_47, m_48, m_49, m_50, m_51, m_52, m_53, m_54, m_55, m_56, m_57, m_58, m_59]), (cc_l t0 (K 0) 400 ft)]) [0, 1] rfl
                have hD9 := sub_D hP9 hD [0, 1] (by decide +kernel) rfl
                exact W.vret hx hb hr (fun t ht hW => ⟨⟨((fun _ => 0, fun _ => fun _ => 0, fun _ => fun _ => 0, fun i => match i with | 0 => v_1944 | 1 => x_2865 | _ => 3, fun i => match i with | _ => x_2864, fun _ => fun _ => none) : Su), rfl, ⟨(show 0 ≤ (v_1944 : Int32).toInt ∧ (v_1944 : Int32).toInt ≤ 400 by omega), (show 0 ≤ (x_2865 : Int32).toInt ∧ (x_2865 : Int32).toInt ≤ 401 by rw [hx_2865]; omega), (show 0 ≤ (3 : Int32).toInt ∧ (3 : Int32).toInt ≤ 3 by decide), hE.symm, (show ((0 ≤ (v_1944 : Int32).toInt ∧ (v_1944 : Int32).toInt ≤ (x_2865 : Int32).toInt ∧ (x_2865 : Int32).toInt ≤ ta.toInt) ∧ (3 = 0 ∨ (v_1944 : Int32).toInt < (x_2865 : Int32).toInt) ∧ (3 ≠ 1 ∨ (v_1944 : Int32).toInt + 1 < (x_2865 : Int32).toInt ∨ (x_2864 : Int64).toInt ≤ 26)) by omega), (show to.toInt ≤ (v_1944 : Int32).toInt by omega), trivial⟩, (⟨by rw [ht]; exact hP9, hD9⟩ : Wd D A _ t)⟩, hS.F ht⟩) hS.2.2 dX12_next_335
          · have c_2415i := i_eq (x := v_1944.toInt) (y := ta.toInt) rfl rfl c_2415
            replace hE := hE.trans (if_pos c_2415)
            refine lv_iconst (v := 0) hx hb dX12_next_71 (by decide +kernel) (lv_goto (tgt := 114) hx hb dX12_next_72 (by decide +kernel) (va_put (ci := 12) (v := .int 0) (ty := .int) (C := RX12) (T := TX12) (N := 60) hx hb hts hw12 tyX12 tyX12_ok nmX12 hown hK hP hD hS 0 rfl rfl 16 (by decide +kernel) (hts _ mm_X12_next_846) (fun _ h9 => h9) rfl (by decide +kernel) (by first | rfl | decide) (by first | rfl | decide) (Nat.le_of_ble_eq_true rfl) dX12_next_114 (fun H locs hP0 hD0 hS0 => ?_)))
            replace hP : va_P D vwCl [(cc_O m0 12 [m_0, m_1, m_2, m_3, m_4, m_5, m_6, m_7, m_8, m_9, m_10, m_11, .ref t0, .int ta, .int v_1944, .int v_1944, .int 0, .long 0, m_18, m_19, m_20, m_21, m_22, m_23, m_24, m_25, m_26, m_27, m_28, m_29, m_30, m_31, m_32, m_33, m_34, m_35, m_36, m_37, m_38, m_39, m_40, m_41, m_42, m_43, m_44, m_45, m_46, m_47, m_48, m_49, m_50, m_51, m_52, m_53, m_54, m_55, m_56, m_57, m_58, m_59]), (cc_l t0 (K 0) 400 ft)] H := hP0
            replace hD := as_D hP hD0 rfl
            replace hS := hS0
            clear hP0 hD0 hS0
            refine lv_aload_n hx hb dX12_next_117 rfl (lv_at hl 0 rfl) (va_get (ci := 12) (v := .int 0) (C := RX12) (T := TX12) (N := 60) hx hb hts hw12 hown hK hP 0 rfl rfl 16 (by decide +kernel) (hts _ mm_X12_next_846) (fun _ h9 => h9) rfl dX12_next_118 (lv_iconst (v := 3) hx hb dX12_next_121 (by decide +kernel) (lv_icmp_ne (tgt := 149) hx hb dX12_next_122 (by decide +kernel) (fun c_2868 => ?_) (fun c_2868 => absurd c_2868 (by decide +kernel)))))
            refine lv_aload_n hx hb dX12_next_149 rfl (lv_at hl 0 rfl) (va_get (ci := 12) (v := .int 0) (C := RX12) (T := TX12) (N := 60) hx hb hts hw12 hown hK hP 0 rfl rfl 16 (by decide +kernel) (hts _ mm_X12_next_846) (fun _ h9 => h9) rfl dX12_next_150 (lv_iconst (v := 1) hx hb dX12_next_153 (by decide +kernel) (lv_icmp_ne (tgt := 243) hx hb dX12_next_154 (by decide +kernel) (fun c_2869 => ?_) (fun c_2869 => absurd c_2869 (by decide +kernel)))))
            refine lv_aload_n hx hb dX12_next_243 rfl (lv_at hl 0 rfl) (va_get (ci := 12) (v := .int 0) (C := RX12) (T := TX12) (N := 60) hx hb hts hw12 hown hK hP 0 rfl rfl 16 (by decide +kernel) (hts _ mm_X12_next_846) (fun _ h9 => h9) rfl dX12_next_244 (lv_iconst (v := 2) hx hb dX12_next_247 (by decide +kernel) (lv_icmp_ne (tgt := 335) hx hb dX12_next_248 (by decide +kernel) (fun c_2870 => ?_) (fun c_2870 => absurd c_2870 (by decide +kernel)))))
            rw [← hQ]
            have hP9 := hP.sub (ws' := [(cc_O m0 12 [m_0, m_1, m_2, m_3, m_4, m_5, m_6, m_7, m_8, m_9, m_10, m_11, .ref t0, .int ta, .int v_1944, .int v_1944, .int 0, .long 0, m_18, m_19, m_20, m_21, m_22, m_23, m_24, m_25, m_26, m_27, m_28, m_29, m_30, m_31, m_32, m_33, m_34, m_35, m_36, m_37, m_38, m_39, m_40, m_41, m_42, m_43, m_44, m_45, m_46, m_47, m_48, m_49, m_50, m_51, m_52, m_53, m_54, m_55, m_56, m_57, m_58, m_59]), (cc_l t0 (K 0) 400 ft)]) [0, 1] rfl
            have hD9 := sub_D hP9 hD [0, 1] (by decide +kernel) rfl
            exact W.vret hx hb hr (fun t ht hW => ⟨⟨((fun _ => 0, fun _ => fun _ => 0, fun _ => fun _ => 0, fun i => match i with | 0 => v_1944 | 1 => v_1944 | _ => 0, fun i => match i with | _ => 0, fun _ => fun _ => none) : Su), rfl, ⟨(show 0 ≤ (v_1944 : Int32).toInt ∧ (v_1944 : Int32).toInt ≤ 400 by omega), (show 0 ≤ (v_1944 : Int32).toInt ∧ (v_1944 : Int32).toInt ≤ 401 by omega), (show 0 ≤ (0 : Int32).toInt ∧ (0 : Int32).toInt ≤ 3 by decide), hE.symm, (show ((0 ≤ (v_1944 : Int32).toInt ∧ (v_1944 : Int32).toInt ≤ (v_1944 : Int32).toInt ∧ (v_1944 : Int32).toInt ≤ ta.toInt) ∧ (0 = 0 ∨ (v_1944 : Int32).toInt < (v_1944 : Int32).toInt) ∧ (0 ≠ 1 ∨ (v_1944 : Int32).toInt + 1 < (v_1944 : Int32).toInt ∨ 0 ≤ 26)) by omega), (show to.toInt ≤ (v_1944 : Int32).toInt by omega), trivial⟩, (⟨by rw [ht]; exact hP9, hD9⟩ : Wd D A _ t)⟩, hS.F ht⟩) hS.2.2 dX12_next_335
        · have c_2414i := i_eq (x := x_2413.toInt) (y := 32) rfl rfl c_2414
          replace hE := hE.trans (if_pos c_2414)
          refine lv_aload_n hx hb dX12_next_33 rfl (lv_at hl 0 rfl) (lv_dup hx hb dX12_next_34 rfl (va_get (ci := 12) (v := .int v_1944) (C := RX12) (T := TX12) (N := 60) hx hb hts hw12 hown hK hP 0 rfl rfl 14 (by decide +kernel) (hts _ mm_X12_next_844) (fun _ h9 => h9) rfl dX12_next_35 (lv_iconst (v := 1) hx hb dX12_next_38 (by decide +kernel) (lv_iadd hx hb dX12_next_39 (lv_topi (fun x_2871 ex_2871 => ?_))))))
          replace hE := hE.trans (Lt_in ex_2871)
          have hx_2871 : x_2871.toInt = (v_1944.toInt + 1) := by rw [ex_2871]; exact i_add rfl (show (1 : Int32).toInt = 1 from rfl) (by omega)
          refine va_put (ci := 12) (v := .int x_2871) (ty := .int) (C := RX12) (T := TX12) (N := 60) hx hb hts hw12 tyX12 tyX12_ok nmX12 hown hK hP hD hS 0 rfl rfl 14 (by decide +kernel) (hts _ mm_X12_next_844) (fun _ h9 => h9) rfl (by decide +kernel) (by first | rfl | decide) (by first | rfl | decide) (Nat.le_of_ble_eq_true rfl) dX12_next_40 (fun H locs hP0 hD0 hS0 => ?_)
          replace hP : va_P D vwCl [(cc_O m0 12 [m_0, m_1, m_2, m_3, m_4, m_5, m_6, m_7, m_8, m_9, m_10, m_11, .ref t0, .int ta, .int x_2871, .int to, .int so, .long wo, m_18, m_19, m_20, m_21, m_22, m_23, m_24, m_25, m_26, m_27, m_28, m_29, m_30, m_31, m_32, m_33, m_34, m_35, m_36, m_37, m_38, m_39, m_40, m_41, m_42, m_43, m_44, m_45, m_46, m_47, m_48, m_49, m_50, m_51, m_52, m_53, m_54, m_55, m_56, m_57, m_58, m_59]), (cc_l t0 (K 0) 400 ft)] H := hP0
          replace hD := as_D hP hD0 rfl
          replace hS := hS0
          clear hP0 hD0 hS0
          refine lv_goto (tgt := 8) hx hb dX12_next_43 (by decide +kernel) ?_
          exact ih_1955 x_2871 (by rw [hx_2871]; omega) (show to.toInt ≤ (x_2871 : Int32).toInt ∧ (x_2871 : Int32).toInt ≤ ta.toInt by omega) (by omega) (hE.trans (by rw [hrec_1954])) _ _ hP hD hS ls (lv_sub hl [0] rfl)
  exact lp_1954 ((ta.toInt - (to : Int32).toInt : Int).toNat + 1) to (by omega) (show to.toInt ≤ (to : Int32).toInt ∧ (to : Int32).toInt ≤ ta.toInt by omega) (Nat.lt_succ_self _) hE _ _ hP hD hS ls (lv_sub hl [0] rfl)
set_option maxRecDepth 100000 in
noncomputable def E_v_begin (ta : Int32) (fr : Int32) (to : Int32) (so : Int32) (wo : Int64) (fau : Int32) (bd : Int32) (ft : Nat → Int32) : Int32 × Int32 × Int32 × Int64 :=
  Lt2 (E_v_next ta fr 0 so wo ft) (fun u_87_2_2_2_1_0 q0_u_87_2_2_2_1_0 => Lt2 q0_u_87_2_2_2_1_0 (fun u_87_2_2_2_1_1 q1_u_87_2_2_2_1_1 => Lt2 q1_u_87_2_2_2_1_1 (fun u_87_2_2_2_1_2 u_87_2_2_2_2_1_0 => ((u_87_2_2_2_1_0, u_87_2_2_2_1_1, u_87_2_2_2_1_2, u_87_2_2_2_2_1_0) : Int32 × Int32 × Int32 × Int64))))
set_option maxHeartbeats 4000000 in
set_option maxRecDepth 100000 in
theorem v_begin (l : Launch) (D : va_G) (K : Nat → ClassId) (m0 : Nat) (m_0 : Value) (m_1 : Value) (m_2 : Value) (m_3 : Value) (m_4 : Value) (m_5 : Value) (m_6 : Value) (m_7 : Value) (m_8 : Value) (m_9 : Value) (m_10 : Value) (m_11 : Value) (t0 : Nat) (ta : Int32) (fr : Int32) (to : Int32) (so : Int32) (wo : Int64) (fau : Int32) (bd : Int32) (m_20 : Value) (m_21 : Value) (m_22 : Value) (m_23 : Value) (m_24 : Value) (m_25 : Value) (m_26 : Value) (m_27 : Value) (m_28 : Value) (m_29 : Value) (m_30 : Value) (m_31 : Value) (m_32 : Value) (m_33 : Value) (m_34 : Value) (m_35 : Value) (m_36 : Value) (m_37 : Value) (m_38 : Value) (m_39 : Value) (m_40 : Value) (m_41 : Value) (m_42 : Value) (m_43 : Value) (m_44 : Value) (m_45 : Value) (m_46 : Value) (m_47 : Value) (m_48 : Value) (m_49 : Value) (m_50 : Value) (m_51 : Value) (m_52 : Value) (m_53 : Value) (m_54 : Value) (m_55 : Value) (m_56 : Value) (m_57 : Value) (m_58 : Value) (m_59 : Value) (ft : Nat → Int32) (sz : Nat) (zta : 0 ≤ ta.toInt ∧ ta.toInt ≤ 400) : Met l yX12_begin wsX12_begin ({ frames := 2, cells := 0, slots := 0, locals := 40 }) (va_Pc [.ref m0] (Pre D K [(cc_O m0 12 [m_0, m_1, m_2, m_3, m_4, m_5, m_6, m_7, m_8, m_9, m_10, m_11, .ref t0, .int ta, .int fr, .int to, .int so, .long wo, .int fau, .int bd, m_20, m_21, m_22, m_23, m_24, m_25, m_26, m_27, m_28, m_29, m_30, m_31, m_32, m_33, m_34, m_35, m_36, m_37, m_38, m_39, m_40, m_41, m_42, m_43, m_44, m_45, m_46, m_47, m_48, m_49, m_50, m_51, m_52, m_53, m_54, m_55, m_56, m_57, m_58, m_59]), (cc_l t0 (K 0) 400 ft)] sz)) (va_Qv (S := Su) (fun (u : Su) => (0 ≤ (u.2.2.2.1 0).toInt ∧ (u.2.2.2.1 0).toInt ≤ 400) ∧ (0 ≤ (u.2.2.2.1 1).toInt ∧ (u.2.2.2.1 1).toInt ≤ 400) ∧ (0 ≤ (u.2.2.2.1 2).toInt ∧ (u.2.2.2.1 2).toInt ≤ 3) ∧ (((u.2.2.2.1 0), (u.2.2.2.1 1), (u.2.2.2.1 2), (u.2.2.2.2.1 0)) = E_v_begin ta fr to so wo fau bd ft) ∧ (((0 ≤ (u.2.2.2.1 0).toInt ∧ (u.2.2.2.1 0).toInt ≤ (u.2.2.2.1 1).toInt ∧ (u.2.2.2.1 1).toInt ≤ ta.toInt) ∧ ((u.2.2.2.1 2).toInt = 0 ∨ (u.2.2.2.1 0).toInt < (u.2.2.2.1 1).toInt) ∧ ((u.2.2.2.1 2).toInt ≠ 1 ∨ (u.2.2.2.1 0).toInt + 1 < (u.2.2.2.1 1).toInt ∨ (u.2.2.2.2.1 0).toInt ≤ 26))) ∧ True) (fun u t => Wd D (va_A [(cc_O m0 12 [m_0, m_1, m_2, m_3, m_4, m_5, m_6, m_7, m_8, m_9, m_10, m_11, .ref t0, .int ta, .int fr, .int to, .int so, .long wo, .int fau, .int bd, m_20, m_21, m_22, m_23, m_24, m_25, m_26, m_27, m_28, m_29, m_30, m_31, m_32, m_33, m_34, m_35, m_36, m_37, m_38, m_39, m_40, m_41, m_42, m_43, m_44, m_45, m_46, m_47, m_48, m_49, m_50, m_51, m_52, m_53, m_54, m_55, m_56, m_57, m_58, m_59]), (cc_l t0 (K 0) 400 ft)] sz) ((fun u => [(cc_O m0 12 [m_0, m_1, m_2, m_3, m_4, m_5, m_6, m_7, m_8, m_9, m_10, m_11, .ref t0, .int ta, .int (u.2.2.2.1 0), .int (u.2.2.2.1 1), .int (u.2.2.2.1 2), .long (u.2.2.2.2.1 0), .int (-1), .int 0, m_20, m_21, m_22, m_23, m_24, m_25, m_26, m_27, m_28, m_29, m_30, m_31, m_32, m_33, m_34, m_35, m_36, m_37, m_38, m_39, m_40, m_41, m_42, m_43, m_44, m_45, m_46, m_47, m_48, m_49, m_50, m_51, m_52, m_53, m_54, m_55, m_56, m_57, m_58, m_59]), (cc_l t0 (K 0) 400 ft)]) u) t) (va_A [(cc_O m0 12 [m_0, m_1, m_2, m_3, m_4, m_5, m_6, m_7, m_8, m_9, m_10, m_11, .ref t0, .int ta, .int fr, .int to, .int so, .long wo, .int fau, .int bd, m_20, m_21, m_22, m_23, m_24, m_25, m_26, m_27, m_28, m_29, m_30, m_31, m_32, m_33, m_34, m_35, m_36, m_37, m_38, m_39, m_40, m_41, m_42, m_43, m_44, m_45, m_46, m_47, m_48, m_49, m_50, m_51, m_52, m_53, m_54, m_55, m_56, m_57, m_58, m_59]), (cc_l t0 (K 0) 400 ft)] sz)) 0 0 (va_A [(cc_O m0 12 [m_0, m_1, m_2, m_3, m_4, m_5, m_6, m_7, m_8, m_9, m_10, m_11, .ref t0, .int ta, .int fr, .int to, .int so, .long wo, .int fau, .int bd, m_20, m_21, m_22, m_23, m_24, m_25, m_26, m_27, m_28, m_29, m_30, m_31, m_32, m_33, m_34, m_35, m_36, m_37, m_38, m_39, m_40, m_41, m_42, m_43, m_44, m_45, m_46, m_47, m_48, m_49, m_50, m_51, m_52, m_53, m_54, m_55, m_56, m_57, m_58, m_59]), (cc_l t0 (K 0) 400 ft)] sz) := by
  refine Met.ofW (cc := cX12_begin) (maxL := 1) (ret := none) (by decide +kernel) rfl ?_
  intro p e s m args below meth c s₁ B hml hv
  obtain ⟨rfl, hsz, hP, hK, hD0, hN⟩ := hv
  have hx := B.exec
  have hb := B.bytes
  have hr := B.returns
  have hts := atoms_spec (ws := wsX12_begin) B.pre
  have hown : s.vm.findClass RX12 = some m.cls := findClass_of_methodNamed B.named
  have hlocks := B.notSynchronized
  subst hsz
  have hD := hD0.self (sz := s.heap.size)
  generalize hAe : va_A [(cc_O m0 12 [m_0, m_1, m_2, m_3, m_4, m_5, m_6, m_7, m_8, m_9, m_10, m_11, .ref t0, .int ta, .int fr, .int to, .int so, .long wo, .int fau, .int bd, m_20, m_21, m_22, m_23, m_24, m_25, m_26, m_27, m_28, m_29, m_30, m_31, m_32, m_33, m_34, m_35, m_36, m_37, m_38, m_39, m_40, m_41, m_42, m_43, m_44, m_45, m_46, m_47, m_48, m_49, m_50, m_51, m_52, m_53, m_54, m_55, m_56, m_57, m_58, m_59]), (cc_l t0 (K 0) 400 ft)] s.heap.size = A at hD ⊢
  have hA : ∀ q : Nat, s.heap.size ≤ q → A q := fun q h => by rw [← hAe]; exact Or.inr h
  clear hAe
  have hS : va_S A s.heap s.heap [] := va_S.rf
  replace hP : va_P D vwCl [(cc_O m0 12 [m_0, m_1, m_2, m_3, m_4, m_5, m_6, m_7, m_8, m_9, m_10, m_11, .ref t0, .int ta, .int fr, .int to, .int so, .long wo, .int fau, .int bd, m_20, m_21, m_22, m_23, m_24, m_25, m_26, m_27, m_28, m_29, m_30, m_31, m_32, m_33, m_34, m_35, m_36, m_37, m_38, m_39, m_40, m_41, m_42, m_43, m_44, m_45, m_46, m_47, m_48, m_49, m_50, m_51, m_52, m_53, m_54, m_55, m_56, m_57, m_58, m_59]), (cc_l t0 (K 0) 400 ft)] s.heap := hP
  have hl := lv_entry [.ref m0] (n := 1) (Nat.le_of_ble_eq_true rfl)
  rw [lg_entry_eq]
  generalize (lg_sl [.ref m0] ++ List.replicate (1 - (lg_sl [.ref m0]).length) Slot.unset).toArray = ls at hl ⊢
  have hl : lv_has ls 1 [(0, .ref m0)] := hl
  have hw12 : ∀ w ∈ wsX120, w ∈ wsX12_begin := fun w h => (List.mem_cons_of_mem _ (List.mem_append_right _ h))
  generalize hQ : MQ below _ _ s _ _ _ = Q
  have hE := E_v_begin.eq_def ta fr to so wo fau bd ft
  refine lv_aload_n hx hb dX12_begin_0 rfl (lv_at hl 0 rfl) (lv_iconst (v := 0) hx hb dX12_begin_1 (by decide +kernel) (va_put (ci := 12) (v := .int 0) (ty := .int) (C := RX12) (T := TX12) (N := 60) hx hb hts hw12 tyX12 tyX12_ok nmX12 hown hK hP hD hS 0 rfl rfl 15 (by decide +kernel) (hts _ mm_X12_begin_845) (fun _ h9 => h9) rfl (by decide +kernel) (by first | rfl | decide) (by first | rfl | decide) (Nat.le_of_ble_eq_true rfl) dX12_begin_2 (fun H locs hP0 hD0 hS0 => ?_)))
  replace hP : va_P D vwCl [(cc_O m0 12 [m_0, m_1, m_2, m_3, m_4, m_5, m_6, m_7, m_8, m_9, m_10, m_11, .ref t0, .int ta, .int fr, .int 0, .int so, .long wo, .int fau, .int bd, m_20, m_21, m_22, m_23, m_24, m_25, m_26, m_27, m_28, m_29, m_30, m_31, m_32, m_33, m_34, m_35, m_36, m_37, m_38, m_39, m_40, m_41, m_42, m_43, m_44, m_45, m_46, m_47, m_48, m_49, m_50, m_51, m_52, m_53, m_54, m_55, m_56, m_57, m_58, m_59]), (cc_l t0 (K 0) 400 ft)] H := hP0
  replace hD := as_D hP hD0 rfl
  replace hS := hS0
  clear hP0 hD0 hS0
  refine lv_aload_n hx hb dX12_begin_5 rfl (lv_at hl 0 rfl) (lv_iconst (v := 0) hx hb dX12_begin_6 (by decide +kernel) (va_put (ci := 12) (v := .int 0) (ty := .boolean) (C := RX12) (T := TX12) (N := 60) hx hb hts hw12 tyX12 tyX12_ok nmX12 hown hK hP hD hS 0 rfl rfl 19 (by decide +kernel) (hts _ mm_X12_begin_849) (fun _ h9 => h9) rfl (by decide +kernel) (by first | rfl | decide) (by first | rfl | decide) (Nat.le_of_ble_eq_true rfl) dX12_begin_7 (fun H locs hP0 hD0 hS0 => ?_)))
  replace hP : va_P D vwCl [(cc_O m0 12 [m_0, m_1, m_2, m_3, m_4, m_5, m_6, m_7, m_8, m_9, m_10, m_11, .ref t0, .int ta, .int fr, .int 0, .int so, .long wo, .int fau, .int 0, m_20, m_21, m_22, m_23, m_24, m_25, m_26, m_27, m_28, m_29, m_30, m_31, m_32, m_33, m_34, m_35, m_36, m_37, m_38, m_39, m_40, m_41, m_42, m_43, m_44, m_45, m_46, m_47, m_48, m_49, m_50, m_51, m_52, m_53, m_54, m_55, m_56, m_57, m_58, m_59]), (cc_l t0 (K 0) 400 ft)] H := hP0
  replace hD := as_D hP hD0 rfl
  replace hS := hS0
  clear hP0 hD0 hS0
  refine lv_aload_n hx hb dX12_begin_10 rfl (lv_at hl 0 rfl) (lv_iconst (v := (-1)) hx hb dX12_begin_11 (by decide +kernel) (va_put (ci := 12) (v := .int (-1)) (ty := .int) (C := RX12) (T := TX12) (N := 60) hx hb hts hw12 tyX12 tyX12_ok nmX12 hown hK hP hD hS 0 rfl rfl 18 (by decide +kernel) (hts _ mm_X12_begin_848) (fun _ h9 => h9) rfl (by decide +kernel) (by first | rfl | decide) (by first | rfl | decide) (Nat.le_of_ble_eq_true rfl) dX12_begin_12 (fun H locs hP0 hD0 hS0 => ?_)))
  replace hP : va_P D vwCl [(cc_O m0 12 [m_0, m_1, m_2, m_3, m_4, m_5, m_6, m_7, m_8, m_9, m_10, m_11, .ref t0, .int ta, .int fr, .int 0, .int so, .long wo, .int (-1), .int 0, m_20, m_21, m_22, m_23, m_24, m_25, m_26, m_27, m_28, m_29, m_30, m_31, m_32, m_33, m_34, m_35, m_36, m_37, m_38, m_39, m_40, m_41, m_42, m_43, m_44, m_45, m_46, m_47, m_48, m_49, m_50, m_51, m_52, m_53, m_54, m_55, m_56, m_57, m_58, m_59]), (cc_l t0 (K 0) 400 ft)] H := hP0
  replace hD := as_D hP hD0 rfl
  replace hS := hS0
  clear hP0 hD0 hS0
  refine lv_aload_n hx hb dX12_begin_15 rfl (lv_at hl 0 rfl) ?_
  have hz_z_83 : (0 : Int32).toInt = 0 := rfl
  have hz_z_84 : ((-1) : Int32).toInt = (-1) := rfl
  have hz_z_85 : (0 : Int32).toInt = 0 := rfl
  refine kcv (S := Su) (wr := []) (va_runV (As := []) (rest := []) ⟨hx, hb, hml, hown, hts⟩ (v_next l D K m0 m_0 m_1 m_2 m_3 m_4 m_5 m_6 m_7 m_8 m_9 m_10 m_11 t0 ta fr 0 so wo (.int (-1)) (.int 0) m_20 m_21 m_22 m_23 m_24 m_25 m_26 m_27 m_28 m_29 m_30 m_31 m_32 m_33 m_34 m_35 m_36 m_37 m_38 m_39 m_40 m_41 m_42 m_43 m_44 m_45 m_46 m_47 m_48 m_49 m_50 m_51 m_52 m_53 m_54 m_55 m_56 m_57 m_58 m_59 ft H.size (by first | omega | decide)) (cwV 0 hts gX12_begin_X12_next rfl rfl rfl (by decide +kernel) ⟨Nat.le_of_ble_eq_true rfl, Nat.le_of_ble_eq_true rfl⟩) (mkV hK hN (hP.sub [0, 1] rfl) (hD.sub [0, 1] (by decide +kernel) rfl) (ci := 12) (q0 := 0) rfl rfl) rfl rfl hl.1 rfl (lv_room (Nat.le_of_ble_eq_true rfl)) dX12_begin_16 ⟨Nat.le_of_ble_eq_true rfl, Nat.le_of_ble_eq_true rfl⟩) hP hD hS hA [0, 1] [] rfl rfl (by decide +kernel) (by decide +kernel) (fun u_87 H locs hw hP0 hD0 hS0 => ?_)
  replace hP : va_P D vwCl [(cc_O m0 12 [m_0, m_1, m_2, m_3, m_4, m_5, m_6, m_7, m_8, m_9, m_10, m_11, .ref t0, .int ta, .int (u_87.2.2.2.1 0), .int (u_87.2.2.2.1 1), .int (u_87.2.2.2.1 2), .long (u_87.2.2.2.2.1 0), .int (-1), .int 0, m_20, m_21, m_22, m_23, m_24, m_25, m_26, m_27, m_28, m_29, m_30, m_31, m_32, m_33, m_34, m_35, m_36, m_37, m_38, m_39, m_40, m_41, m_42, m_43, m_44, m_45, m_46, m_47, m_48, m_49, m_50, m_51, m_52, m_53, m_54, m_55, m_56, m_57, m_58, m_59]), (cc_l t0 (K 0) 400 ft)] H := hP0
  replace hD := as_D hP hD0 rfl
  replace hS := hS0
  clear hP0 hD0 hS0
  obtain ⟨k_88, k_89, k_90, k_91, k_92, k_93, -⟩ := hw
  replace hE := ((hE.trans (Lt2_in k_91)).trans (Lt2_in rfl)).trans (Lt2_in rfl)
  rw [← hQ]
  have hP9 := hP.sub (ws' := [(cc_O m0 12 [m_0, m_1, m_2, m_3, m_4, m_5, m_6, m_7, m_8, m_9, m_10, m_11, .ref t0, .int ta, .int (u_87.2.2.2.1 0), .int (u_87.2.2.2.1 1), .int (u_87.2.2.2.1 2), .long (u_87.2.2.2.2.1 0), .int (-1), .int 0, m_20, m_21, m_22, m_23, m_24, m_25, m_26, m_27, m_28, m_29, m_30, m_31, m_32, m_33, m_34, m_35, m_36, m_37, m_38, m_39, m_40, m_41, m_42, m_43, m_44, m_45, m_46, m_47, m_48, m_49, m_50, m_51, m_52, m_53, m_54, m_55, m_56, m_57, m_58, m_59]), (cc_l t0 (K 0) 400 ft)]) [0, 1] rfl
  have hD9 := sub_D hP9 hD [0, 1] (by decide +kernel) rfl
  exact W.vret hx hb hr (fun t ht hW => ⟨⟨((fun _ => 0, fun _ => fun _ => 0, fun _ => fun _ => 0, fun i => match i with | 0 => (u_87.2.2.2.1 0) | 1 => (u_87.2.2.2.1 1) | _ => (u_87.2.2.2.1 2), fun i => match i with | _ => (u_87.2.2.2.2.1 0), fun _ => fun _ => none) : Su), rfl, ⟨(show 0 ≤ ((u_87.2.2.2.1 0) : Int32).toInt ∧ ((u_87.2.2.2.1 0) : Int32).toInt ≤ 400 by omega), (show 0 ≤ ((u_87.2.2.2.1 1) : Int32).toInt ∧ ((u_87.2.2.2.1 1) : Int32).toInt ≤ 400 by omega), (show 0 ≤ ((u_87.2.2.2.1 2) : Int32).toInt ∧ ((u_87.2.2.2.1 2) : Int32).toInt ≤ 3 by omega), hE.symm, (show ((0 ≤ ((u_87.2.2.2.1 0) : Int32).toInt ∧ ((u_87.2.2.2.1 0) : Int32).toInt ≤ ((u_87.2.2.2.1 1) : Int32).toInt ∧ ((u_87.2.2.2.1 1) : Int32).toInt ≤ ta.toInt) ∧ (((u_87.2.2.2.1 2) : Int32).toInt = 0 ∨ ((u_87.2.2.2.1 0) : Int32).toInt < ((u_87.2.2.2.1 1) : Int32).toInt) ∧ (((u_87.2.2.2.1 2) : Int32).toInt ≠ 1 ∨ ((u_87.2.2.2.1 0) : Int32).toInt + 1 < ((u_87.2.2.2.1 1) : Int32).toInt ∨ ((u_87.2.2.2.2.1 0) : Int64).toInt ≤ 26)) by omega), trivial⟩, (⟨by rw [ht]; exact hP9, hD9⟩ : Wd D A _ t)⟩, hS.F ht⟩) hS.2.2 dX12_begin_19
set_option maxRecDepth 100000 in
noncomputable def E_v_isWord (x : Int64) (so : Int32) (wo : Int64) : Int32 :=
  if so = 1 then (if (lg_cmp wo x) = 0 then ((1 : Int32)) else ((0 : Int32))) else ((0 : Int32))
set_option maxHeartbeats 4000000 in
set_option maxRecDepth 100000 in
theorem v_isWord (l : Launch) (D : va_G) (K : Nat → ClassId) (m0 : Nat) (x : Int64) (m_0 : Value) (m_1 : Value) (m_2 : Value) (m_3 : Value) (m_4 : Value) (m_5 : Value) (m_6 : Value) (m_7 : Value) (m_8 : Value) (m_9 : Value) (m_10 : Value) (m_11 : Value) (m_12 : Value) (m_13 : Value) (m_14 : Value) (m_15 : Value) (so : Int32) (wo : Int64) (m_18 : Value) (m_19 : Value) (m_20 : Value) (m_21 : Value) (m_22 : Value) (m_23 : Value) (m_24 : Value) (m_25 : Value) (m_26 : Value) (m_27 : Value) (m_28 : Value) (m_29 : Value) (m_30 : Value) (m_31 : Value) (m_32 : Value) (m_33 : Value) (m_34 : Value) (m_35 : Value) (m_36 : Value) (m_37 : Value) (m_38 : Value) (m_39 : Value) (m_40 : Value) (m_41 : Value) (m_42 : Value) (m_43 : Value) (m_44 : Value) (m_45 : Value) (m_46 : Value) (m_47 : Value) (m_48 : Value) (m_49 : Value) (m_50 : Value) (m_51 : Value) (m_52 : Value) (m_53 : Value) (m_54 : Value) (m_55 : Value) (m_56 : Value) (m_57 : Value) (m_58 : Value) (m_59 : Value) (sz : Nat) : Met l yX12_isWord wsX12_isWord ({ frames := 0, cells := 0, slots := 0, locals := 0 }) (va_Pc [.ref m0, .long x] (Pre D K [(cc_O m0 12 [m_0, m_1, m_2, m_3, m_4, m_5, m_6, m_7, m_8, m_9, m_10, m_11, m_12, m_13, m_14, m_15, .int so, .long wo, m_18, m_19, m_20, m_21, m_22, m_23, m_24, m_25, m_26, m_27, m_28, m_29, m_30, m_31, m_32, m_33, m_34, m_35, m_36, m_37, m_38, m_39, m_40, m_41, m_42, m_43, m_44, m_45, m_46, m_47, m_48, m_49, m_50, m_51, m_52, m_53, m_54, m_55, m_56, m_57, m_58, m_59])] sz)) (vp_Si (fun r : Int32 => ((r = 1 ∧ so.toInt = 1 ∧ wo.toInt = x.toInt) ∨ (r = 0)) ∧ (r = E_v_isWord x so wo) ∧ True)) 0 0 (fun _ => False) := by
  refine Met.ofW (cc := cX12_isWord) (maxL := 3) (ret := (some .boolean)) (by decide +kernel) rfl ?_
  intro p e s m args below meth c s₁ B hml hv
  obtain ⟨rfl, hsz, hP, hK, hD0, hN⟩ := hv
  have hx := B.exec
  have hb := B.bytes
  have hr := B.returns
  have hts := atoms_spec (ws := wsX12_isWord) B.pre
  have hown : s.vm.findClass RX12 = some m.cls := findClass_of_methodNamed B.named
  have hlocks := B.notSynchronized
  subst hsz
  have hD := hD0
  replace hP : va_P D vwCl [(cc_O m0 12 [m_0, m_1, m_2, m_3, m_4, m_5, m_6, m_7, m_8, m_9, m_10, m_11, m_12, m_13, m_14, m_15, .int so, .long wo, m_18, m_19, m_20, m_21, m_22, m_23, m_24, m_25, m_26, m_27, m_28, m_29, m_30, m_31, m_32, m_33, m_34, m_35, m_36, m_37, m_38, m_39, m_40, m_41, m_42, m_43, m_44, m_45, m_46, m_47, m_48, m_49, m_50, m_51, m_52, m_53, m_54, m_55, m_56, m_57, m_58, m_59])] s.heap := hP
  have hl := lv_entry [.ref m0, .long x] (n := 3) (Nat.le_of_ble_eq_true rfl)
  rw [lg_entry_eq]
  generalize (lg_sl [.ref m0, .long x] ++ List.replicate (3 - (lg_sl [.ref m0, .long x]).length) Slot.unset).toArray = ls at hl ⊢
  have hl : lv_has ls 3 [(0, .ref m0), (1, .long x)] := hl
  have hw12 : ∀ w ∈ wsX120, w ∈ wsX12_isWord := fun w h => (List.mem_cons_of_mem _ (List.mem_append_right _ h))
  generalize hQ : MQ below _ _ s _ _ _ = Q
  have hE := E_v_isWord.eq_def x so wo
  refine lv_aload_n hx hb dX12_isWord_0 rfl (lv_at hl 0 rfl) (va_get (ci := 12) (v := .int so) (C := RX12) (T := TX12) (N := 60) hx hb hts hw12 hown hK hP 0 rfl rfl 16 (by decide +kernel) (hts _ mm_X12_isWord_846) (fun _ h9 => h9) rfl dX12_isWord_1 (lv_iconst (v := 1) hx hb dX12_isWord_4 (by decide +kernel) (lv_icmp_ne (tgt := 21) hx hb dX12_isWord_5 (by decide +kernel) (fun c_65 => ?_) (fun c_65 => ?_))))
  · have c_65i := i_ne (x := so.toInt) (y := 1) rfl rfl c_65
    replace hE := hE.trans (if_neg c_65)
    refine lv_iconst (v := 0) hx hb dX12_isWord_21 (by decide +kernel) ?_
    rw [← hQ]
    exact W.zret (v := 0) hx hb hr (by decide +kernel) (fun t ht hW => ⟨_, rfl, ⟨(by first | exact Or.inr (rfl)), hE.symm, trivial⟩, ht⟩) (fun q hq => by cases hq) dX12_isWord_22
  · have c_65i := i_eq (x := so.toInt) (y := 1) rfl rfl c_65
    replace hE := hE.trans (if_pos c_65)
    refine lv_aload_n hx hb dX12_isWord_8 rfl (lv_at hl 0 rfl) (va_get (ci := 12) (v := .long wo) (C := RX12) (T := TX12) (N := 60) hx hb hts hw12 hown hK hP 0 rfl rfl 17 (by decide +kernel) (hts _ mm_X12_isWord_847) (fun _ h9 => h9) rfl dX12_isWord_9 (lv_lload_n hx hb dX12_isWord_12 rfl (lv_at hl 1 rfl) ?_))
    refine W.lcmp hx hb dX12_isWord_13 ?_
    refine lv_if_ne (tgt := 21) hx hb dX12_isWord_14 (by decide +kernel) (fun c_66 => ?_) (fun c_66 => ?_)
    · have c_66i := l_ne (x := wo.toInt) (y := x.toInt) rfl rfl (fun q => c_66 ((lg_cmp_eq wo x).mpr q))
      replace hE := hE.trans (if_neg c_66)
      refine lv_iconst (v := 0) hx hb dX12_isWord_21 (by decide +kernel) ?_
      rw [← hQ]
      exact W.zret (v := 0) hx hb hr (by decide +kernel) (fun t ht hW => ⟨_, rfl, ⟨(by first | exact Or.inr (rfl)), hE.symm, trivial⟩, ht⟩) (fun q hq => by cases hq) dX12_isWord_22
    · have c_66i := l_eq (x := wo.toInt) (y := x.toInt) rfl rfl ((lg_cmp_eq wo x).mp c_66)
      replace hE := hE.trans (if_pos c_66)
      refine lv_iconst (v := 1) hx hb dX12_isWord_17 (by decide +kernel) (lv_goto (tgt := 22) hx hb dX12_isWord_18 (by decide +kernel) ?_)
      rw [← hQ]
      exact W.zret (v := 1) hx hb hr (by decide +kernel) (fun t ht hW => ⟨_, rfl, ⟨(by first | exact Or.inl ⟨rfl, by first | omega | decide | (subst_vars; assumption), by first | omega | decide | (subst_vars; assumption)⟩), hE.symm, trivial⟩, ht⟩) (fun q hq => by cases hq) dX12_isWord_22
set_option maxRecDepth 100000 in
noncomputable def E_v_isSign (x : Int32) (so : Int32) (wo : Int64) : Int32 :=
  if so = 3 then (Lt ((x : Int32).toInt64 : Int64) (fun x_68 => if (lg_cmp wo x_68) = 0 then ((1 : Int32)) else ((0 : Int32)))) else ((0 : Int32))
set_option maxHeartbeats 4000000 in
set_option maxRecDepth 100000 in
theorem v_isSign (l : Launch) (D : va_G) (K : Nat → ClassId) (m0 : Nat) (x : Int32) (m_0 : Value) (m_1 : Value) (m_2 : Value) (m_3 : Value) (m_4 : Value) (m_5 : Value) (m_6 : Value) (m_7 : Value) (m_8 : Value) (m_9 : Value) (m_10 : Value) (m_11 : Value) (m_12 : Value) (m_13 : Value) (m_14 : Value) (m_15 : Value) (so : Int32) (wo : Int64) (m_18 : Value) (m_19 : Value) (m_20 : Value) (m_21 : Value) (m_22 : Value) (m_23 : Value) (m_24 : Value) (m_25 : Value) (m_26 : Value) (m_27 : Value) (m_28 : Value) (m_29 : Value) (m_30 : Value) (m_31 : Value) (m_32 : Value) (m_33 : Value) (m_34 : Value) (m_35 : Value) (m_36 : Value) (m_37 : Value) (m_38 : Value) (m_39 : Value) (m_40 : Value) (m_41 : Value) (m_42 : Value) (m_43 : Value) (m_44 : Value) (m_45 : Value) (m_46 : Value) (m_47 : Value) (m_48 : Value) (m_49 : Value) (m_50 : Value) (m_51 : Value) (m_52 : Value) (m_53 : Value) (m_54 : Value) (m_55 : Value) (m_56 : Value) (m_57 : Value) (m_58 : Value) (m_59 : Value) (sz : Nat) : Met l yX12_isSign wsX12_isSign ({ frames := 0, cells := 0, slots := 0, locals := 0 }) (va_Pc [.ref m0, .int x] (Pre D K [(cc_O m0 12 [m_0, m_1, m_2, m_3, m_4, m_5, m_6, m_7, m_8, m_9, m_10, m_11, m_12, m_13, m_14, m_15, .int so, .long wo, m_18, m_19, m_20, m_21, m_22, m_23, m_24, m_25, m_26, m_27, m_28, m_29, m_30, m_31, m_32, m_33, m_34, m_35, m_36, m_37, m_38, m_39, m_40, m_41, m_42, m_43, m_44, m_45, m_46, m_47, m_48, m_49, m_50, m_51, m_52, m_53, m_54, m_55, m_56, m_57, m_58, m_59])] sz)) (vp_Si (fun r : Int32 => ((r = 1 ∧ so.toInt = 3) ∨ (r = 0)) ∧ (r = E_v_isSign x so wo) ∧ True)) 0 0 (fun _ => False) := by
  refine Met.ofW (cc := cX12_isSign) (maxL := 2) (ret := (some .boolean)) (by decide +kernel) rfl ?_
  intro p e s m args below meth c s₁ B hml hv
  obtain ⟨rfl, hsz, hP, hK, hD0, hN⟩ := hv
  have hx := B.exec
  have hb := B.bytes
  have hr := B.returns
  have hts := atoms_spec (ws := wsX12_isSign) B.pre
  have hown : s.vm.findClass RX12 = some m.cls := findClass_of_methodNamed B.named
  have hlocks := B.notSynchronized
  subst hsz
  have hD := hD0
  replace hP : va_P D vwCl [(cc_O m0 12 [m_0, m_1, m_2, m_3, m_4, m_5, m_6, m_7, m_8, m_9, m_10, m_11, m_12, m_13, m_14, m_15, .int so, .long wo, m_18, m_19, m_20, m_21, m_22, m_23, m_24, m_25, m_26, m_27, m_28, m_29, m_30, m_31, m_32, m_33, m_34, m_35, m_36, m_37, m_38, m_39, m_40, m_41, m_42, m_43, m_44, m_45, m_46, m_47, m_48, m_49, m_50, m_51, m_52, m_53, m_54, m_55, m_56, m_57, m_58, m_59])] s.heap := hP
  have hl := lv_entry [.ref m0, .int x] (n := 2) (Nat.le_of_ble_eq_true rfl)
  rw [lg_entry_eq]
  generalize (lg_sl [.ref m0, .int x] ++ List.replicate (2 - (lg_sl [.ref m0, .int x]).length) Slot.unset).toArray = ls at hl ⊢
  have hl : lv_has ls 2 [(0, .ref m0), (1, .int x)] := hl
  have hw12 : ∀ w ∈ wsX120, w ∈ wsX12_isSign := fun w h => (List.mem_cons_of_mem _ (List.mem_append_right _ h))
  generalize hQ : MQ below _ _ s _ _ _ = Q
  have hE := E_v_isSign.eq_def x so wo
  refine lv_aload_n hx hb dX12_isSign_0 rfl (lv_at hl 0 rfl) (va_get (ci := 12) (v := .int so) (C := RX12) (T := TX12) (N := 60) hx hb hts hw12 hown hK hP 0 rfl rfl 16 (by decide +kernel) (hts _ mm_X12_isSign_846) (fun _ h9 => h9) rfl dX12_isSign_1 (lv_iconst (v := 3) hx hb dX12_isSign_4 (by decide +kernel) (lv_icmp_ne (tgt := 22) hx hb dX12_isSign_5 (by decide +kernel) (fun c_67 => ?_) (fun c_67 => ?_))))
  · have c_67i := i_ne (x := so.toInt) (y := 3) rfl rfl c_67
    replace hE := hE.trans (if_neg c_67)
    refine lv_iconst (v := 0) hx hb dX12_isSign_22 (by decide +kernel) ?_
    rw [← hQ]
    exact W.zret (v := 0) hx hb hr (by decide +kernel) (fun t ht hW => ⟨_, rfl, ⟨(by first | exact Or.inr (rfl)), hE.symm, trivial⟩, ht⟩) (fun q hq => by cases hq) dX12_isSign_23
  · have c_67i := i_eq (x := so.toInt) (y := 3) rfl rfl c_67
    replace hE := hE.trans (if_pos c_67)
    refine lv_aload_n hx hb dX12_isSign_8 rfl (lv_at hl 0 rfl) (va_get (ci := 12) (v := .long wo) (C := RX12) (T := TX12) (N := 60) hx hb hts hw12 hown hK hP 0 rfl rfl 17 (by decide +kernel) (hts _ mm_X12_isSign_847) (fun _ h9 => h9) rfl dX12_isSign_9 (lv_iload_n hx hb dX12_isSign_12 rfl (lv_at hl 1 rfl) (lv_i2l hx hb dX12_isSign_13 rfl (lv_topl (fun x_68 ex_68 => ?_)))))
    replace hE := hE.trans (Lt_in ex_68)
    have hx_68 : x_68.toInt = x.toInt := by rw [ex_68]; exact i_wide rfl
    have hbx_68 := i_rng (a := x) rfl
    refine W.lcmp hx hb dX12_isSign_14 ?_
    refine lv_if_ne (tgt := 22) hx hb dX12_isSign_15 (by decide +kernel) (fun c_69 => ?_) (fun c_69 => ?_)
    · have c_69i := l_ne (x := wo.toInt) (y := x.toInt) rfl hx_68 (fun q => c_69 ((lg_cmp_eq wo x_68).mpr q))
      replace hE := hE.trans (if_neg c_69)
      refine lv_iconst (v := 0) hx hb dX12_isSign_22 (by decide +kernel) ?_
      rw [← hQ]
      exact W.zret (v := 0) hx hb hr (by decide +kernel) (fun t ht hW => ⟨_, rfl, ⟨(by first | exact Or.inr (rfl)), hE.symm, trivial⟩, ht⟩) (fun q hq => by cases hq) dX12_isSign_23
    · have c_69i := l_eq (x := wo.toInt) (y := x.toInt) rfl hx_68 ((lg_cmp_eq wo x_68).mp c_69)
      replace hE := hE.trans (if_pos c_69)
      refine lv_iconst (v := 1) hx hb dX12_isSign_18 (by decide +kernel) (lv_goto (tgt := 23) hx hb dX12_isSign_19 (by decide +kernel) ?_)
      rw [← hQ]
      exact W.zret (v := 1) hx hb hr (by decide +kernel) (fun t ht hW => ⟨_, rfl, ⟨(by first | exact Or.inl ⟨rfl, by first | omega | decide | (subst_vars; assumption)⟩), hE.symm, trivial⟩, ht⟩) (fun q hq => by cases hq) dX12_isSign_23
set_option maxRecDepth 100000 in
noncomputable def E_v_must (x : Int32) (ta : Int32) (fr : Int32) (to : Int32) (so : Int32) (wo : Int64) (fau : Int32) (bd : Int32) (ft : Nat → Int32) : Int32 × Int32 × Int32 × Int64 × Int32 × Int32 :=
  if bd = 0 then (if x = 0 then (((fr, to, so, wo, fr, 1) : Int32 × Int32 × Int32 × Int64 × Int32 × Int32)) else (if bd = 0 then (Lt2 (E_v_next ta fr to so wo ft) (fun u_92_2_2_2_1_0 q0_u_92_2_2_2_1_0 => Lt2 q0_u_92_2_2_2_1_0 (fun u_92_2_2_2_1_1 q1_u_92_2_2_2_1_1 => Lt2 q1_u_92_2_2_2_1_1 (fun u_92_2_2_2_1_2 u_92_2_2_2_2_1_0 => ((u_92_2_2_2_1_0, u_92_2_2_2_1_1, u_92_2_2_2_1_2, u_92_2_2_2_2_1_0, fau, bd) : Int32 × Int32 × Int32 × Int64 × Int32 × Int32))))) else (((0, 0, 0, 0, 0, 0) : Int32 × Int32 × Int32 × Int64 × Int32 × Int32)))) else (if bd = 0 then (((0, 0, 0, 0, 0, 0) : Int32 × Int32 × Int32 × Int64 × Int32 × Int32)) else (((fr, to, so, wo, fau, bd) : Int32 × Int32 × Int32 × Int64 × Int32 × Int32)))
set_option maxHeartbeats 4000000 in
set_option maxRecDepth 100000 in
theorem v_must (l : Launch) (D : va_G) (K : Nat → ClassId) (m0 : Nat) (x : Int32) (m_0 : Value) (m_1 : Value) (m_2 : Value) (m_3 : Value) (m_4 : Value) (m_5 : Value) (m_6 : Value) (m_7 : Value) (m_8 : Value) (m_9 : Value) (m_10 : Value) (m_11 : Value) (t0 : Nat) (ta : Int32) (fr : Int32) (to : Int32) (so : Int32) (wo : Int64) (fau : Int32) (bd : Int32) (m_20 : Value) (m_21 : Value) (m_22 : Value) (m_23 : Value) (m_24 : Value) (m_25 : Value) (m_26 : Value) (m_27 : Value) (m_28 : Value) (m_29 : Value) (m_30 : Value) (m_31 : Value) (m_32 : Value) (m_33 : Value) (m_34 : Value) (m_35 : Value) (m_36 : Value) (m_37 : Value) (m_38 : Value) (m_39 : Value) (m_40 : Value) (m_41 : Value) (m_42 : Value) (m_43 : Value) (m_44 : Value) (m_45 : Value) (m_46 : Value) (m_47 : Value) (m_48 : Value) (m_49 : Value) (m_50 : Value) (m_51 : Value) (m_52 : Value) (m_53 : Value) (m_54 : Value) (m_55 : Value) (m_56 : Value) (m_57 : Value) (m_58 : Value) (m_59 : Value) (ft : Nat → Int32) (sz : Nat) (ztk : 0 ≤ fr.toInt ∧ fr.toInt ≤ to.toInt ∧ to.toInt ≤ ta.toInt ∧ ta.toInt ≤ 400) (ztk2 : (so.toInt = 0 ∨ fr.toInt < to.toInt)) (ztk3 : (so.toInt ≠ 1 ∨ fr.toInt + 1 < to.toInt ∨ wo.toInt ≤ 26)) (zso : 0 ≤ so.toInt ∧ so.toInt ≤ 3) (zbd : 0 ≤ bd.toInt ∧ bd.toInt ≤ 1) (zx : 0 ≤ x.toInt ∧ x.toInt ≤ 1) : Met l yX12_must wsX12_must ({ frames := 2, cells := 0, slots := 0, locals := 40 }) (va_Pc [.ref m0, .int x] (Pre D K [(cc_O m0 12 [m_0, m_1, m_2, m_3, m_4, m_5, m_6, m_7, m_8, m_9, m_10, m_11, .ref t0, .int ta, .int fr, .int to, .int so, .long wo, .int fau, .int bd, m_20, m_21, m_22, m_23, m_24, m_25, m_26, m_27, m_28, m_29, m_30, m_31, m_32, m_33, m_34, m_35, m_36, m_37, m_38, m_39, m_40, m_41, m_42, m_43, m_44, m_45, m_46, m_47, m_48, m_49, m_50, m_51, m_52, m_53, m_54, m_55, m_56, m_57, m_58, m_59]), (cc_l t0 (K 0) 400 ft)] sz)) (va_Qv (S := Su) (fun (u : Su) => (0 ≤ (u.2.2.2.1 0).toInt ∧ (u.2.2.2.1 0).toInt ≤ 400) ∧ (0 ≤ (u.2.2.2.1 1).toInt ∧ (u.2.2.2.1 1).toInt ≤ 400) ∧ (0 ≤ (u.2.2.2.1 2).toInt ∧ (u.2.2.2.1 2).toInt ≤ 3) ∧ (0 ≤ (u.2.2.2.1 4).toInt ∧ (u.2.2.2.1 4).toInt ≤ 1) ∧ (((u.2.2.2.1 0), (u.2.2.2.1 1), (u.2.2.2.1 2), (u.2.2.2.2.1 0), (u.2.2.2.1 3), (u.2.2.2.1 4)) = E_v_must x ta fr to so wo fau bd ft) ∧ (((0 ≤ (u.2.2.2.1 0).toInt ∧ (u.2.2.2.1 0).toInt ≤ (u.2.2.2.1 1).toInt ∧ (u.2.2.2.1 1).toInt ≤ ta.toInt) ∧ ((u.2.2.2.1 2).toInt = 0 ∨ (u.2.2.2.1 0).toInt < (u.2.2.2.1 1).toInt) ∧ ((u.2.2.2.1 2).toInt ≠ 1 ∨ (u.2.2.2.1 0).toInt + 1 < (u.2.2.2.1 1).toInt ∨ (u.2.2.2.2.1 0).toInt ≤ 26))) ∧ (((u.2.2.2.1 4).toInt = 1 ∨ (bd.toInt = 0 ∧ x.toInt = 1 ∧ to.toInt ≤ (u.2.2.2.1 0).toInt))) ∧ (fr.toInt ≤ (u.2.2.2.1 0).toInt) ∧ True) (fun u t => Wd D (va_A [(cc_O m0 12 [m_0, m_1, m_2, m_3, m_4, m_5, m_6, m_7, m_8, m_9, m_10, m_11, .ref t0, .int ta, .int fr, .int to, .int so, .long wo, .int fau, .int bd, m_20, m_21, m_22, m_23, m_24, m_25, m_26, m_27, m_28, m_29, m_30, m_31, m_32, m_33, m_34, m_35, m_36, m_37, m_38, m_39, m_40, m_41, m_42, m_43, m_44, m_45, m_46, m_47, m_48, m_49, m_50, m_51, m_52, m_53, m_54, m_55, m_56, m_57, m_58, m_59]), (cc_l t0 (K 0) 400 ft)] sz) ((fun u => [(cc_O m0 12 [m_0, m_1, m_2, m_3, m_4, m_5, m_6, m_7, m_8, m_9, m_10, m_11, .ref t0, .int ta, .int (u.2.2.2.1 0), .int (u.2.2.2.1 1), .int (u.2.2.2.1 2), .long (u.2.2.2.2.1 0), .int (u.2.2.2.1 3), .int (u.2.2.2.1 4), m_20, m_21, m_22, m_23, m_24, m_25, m_26, m_27, m_28, m_29, m_30, m_31, m_32, m_33, m_34, m_35, m_36, m_37, m_38, m_39, m_40, m_41, m_42, m_43, m_44, m_45, m_46, m_47, m_48, m_49, m_50, m_51, m_52, m_53, m_54, m_55, m_56, m_57, m_58, m_59]), (cc_l t0 (K 0) 400 ft)]) u) t) (va_A [(cc_O m0 12 [m_0, m_1, m_2, m_3, m_4, m_5, m_6, m_7, m_8, m_9, m_10, m_11, .ref t0, .int ta, .int fr, .int to, .int so, .long wo, .int fau, .int bd, m_20, m_21, m_22, m_23, m_24, m_25, m_26, m_27, m_28, m_29, m_30, m_31, m_32, m_33, m_34, m_35, m_36, m_37, m_38, m_39, m_40, m_41, m_42, m_43, m_44, m_45, m_46, m_47, m_48, m_49, m_50, m_51, m_52, m_53, m_54, m_55, m_56, m_57, m_58, m_59]), (cc_l t0 (K 0) 400 ft)] sz)) 0 0 (va_A [(cc_O m0 12 [m_0, m_1, m_2, m_3, m_4, m_5, m_6, m_7, m_8, m_9, m_10, m_11, .ref t0, .int ta, .int fr, .int to, .int so, .long wo, .int fau, .int bd, m_20, m_21, m_22, m_23, m_24, m_25, m_26, m_27, m_28, m_29, m_30, m_31, m_32, m_33, m_34, m_35, m_36, m_37, m_38, m_39, m_40, m_41, m_42, m_43, m_44, m_45, m_46, m_47, m_48, m_49, m_50, m_51, m_52, m_53, m_54, m_55, m_56, m_57, m_58, m_59]), (cc_l t0 (K 0) 400 ft)] sz) := by
  refine Met.ofW (cc := cX12_must) (maxL := 2) (ret := none) (by decide +kernel) rfl ?_
  intro p e s m args below meth c s₁ B hml hv
  obtain ⟨rfl, hsz, hP, hK, hD0, hN⟩ := hv
  have hx := B.exec
  have hb := B.bytes
  have hr := B.returns
  have hts := atoms_spec (ws := wsX12_must) B.pre
  have hown : s.vm.findClass RX12 = some m.cls := findClass_of_methodNamed B.named
  have hlocks := B.notSynchronized
  subst hsz
  have hD := hD0.self (sz := s.heap.size)
  generalize hAe : va_A [(cc_O m0 12 [m_0, m_1, m_2, m_3, m_4, m_5, m_6, m_7, m_8, m_9, m_10, m_11, .ref t0, .int ta, .int fr, .int to, .int so, .long wo, .int fau, .int bd, m_20, m_21, m_22, m_23, m_24, m_25, m_26, m_27, m_28, m_29, m_30, m_31, m_32, m_33, m_34, m_35, m_36, m_37, m_38, m_39, m_40, m_41, m_42, m_43, m_44, m_45, m_46, m_47, m_48, m_49, m_50, m_51, m_52, m_53, m_54, m_55, m_56, m_57, m_58, m_59]), (cc_l t0 (K 0) 400 ft)] s.heap.size = A at hD ⊢
  have hA : ∀ q : Nat, s.heap.size ≤ q → A q := fun q h => by rw [← hAe]; exact Or.inr h
  clear hAe
  have hS : va_S A s.heap s.heap [] := va_S.rf
  replace hP : va_P D vwCl [(cc_O m0 12 [m_0, m_1, m_2, m_3, m_4, m_5, m_6, m_7, m_8, m_9, m_10, m_11, .ref t0, .int ta, .int fr, .int to, .int so, .long wo, .int fau, .int bd, m_20, m_21, m_22, m_23, m_24, m_25, m_26, m_27, m_28, m_29, m_30, m_31, m_32, m_33, m_34, m_35, m_36, m_37, m_38, m_39, m_40, m_41, m_42, m_43, m_44, m_45, m_46, m_47, m_48, m_49, m_50, m_51, m_52, m_53, m_54, m_55, m_56, m_57, m_58, m_59]), (cc_l t0 (K 0) 400 ft)] s.heap := hP
  have hl := lv_entry [.ref m0, .int x] (n := 2) (Nat.le_of_ble_eq_true rfl)
  rw [lg_entry_eq]
  generalize (lg_sl [.ref m0, .int x] ++ List.replicate (2 - (lg_sl [.ref m0, .int x]).length) Slot.unset).toArray = ls at hl ⊢
  have hl : lv_has ls 2 [(0, .ref m0), (1, .int x)] := hl
  have hw12 : ∀ w ∈ wsX120, w ∈ wsX12_must := fun w h => (List.mem_cons_of_mem _ (List.mem_append_right _ h))
  generalize hQ : MQ below _ _ s _ _ _ = Q
  have hE := E_v_must.eq_def x ta fr to so wo fau bd ft
  refine lv_aload_n hx hb dX12_must_0 rfl (lv_at hl 0 rfl) (va_get (ci := 12) (v := .int bd) (C := RX12) (T := TX12) (N := 60) hx hb hts hw12 hown hK hP 0 rfl rfl 19 (by decide +kernel) (hts _ mm_X12_must_849) (fun _ h9 => h9) rfl dX12_must_1 (lv_if_ne (tgt := 24) hx hb dX12_must_4 (by decide +kernel) (fun c_87 => ?_) (fun c_87 => ?_)))
  · have c_87i := i_ne (x := bd.toInt) (y := 0) rfl rfl c_87
    replace hE := hE.trans (if_neg c_87)
    refine lv_aload_n hx hb dX12_must_24 rfl (lv_at hl 0 rfl) (va_get (ci := 12) (v := .int bd) (C := RX12) (T := TX12) (N := 60) hx hb hts hw12 hown hK hP 0 rfl rfl 19 (by decide +kernel) (hts _ mm_X12_must_849) (fun _ h9 => h9) rfl dX12_must_25 (lv_if_ne (tgt := 35) hx hb dX12_must_28 (by decide +kernel) (fun c_88 => ?_) (fun c_88 => ?_)))
    · have c_88i := i_ne (x := bd.toInt) (y := 0) rfl rfl c_88
      replace hE := hE.trans (if_neg c_88)
      rw [← hQ]
      have hP9 := hP.sub (ws' := [(cc_O m0 12 [m_0, m_1, m_2, m_3, m_4, m_5, m_6, m_7, m_8, m_9, m_10, m_11, .ref t0, .int ta, .int fr, .int to, .int so, .long wo, .int fau, .int bd, m_20, m_21, m_22, m_23, m_24, m_25, m_26, m_27, m_28, m_29, m_30, m_31, m_32, m_33, m_34, m_35, m_36, m_37, m_38, m_39, m_40, m_41, m_42, m_43, m_44, m_45, m_46, m_47, m_48, m_49, m_50, m_51, m_52, m_53, m_54, m_55, m_56, m_57, m_58, m_59]), (cc_l t0 (K 0) 400 ft)]) [0, 1] rfl
      have hD9 := sub_D hP9 hD [0, 1] (by decide +kernel) rfl
      exact W.vret hx hb hr (fun t ht hW => ⟨⟨((fun _ => 0, fun _ => fun _ => 0, fun _ => fun _ => 0, fun i => match i with | 0 => fr | 1 => to | 2 => so | 3 => fau | _ => bd, fun i => match i with | _ => wo, fun _ => fun _ => none) : Su), rfl, ⟨(show 0 ≤ (fr : Int32).toInt ∧ (fr : Int32).toInt ≤ 400 by omega), (show 0 ≤ (to : Int32).toInt ∧ (to : Int32).toInt ≤ 400 by omega), (show 0 ≤ (so : Int32).toInt ∧ (so : Int32).toInt ≤ 3 by omega), (show 0 ≤ (bd : Int32).toInt ∧ (bd : Int32).toInt ≤ 1 by omega), hE.symm, (show ((0 ≤ (fr : Int32).toInt ∧ (fr : Int32).toInt ≤ (to : Int32).toInt ∧ (to : Int32).toInt ≤ ta.toInt) ∧ ((so : Int32).toInt = 0 ∨ (fr : Int32).toInt < (to : Int32).toInt) ∧ ((so : Int32).toInt ≠ 1 ∨ (fr : Int32).toInt + 1 < (to : Int32).toInt ∨ (wo : Int64).toInt ≤ 26)) by omega), (show ((bd : Int32).toInt = 1 ∨ (bd.toInt = 0 ∧ x.toInt = 1 ∧ to.toInt ≤ (fr : Int32).toInt)) by omega), (show fr.toInt ≤ (fr : Int32).toInt by omega), trivial⟩, (⟨by rw [ht]; exact hP9, hD9⟩ : Wd D A _ t)⟩, hS.F ht⟩) hS.2.2 dX12_must_35
    · have c_88i := i_eq (x := bd.toInt) (y := 0) rfl rfl c_88
      exfalso; omega
  · have c_87i := i_eq (x := bd.toInt) (y := 0) rfl rfl c_87
    replace hE := hE.trans (if_pos c_87)
    refine lv_iload_n hx hb dX12_must_7 rfl (lv_at hl 1 rfl) (lv_if_ne (tgt := 24) hx hb dX12_must_8 (by decide +kernel) (fun c_89 => ?_) (fun c_89 => ?_))
    · have c_89i := i_ne (x := x.toInt) (y := 0) rfl rfl c_89
      replace hE := hE.trans (if_neg c_89)
      refine lv_aload_n hx hb dX12_must_24 rfl (lv_at hl 0 rfl) (va_get (ci := 12) (v := .int bd) (C := RX12) (T := TX12) (N := 60) hx hb hts hw12 hown hK hP 0 rfl rfl 19 (by decide +kernel) (hts _ mm_X12_must_849) (fun _ h9 => h9) rfl dX12_must_25 (lv_if_ne (tgt := 35) hx hb dX12_must_28 (by decide +kernel) (fun c_90 => ?_) (fun c_90 => ?_)))
      · have c_90i := i_ne (x := bd.toInt) (y := 0) rfl rfl c_90
        exfalso; omega
      · have c_90i := i_eq (x := bd.toInt) (y := 0) rfl rfl c_90
        replace hE := hE.trans (if_pos c_90)
        refine lv_aload_n hx hb dX12_must_31 rfl (lv_at hl 0 rfl) (kcv (S := Su) (wr := []) (va_runV (As := []) (rest := []) ⟨hx, hb, hml, hown, hts⟩ (v_next l D K m0 m_0 m_1 m_2 m_3 m_4 m_5 m_6 m_7 m_8 m_9 m_10 m_11 t0 ta fr to so wo (.int fau) (.int bd) m_20 m_21 m_22 m_23 m_24 m_25 m_26 m_27 m_28 m_29 m_30 m_31 m_32 m_33 m_34 m_35 m_36 m_37 m_38 m_39 m_40 m_41 m_42 m_43 m_44 m_45 m_46 m_47 m_48 m_49 m_50 m_51 m_52 m_53 m_54 m_55 m_56 m_57 m_58 m_59 ft s.heap.size (by first | omega | decide)) (cwV 0 hts gX12_must_X12_next rfl rfl rfl (by decide +kernel) ⟨Nat.le_of_ble_eq_true rfl, Nat.le_of_ble_eq_true rfl⟩) (mkV hK hN (hP.sub [0, 1] rfl) (hD.sub [0, 1] (by decide +kernel) rfl) (ci := 12) (q0 := 0) rfl rfl) rfl rfl hl.1 rfl (lv_room (Nat.le_of_ble_eq_true rfl)) dX12_must_32 ⟨Nat.le_of_ble_eq_true rfl, Nat.le_of_ble_eq_true rfl⟩) hP hD hS hA [0, 1] [] rfl rfl (by decide +kernel) (by decide +kernel) (fun u_92 H locs hw hP0 hD0 hS0 => ?_))
        replace hP : va_P D vwCl [(cc_O m0 12 [m_0, m_1, m_2, m_3, m_4, m_5, m_6, m_7, m_8, m_9, m_10, m_11, .ref t0, .int ta, .int (u_92.2.2.2.1 0), .int (u_92.2.2.2.1 1), .int (u_92.2.2.2.1 2), .long (u_92.2.2.2.2.1 0), .int fau, .int bd, m_20, m_21, m_22, m_23, m_24, m_25, m_26, m_27, m_28, m_29, m_30, m_31, m_32, m_33, m_34, m_35, m_36, m_37, m_38, m_39, m_40, m_41, m_42, m_43, m_44, m_45, m_46, m_47, m_48, m_49, m_50, m_51, m_52, m_53, m_54, m_55, m_56, m_57, m_58, m_59]), (cc_l t0 (K 0) 400 ft)] H := hP0
        replace hD := as_D hP hD0 rfl
        replace hS := hS0
        clear hP0 hD0 hS0
        obtain ⟨k_93, k_94, k_95, k_96, k_97, k_98, -⟩ := hw
        replace hE := ((hE.trans (Lt2_in k_96)).trans (Lt2_in rfl)).trans (Lt2_in rfl)
        rw [← hQ]
        have hP9 := hP.sub (ws' := [(cc_O m0 12 [m_0, m_1, m_2, m_3, m_4, m_5, m_6, m_7, m_8, m_9, m_10, m_11, .ref t0, .int ta, .int (u_92.2.2.2.1 0), .int (u_92.2.2.2.1 1), .int (u_92.2.2.2.1 2), .long (u_92.2.2.2.2.1 0), .int fau, .int bd, m_20, m_21, m_22, m_23, m_24, m_25, m_26, m_27, m_28, m_29, m_30, m_31, m_32, m_33, m_34, m_35, m_36, m_37, m_38, m_39, m_40, m_41, m_42, m_43, m_44, m_45, m_46, m_47, m_48, m_49, m_50, m_51, m_52, m_53, m_54, m_55, m_56, m_57, m_58, m_59]), (cc_l t0 (K 0) 400 ft)]) [0, 1] rfl
        have hD9 := sub_D hP9 hD [0, 1] (by decide +kernel) rfl
        exact W.vret hx hb hr (fun t ht hW => ⟨⟨((fun _ => 0, fun _ => fun _ => 0, fun _ => fun _ => 0, fun i => match i with | 0 => (u_92.2.2.2.1 0) | 1 => (u_92.2.2.2.1 1) | 2 => (u_92.2.2.2.1 2) | 3 => fau | _ => bd, fun i => match i with | _ => (u_92.2.2.2.2.1 0), fun _ => fun _ => none) : Su), rfl, ⟨(show 0 ≤ ((u_92.2.2.2.1 0) : Int32).toInt ∧ ((u_92.2.2.2.1 0) : Int32).toInt ≤ 400 by omega), (show 0 ≤ ((u_92.2.2.2.1 1) : Int32).toInt ∧ ((u_92.2.2.2.1 1) : Int32).toInt ≤ 400 by omega), (show 0 ≤ ((u_92.2.2.2.1 2) : Int32).toInt ∧ ((u_92.2.2.2.1 2) : Int32).toInt ≤ 3 by omega), (show 0 ≤ (bd : Int32).toInt ∧ (bd : Int32).toInt ≤ 1 by omega), hE.symm, (show ((0 ≤ ((u_92.2.2.2.1 0) : Int32).toInt ∧ ((u_92.2.2.2.1 0) : Int32).toInt ≤ ((u_92.2.2.2.1 1) : Int32).toInt ∧ ((u_92.2.2.2.1 1) : Int32).toInt ≤ ta.toInt) ∧ (((u_92.2.2.2.1 2) : Int32).toInt = 0 ∨ ((u_92.2.2.2.1 0) : Int32).toInt < ((u_92.2.2.2.1 1) : Int32).toInt) ∧ (((u_92.2.2.2.1 2) : Int32).toInt ≠ 1 ∨ ((u_92.2.2.2.1 0) : Int32).toInt + 1 < ((u_92.2.2.2.1 1) : Int32).toInt ∨ ((u_92.2.2.2.2.1 0) : Int64).toInt ≤ 26)) by omega), (show ((bd : Int32).toInt = 1 ∨ (bd.toInt = 0 ∧ x.toInt = 1 ∧ to.toInt ≤ ((u_92.2.2.2.1 0) : Int32).toInt)) by omega), (show fr.toInt ≤ ((u_92.2.2.2.1 0) : Int32).toInt by omega), trivial⟩, (⟨by rw [ht]; exact hP9, hD9⟩ : Wd D A _ t)⟩, hS.F ht⟩) hS.2.2 dX12_must_35
    · have c_89i := i_eq (x := x.toInt) (y := 0) rfl rfl c_89
      replace hE := hE.trans (if_pos c_89)
      refine lv_aload_n hx hb dX12_must_11 rfl (lv_at hl 0 rfl) (lv_iconst (v := 1) hx hb dX12_must_12 (by decide +kernel) (va_put (ci := 12) (v := .int 1) (ty := .boolean) (C := RX12) (T := TX12) (N := 60) hx hb hts hw12 tyX12 tyX12_ok nmX12 hown hK hP hD hS 0 rfl rfl 19 (by decide +kernel) (hts _ mm_X12_must_849) (fun _ h9 => h9) rfl (by decide +kernel) (by first | rfl | decide) (by first | rfl | decide) (Nat.le_of_ble_eq_true rfl) dX12_must_13 (fun H locs hP0 hD0 hS0 => ?_)))
      replace hP : va_P D vwCl [(cc_O m0 12 [m_0, m_1, m_2, m_3, m_4, m_5, m_6, m_7, m_8, m_9, m_10, m_11, .ref t0, .int ta, .int fr, .int to, .int so, .long wo, .int fau, .int 1, m_20, m_21, m_22, m_23, m_24, m_25, m_26, m_27, m_28, m_29, m_30, m_31, m_32, m_33, m_34, m_35, m_36, m_37, m_38, m_39, m_40, m_41, m_42, m_43, m_44, m_45, m_46, m_47, m_48, m_49, m_50, m_51, m_52, m_53, m_54, m_55, m_56, m_57, m_58, m_59]), (cc_l t0 (K 0) 400 ft)] H := hP0
      replace hD := as_D hP hD0 rfl
      replace hS := hS0
      clear hP0 hD0 hS0
      refine lv_aload_n hx hb dX12_must_16 rfl (lv_at hl 0 rfl) (lv_aload_n hx hb dX12_must_17 rfl (lv_at hl 0 rfl) (va_get (ci := 12) (v := .int fr) (C := RX12) (T := TX12) (N := 60) hx hb hts hw12 hown hK hP 0 rfl rfl 14 (by decide +kernel) (hts _ mm_X12_must_844) (fun _ h9 => h9) rfl dX12_must_18 (va_put (ci := 12) (v := .int fr) (ty := .int) (C := RX12) (T := TX12) (N := 60) hx hb hts hw12 tyX12 tyX12_ok nmX12 hown hK hP hD hS 0 rfl rfl 18 (by decide +kernel) (hts _ mm_X12_must_848) (fun _ h9 => h9) rfl (by decide +kernel) (by first | rfl | decide) (by first | rfl | decide) (Nat.le_of_ble_eq_true rfl) dX12_must_21 (fun H locs hP0 hD0 hS0 => ?_))))
      replace hP : va_P D vwCl [(cc_O m0 12 [m_0, m_1, m_2, m_3, m_4, m_5, m_6, m_7, m_8, m_9, m_10, m_11, .ref t0, .int ta, .int fr, .int to, .int so, .long wo, .int fr, .int 1, m_20, m_21, m_22, m_23, m_24, m_25, m_26, m_27, m_28, m_29, m_30, m_31, m_32, m_33, m_34, m_35, m_36, m_37, m_38, m_39, m_40, m_41, m_42, m_43, m_44, m_45, m_46, m_47, m_48, m_49, m_50, m_51, m_52, m_53, m_54, m_55, m_56, m_57, m_58, m_59]), (cc_l t0 (K 0) 400 ft)] H := hP0
      replace hD := as_D hP hD0 rfl
      replace hS := hS0
      clear hP0 hD0 hS0
      refine lv_aload_n hx hb dX12_must_24 rfl (lv_at hl 0 rfl) (va_get (ci := 12) (v := .int 1) (C := RX12) (T := TX12) (N := 60) hx hb hts hw12 hown hK hP 0 rfl rfl 19 (by decide +kernel) (hts _ mm_X12_must_849) (fun _ h9 => h9) rfl dX12_must_25 (lv_if_ne (tgt := 35) hx hb dX12_must_28 (by decide +kernel) (fun c_99 => ?_) (fun c_99 => absurd c_99 (by decide +kernel))))
      rw [← hQ]
      have hP9 := hP.sub (ws' := [(cc_O m0 12 [m_0, m_1, m_2, m_3, m_4, m_5, m_6, m_7, m_8, m_9, m_10, m_11, .ref t0, .int ta, .int fr, .int to, .int so, .long wo, .int fr, .int 1, m_20, m_21, m_22, m_23, m_24, m_25, m_26, m_27, m_28, m_29, m_30, m_31, m_32, m_33, m_34, m_35, m_36, m_37, m_38, m_39, m_40, m_41, m_42, m_43, m_44, m_45, m_46, m_47, m_48, m_49, m_50, m_51, m_52, m_53, m_54, m_55, m_56, m_57, m_58, m_59]), (cc_l t0 (K 0) 400 ft)]) [0, 1] rfl
      have hD9 := sub_D hP9 hD [0, 1] (by decide +kernel) rfl
      exact W.vret hx hb hr (fun t ht hW => ⟨⟨((fun _ => 0, fun _ => fun _ => 0, fun _ => fun _ => 0, fun i => match i with | 0 => fr | 1 => to | 2 => so | 3 => fr | _ => 1, fun i => match i with | _ => wo, fun _ => fun _ => none) : Su), rfl, ⟨(show 0 ≤ (fr : Int32).toInt ∧ (fr : Int32).toInt ≤ 400 by omega), (show 0 ≤ (to : Int32).toInt ∧ (to : Int32).toInt ≤ 400 by omega), (show 0 ≤ (so : Int32).toInt ∧ (so : Int32).toInt ≤ 3 by omega), (show 0 ≤ (1 : Int32).toInt ∧ (1 : Int32).toInt ≤ 1 by decide), hE.symm, (show ((0 ≤ (fr : Int32).toInt ∧ (fr : Int32).toInt ≤ (to : Int32).toInt ∧ (to : Int32).toInt ≤ ta.toInt) ∧ ((so : Int32).toInt = 0 ∨ (fr : Int32).toInt < (to : Int32).toInt) ∧ ((so : Int32).toInt ≠ 1 ∨ (fr : Int32).toInt + 1 < (to : Int32).toInt ∨ (wo : Int64).toInt ≤ 26)) by omega), (show (1 = 1 ∨ (bd.toInt = 0 ∧ x.toInt = 1 ∧ to.toInt ≤ (fr : Int32).toInt)) by omega), (show fr.toInt ≤ (fr : Int32).toInt by omega), trivial⟩, (⟨by rw [ht]; exact hP9, hD9⟩ : Wd D A _ t)⟩, hS.F ht⟩) hS.2.2 dX12_must_35
set_option maxRecDepth 100000 in
noncomputable def E_v_number (y : Int64) (z : Int64) (ta : Int32) (fr : Int32) (to : Int32) (so : Int32) (wo : Int64) (fau : Int32) (bd : Int32) (ft : Nat → Int32) : Int32 × Int32 × Int32 × Int32 × Int64 × Int32 × Int32 :=
  Lt ((wo : Int64).toInt32 : Int32) (fun x_145 => if so = 2 then (Lt (E_v_in wo y z) (fun r_158 => if r_158 = 1 then (Lt2 (E_v_must 1 ta fr to so wo fau bd ft) (fun u_166_2_2_2_1_0 q0_u_166_2_2_2_1_0 => Lt2 q0_u_166_2_2_2_1_0 (fun u_166_2_2_2_1_1 q1_u_166_2_2_2_1_1 => Lt2 q1_u_166_2_2_2_1_1 (fun u_166_2_2_2_1_2 q2_u_166_2_2_2_1_2 => Lt2 q2_u_166_2_2_2_1_2 (fun u_166_2_2_2_2_1_0 q3_u_166_2_2_2_2_1_0 => Lt2 q3_u_166_2_2_2_2_1_0 (fun u_166_2_2_2_1_3 u_166_2_2_2_1_4 => ((x_145, u_166_2_2_2_1_0, u_166_2_2_2_1_1, u_166_2_2_2_1_2, u_166_2_2_2_2_1_0, u_166_2_2_2_1_3, u_166_2_2_2_1_4) : Int32 × Int32 × Int32 × Int32 × Int64 × Int32 × Int32))))))) else (Lt2 (E_v_must 0 ta fr to so wo fau bd ft) (fun u_178_2_2_2_1_0 q0_u_178_2_2_2_1_0 => Lt2 q0_u_178_2_2_2_1_0 (fun u_178_2_2_2_1_1 q1_u_178_2_2_2_1_1 => Lt2 q1_u_178_2_2_2_1_1 (fun u_178_2_2_2_1_2 q2_u_178_2_2_2_1_2 => Lt2 q2_u_178_2_2_2_1_2 (fun u_178_2_2_2_2_1_0 q3_u_178_2_2_2_2_1_0 => Lt2 q3_u_178_2_2_2_2_1_0 (fun u_178_2_2_2_1_3 u_178_2_2_2_1_4 => ((x_145, u_178_2_2_2_1_0, u_178_2_2_2_1_1, u_178_2_2_2_1_2, u_178_2_2_2_2_1_0, u_178_2_2_2_1_3, u_178_2_2_2_1_4) : Int32 × Int32 × Int32 × Int32 × Int64 × Int32 × Int32))))))))) else (Lt2 (E_v_must 0 ta fr to so wo fau bd ft) (fun u_149_2_2_2_1_0 q0_u_149_2_2_2_1_0 => Lt2 q0_u_149_2_2_2_1_0 (fun u_149_2_2_2_1_1 q1_u_149_2_2_2_1_1 => Lt2 q1_u_149_2_2_2_1_1 (fun u_149_2_2_2_1_2 q2_u_149_2_2_2_1_2 => Lt2 q2_u_149_2_2_2_1_2 (fun u_149_2_2_2_2_1_0 q3_u_149_2_2_2_2_1_0 => Lt2 q3_u_149_2_2_2_2_1_0 (fun u_149_2_2_2_1_3 u_149_2_2_2_1_4 => ((x_145, u_149_2_2_2_1_0, u_149_2_2_2_1_1, u_149_2_2_2_1_2, u_149_2_2_2_2_1_0, u_149_2_2_2_1_3, u_149_2_2_2_1_4) : Int32 × Int32 × Int32 × Int32 × Int64 × Int32 × Int32))))))))
set_option maxHeartbeats 4000000 in
set_option maxRecDepth 100000 in
theorem v_number (l : Launch) (D : va_G) (K : Nat → ClassId) (m0 : Nat) (y : Int64) (z : Int64) (m_0 : Value) (m_1 : Value) (m_2 : Value) (m_3 : Value) (m_4 : Value) (m_5 : Value) (m_6 : Value) (m_7 : Value) (m_8 : Value) (m_9 : Value) (m_10 : Value) (m_11 : Value) (t0 : Nat) (ta : Int32) (fr : Int32) (to : Int32) (so : Int32) (wo : Int64) (fau : Int32) (bd : Int32) (m_20 : Value) (m_21 : Value) (m_22 : Value) (m_23 : Value) (m_24 : Value) (m_25 : Value) (m_26 : Value) (m_27 : Value) (m_28 : Value) (m_29 : Value) (m_30 : Value) (m_31 : Value) (m_32 : Value) (m_33 : Value) (m_34 : Value) (m_35 : Value) (m_36 : Value) (m_37 : Value) (m_38 : Value) (m_39 : Value) (m_40 : Value) (m_41 : Value) (m_42 : Value) (m_43 : Value) (m_44 : Value) (m_45 : Value) (m_46 : Value) (m_47 : Value) (m_48 : Value) (m_49 : Value) (m_50 : Value) (m_51 : Value) (m_52 : Value) (m_53 : Value) (m_54 : Value) (m_55 : Value) (m_56 : Value) (m_57 : Value) (m_58 : Value) (m_59 : Value) (ft : Nat → Int32) (sz : Nat) (ztk : 0 ≤ fr.toInt ∧ fr.toInt ≤ to.toInt ∧ to.toInt ≤ ta.toInt ∧ ta.toInt ≤ 400) (ztk2 : (so.toInt = 0 ∨ fr.toInt < to.toInt)) (ztk3 : (so.toInt ≠ 1 ∨ fr.toInt + 1 < to.toInt ∨ wo.toInt ≤ 26)) (zso : 0 ≤ so.toInt ∧ so.toInt ≤ 3) (zbd : 0 ≤ bd.toInt ∧ bd.toInt ≤ 1) (zyz : -1000000 ≤ y.toInt ∧ z.toInt ≤ 1000000) : Met l yX12_number wsX12_number ({ frames := 3, cells := 0, slots := 0, locals := 61 }) (va_Pc [.ref m0, .long y, .long z] (Pre D K [(cc_O m0 12 [m_0, m_1, m_2, m_3, m_4, m_5, m_6, m_7, m_8, m_9, m_10, m_11, .ref t0, .int ta, .int fr, .int to, .int so, .long wo, .int fau, .int bd, m_20, m_21, m_22, m_23, m_24, m_25, m_26, m_27, m_28, m_29, m_30, m_31, m_32, m_33, m_34, m_35, m_36, m_37, m_38, m_39, m_40, m_41, m_42, m_43, m_44, m_45, m_46, m_47, m_48, m_49, m_50, m_51, m_52, m_53, m_54, m_55, m_56, m_57, m_58, m_59]), (cc_l t0 (K 0) 400 ft)] sz)) (va_Qi (S := Su) (fun (r : Int32) (u : Su) => (0 ≤ (u.2.2.2.1 0).toInt ∧ (u.2.2.2.1 0).toInt ≤ 400) ∧ (0 ≤ (u.2.2.2.1 1).toInt ∧ (u.2.2.2.1 1).toInt ≤ 400) ∧ (0 ≤ (u.2.2.2.1 2).toInt ∧ (u.2.2.2.1 2).toInt ≤ 3) ∧ (0 ≤ (u.2.2.2.1 4).toInt ∧ (u.2.2.2.1 4).toInt ≤ 1) ∧ ((r, (u.2.2.2.1 0), (u.2.2.2.1 1), (u.2.2.2.1 2), (u.2.2.2.2.1 0), (u.2.2.2.1 3), (u.2.2.2.1 4)) = E_v_number y z ta fr to so wo fau bd ft) ∧ (((0 ≤ (u.2.2.2.1 0).toInt ∧ (u.2.2.2.1 0).toInt ≤ (u.2.2.2.1 1).toInt ∧ (u.2.2.2.1 1).toInt ≤ ta.toInt) ∧ ((u.2.2.2.1 2).toInt = 0 ∨ (u.2.2.2.1 0).toInt < (u.2.2.2.1 1).toInt) ∧ ((u.2.2.2.1 2).toInt ≠ 1 ∨ (u.2.2.2.1 0).toInt + 1 < (u.2.2.2.1 1).toInt ∨ (u.2.2.2.2.1 0).toInt ≤ 26))) ∧ (((u.2.2.2.1 4).toInt = 1 ∨ (bd.toInt = 0 ∧ so.toInt = 2 ∧ to.toInt ≤ (u.2.2.2.1 0).toInt))) ∧ (fr.toInt ≤ (u.2.2.2.1 0).toInt) ∧ (((u.2.2.2.1 4).toInt = 1 ∨ (y.toInt ≤ r.toInt ∧ r.toInt ≤ z.toInt))) ∧ True) (fun u t => Wd D (va_A [(cc_O m0 12 [m_0, m_1, m_2, m_3, m_4, m_5, m_6, m_7, m_8, m_9, m_10, m_11, .ref t0, .int ta, .int fr, .int to, .int so, .long wo, .int fau, .int bd, m_20, m_21, m_22, m_23, m_24, m_25, m_26, m_27, m_28, m_29, m_30, m_31, m_32, m_33, m_34, m_35, m_36, m_37, m_38, m_39, m_40, m_41, m_42, m_43, m_44, m_45, m_46, m_47, m_48, m_49, m_50, m_51, m_52, m_53, m_54, m_55, m_56, m_57, m_58, m_59]), (cc_l t0 (K 0) 400 ft)] sz) ((fun u => [(cc_O m0 12 [m_0, m_1, m_2, m_3, m_4, m_5, m_6, m_7, m_8, m_9, m_10, m_11, .ref t0, .int ta, .int (u.2.2.2.1 0), .int (u.2.2.2.1 1), .int (u.2.2.2.1 2), .long (u.2.2.2.2.1 0), .int (u.2.2.2.1 3), .int (u.2.2.2.1 4), m_20, m_21, m_22, m_23, m_24, m_25, m_26, m_27, m_28, m_29, m_30, m_31, m_32, m_33, m_34, m_35, m_36, m_37, m_38, m_39, m_40, m_41, m_42, m_43, m_44, m_45, m_46, m_47, m_48, m_49, m_50, m_51, m_52, m_53, m_54, m_55, m_56, m_57, m_58, m_59]), (cc_l t0 (K 0) 400 ft)]) u) t) (va_A [(cc_O m0 12 [m_0, m_1, m_2, m_3, m_4, m_5, m_6, m_7, m_8, m_9, m_10, m_11, .ref t0, .int ta, .int fr, .int to, .int so, .long wo, .int fau, .int bd, m_20, m_21, m_22, m_23, m_24, m_25, m_26, m_27, m_28, m_29, m_30, m_31, m_32, m_33, m_34, m_35, m_36, m_37, m_38, m_39, m_40, m_41, m_42, m_43, m_44, m_45, m_46, m_47, m_48, m_49, m_50, m_51, m_52, m_53, m_54, m_55, m_56, m_57, m_58, m_59]), (cc_l t0 (K 0) 400 ft)] sz)) 0 0 (va_A [(cc_O m0 12 [m_0, m_1, m_2, m_3, m_4, m_5, m_6, m_7, m_8, m_9, m_10, m_11, .ref t0, .int ta, .int fr, .int to, .int so, .long wo, .int fau, .int bd, m_20, m_21, m_22, m_23, m_24, m_25, m_26, m_27, m_28, m_29, m_30, m_31, m_32, m_33, m_34, m_35, m_36, m_37, m_38, m_39, m_40, m_41, m_42, m_43, m_44, m_45, m_46, m_47, m_48, m_49, m_50, m_51, m_52, m_53, m_54, m_55, m_56, m_57, m_58, m_59]), (cc_l t0 (K 0) 400 ft)] sz) := by
  refine Met.ofW (cc := cX12_number) (maxL := 6) (ret := (some .int)) (by decide +kernel) rfl ?_
  intro p e s m args below meth c s₁ B hml hv
  obtain ⟨rfl, hsz, hP, hK, hD0, hN⟩ := hv
  have hx := B.exec
  have hb := B.bytes
  have hr := B.returns
  have hts := atoms_spec (ws := wsX12_number) B.pre
  have hown : s.vm.findClass RX12 = some m.cls := findClass_of_methodNamed B.named
  have hlocks := B.notSynchronized
  subst hsz
  have hD := hD0.self (sz := s.heap.size)
  generalize hAe : va_A [(cc_O m0 12 [m_0, m_1, m_2, m_3, m_4, m_5, m_6, m_7, m_8, m_9, m_10, m_11, .ref t0, .int ta, .int fr, .int to, .int so, .long wo, .int fau, .int bd, m_20, m_21, m_22, m_23, m_24, m_25, m_26, m_27, m_28, m_29, m_30, m_31, m_32, m_33, m_34, m_35, m_36, m_37, m_38, m_39, m_40, m_41, m_42, m_43, m_44, m_45, m_46, m_47, m_48, m_49, m_50, m_51, m_52, m_53, m_54, m_55, m_56, m_57, m_58, m_59]), (cc_l t0 (K 0) 400 ft)] s.heap.size = A at hD ⊢
  have hA : ∀ q : Nat, s.heap.size ≤ q → A q := fun q h => by rw [← hAe]; exact Or.inr h
  clear hAe
  have hS : va_S A s.heap s.heap [] := va_S.rf
  replace hP : va_P D vwCl [(cc_O m0 12 [m_0, m_1, m_2, m_3, m_4, m_5, m_6, m_7, m_8, m_9, m_10, m_11, .ref t0, .int ta, .int fr, .int to, .int so, .long wo, .int fau, .int bd, m_20, m_21, m_22, m_23, m_24, m_25, m_26, m_27, m_28, m_29, m_30, m_31, m_32, m_33, m_34, m_35, m_36, m_37, m_38, m_39, m_40, m_41, m_42, m_43, m_44, m_45, m_46, m_47, m_48, m_49, m_50, m_51, m_52, m_53, m_54, m_55, m_56, m_57, m_58, m_59]), (cc_l t0 (K 0) 400 ft)] s.heap := hP
  have hl := lv_entry [.ref m0, .long y, .long z] (n := 6) (Nat.le_of_ble_eq_true rfl)
  rw [lg_entry_eq]
  generalize (lg_sl [.ref m0, .long y, .long z] ++ List.replicate (6 - (lg_sl [.ref m0, .long y, .long z]).length) Slot.unset).toArray = ls at hl ⊢
  have hl : lv_has ls 6 [(0, .ref m0), (1, .long y), (3, .long z)] := hl
  have hw12 : ∀ w ∈ wsX120, w ∈ wsX12_number := fun w h => (List.mem_cons_of_mem _ (List.mem_append_right _ h))
  generalize hQ : MQ below _ _ s _ _ _ = Q
  have hE := E_v_number.eq_def y z ta fr to so wo fau bd ft
  refine lv_aload_n hx hb dX12_number_0 rfl (lv_at hl 0 rfl) (va_get (ci := 12) (v := .long wo) (C := RX12) (T := TX12) (N := 60) hx hb hts hw12 hown hK hP 0 rfl rfl 17 (by decide +kernel) (hts _ mm_X12_number_847) (fun _ h9 => h9) rfl dX12_number_1 (lv_l2i hx hb dX12_number_4 rfl (lv_topi (fun x_145 ex_145 => ?_))))
  replace hE := hE.trans (Lt_in ex_145)
  refine lv_istore (lv' := [(5, .int x_145), (0, .ref m0), (1, .long y), (3, .long z)]) hx hb dX12_number_5 hl (by decide +kernel) rfl (fun ls hl => ?_)
  refine lv_aload_n hx hb dX12_number_7 rfl (lv_at hl 1 rfl) (lv_aload_n hx hb dX12_number_8 rfl (lv_at hl 1 rfl) (va_get (ci := 12) (v := .int so) (C := RX12) (T := TX12) (N := 60) hx hb hts hw12 hown hK hP 0 rfl rfl 16 (by decide +kernel) (hts _ mm_X12_number_846) (fun _ h9 => h9) rfl dX12_number_9 (lv_iconst (v := 2) hx hb dX12_number_12 (by decide +kernel) (lv_icmp_ne (tgt := 32) hx hb dX12_number_13 (by decide +kernel) (fun c_146 => ?_) (fun c_146 => ?_)))))
  · have c_146i := i_ne (x := so.toInt) (y := 2) rfl rfl c_146
    replace hE := hE.trans (if_neg c_146)
    refine lv_iconst (v := 0) hx hb dX12_number_32 (by decide +kernel) ?_
    have hz_z_147 : (0 : Int32).toInt = 0 := rfl
    refine kcv (S := Su) (wr := []) (va_runV (As := [.int 0]) (rest := []) ⟨hx, hb, hml, hown, hts⟩ (v_must l D K m0 0 m_0 m_1 m_2 m_3 m_4 m_5 m_6 m_7 m_8 m_9 m_10 m_11 t0 ta fr to so wo fau bd m_20 m_21 m_22 m_23 m_24 m_25 m_26 m_27 m_28 m_29 m_30 m_31 m_32 m_33 m_34 m_35 m_36 m_37 m_38 m_39 m_40 m_41 m_42 m_43 m_44 m_45 m_46 m_47 m_48 m_49 m_50 m_51 m_52 m_53 m_54 m_55 m_56 m_57 m_58 m_59 ft s.heap.size (by first | omega | decide) (by first | omega | decide) (by first | omega | decide) (by first | omega | decide) (by first | omega | decide) (by first | omega | decide)) (cwV 1 hts gX12_number_X12_must rfl rfl rfl (by decide +kernel) ⟨Nat.le_of_ble_eq_true rfl, Nat.le_of_ble_eq_true rfl⟩) (mkV hK hN (hP.sub [0, 1] rfl) (hD.sub [0, 1] (by decide +kernel) rfl) (ci := 12) (q0 := 0) rfl rfl) rfl rfl hl.1 rfl (lv_room (Nat.le_of_ble_eq_true rfl)) dX12_number_33 ⟨Nat.le_of_ble_eq_true rfl, Nat.le_of_ble_eq_true rfl⟩) hP hD hS hA [0, 1] [] rfl rfl (by decide +kernel) (by decide +kernel) (fun u_149 H locs hw hP0 hD0 hS0 => ?_)
    replace hP : va_P D vwCl [(cc_O m0 12 [m_0, m_1, m_2, m_3, m_4, m_5, m_6, m_7, m_8, m_9, m_10, m_11, .ref t0, .int ta, .int (u_149.2.2.2.1 0), .int (u_149.2.2.2.1 1), .int (u_149.2.2.2.1 2), .long (u_149.2.2.2.2.1 0), .int (u_149.2.2.2.1 3), .int (u_149.2.2.2.1 4), m_20, m_21, m_22, m_23, m_24, m_25, m_26, m_27, m_28, m_29, m_30, m_31, m_32, m_33, m_34, m_35, m_36, m_37, m_38, m_39, m_40, m_41, m_42, m_43, m_44, m_45, m_46, m_47, m_48, m_49, m_50, m_51, m_52, m_53, m_54, m_55, m_56, m_57, m_58, m_59]), (cc_l t0 (K 0) 400 ft)] H := hP0
    replace hD := as_D hP hD0 rfl
    replace hS := hS0
    clear hP0 hD0 hS0
    obtain ⟨k_150, k_151, k_152, k_153, k_154, k_155, k_156, k_157, -⟩ := hw
    replace hE := ((((hE.trans (Lt2_in k_154)).trans (Lt2_in rfl)).trans (Lt2_in rfl)).trans (Lt2_in rfl)).trans (Lt2_in rfl)
    refine lv_iload hx hb dX12_number_36 (lv_at hl 0 rfl) ?_
    rw [← hQ]
    have hP9 := hP.sub (ws' := [(cc_O m0 12 [m_0, m_1, m_2, m_3, m_4, m_5, m_6, m_7, m_8, m_9, m_10, m_11, .ref t0, .int ta, .int (u_149.2.2.2.1 0), .int (u_149.2.2.2.1 1), .int (u_149.2.2.2.1 2), .long (u_149.2.2.2.2.1 0), .int (u_149.2.2.2.1 3), .int (u_149.2.2.2.1 4), m_20, m_21, m_22, m_23, m_24, m_25, m_26, m_27, m_28, m_29, m_30, m_31, m_32, m_33, m_34, m_35, m_36, m_37, m_38, m_39, m_40, m_41, m_42, m_43, m_44, m_45, m_46, m_47, m_48, m_49, m_50, m_51, m_52, m_53, m_54, m_55, m_56, m_57, m_58, m_59]), (cc_l t0 (K 0) 400 ft)]) [0, 1] rfl
    have hD9 := sub_D hP9 hD [0, 1] (by decide +kernel) rfl
    exact W.iret (v := x_145) hx hb hr (fun t ht hW => ⟨⟨x_145, ((fun _ => 0, fun _ => fun _ => 0, fun _ => fun _ => 0, fun i => match i with | 0 => (u_149.2.2.2.1 0) | 1 => (u_149.2.2.2.1 1) | 2 => (u_149.2.2.2.1 2) | 3 => (u_149.2.2.2.1 3) | _ => (u_149.2.2.2.1 4), fun i => match i with | _ => (u_149.2.2.2.2.1 0), fun _ => fun _ => none) : Su), rfl, ⟨(show 0 ≤ ((u_149.2.2.2.1 0) : Int32).toInt ∧ ((u_149.2.2.2.1 0) : Int32).toInt ≤ 400 by omega), (show 0 ≤ ((u_149.2.2.2.1 1) : Int32).toInt ∧ ((u_149.2.2.2.1 1) : Int32).toInt ≤ 400 by omega), (show 0 ≤ ((u_149.2.2.2.1 2) : Int32).toInt ∧ ((u_149.2.2.2.1 2) : Int32).toInt ≤ 3 by omega), (show 0 ≤ ((u_149.2.2.2.1 4) : Int32).toInt ∧ ((u_149.2.2.2.1 4) : Int32).toInt ≤ 1 by omega), hE.symm, (show ((0 ≤ ((u_149.2.2.2.1 0) : Int32).toInt ∧ ((u_149.2.2.2.1 0) : Int32).toInt ≤ ((u_149.2.2.2.1 1) : Int32).toInt ∧ ((u_149.2.2.2.1 1) : Int32).toInt ≤ ta.toInt) ∧ (((u_149.2.2.2.1 2) : Int32).toInt = 0 ∨ ((u_149.2.2.2.1 0) : Int32).toInt < ((u_149.2.2.2.1 1) : Int32).toInt) ∧ (((u_149.2.2.2.1 2) : Int32).toInt ≠ 1 ∨ ((u_149.2.2.2.1 0) : Int32).toInt + 1 < ((u_149.2.2.2.1 1) : Int32).toInt ∨ ((u_149.2.2.2.2.1 0) : Int64).toInt ≤ 26)) by omega), (show (((u_149.2.2.2.1 4) : Int32).toInt = 1 ∨ (bd.toInt = 0 ∧ so.toInt = 2 ∧ to.toInt ≤ ((u_149.2.2.2.1 0) : Int32).toInt)) by omega), (show fr.toInt ≤ ((u_149.2.2.2.1 0) : Int32).toInt by omega), (show (((u_149.2.2.2.1 4) : Int32).toInt = 1 ∨ (y.toInt ≤ (x_145 : Int32).toInt ∧ (x_145 : Int32).toInt ≤ z.toInt)) by first | omega | (have q9 : x_145.toInt = wo.toInt := (by rw [ex_145]; exact l_nar rfl (by omega)); omega)), trivial⟩, (⟨by rw [ht]; exact hP9, hD9⟩ : Wd D A _ t)⟩, hS.F ht⟩) hS.2.2 dX12_number_38
  · have c_146i := i_eq (x := so.toInt) (y := 2) rfl rfl c_146
    replace hE := hE.trans (if_pos c_146)
    refine lv_aload_n hx hb dX12_number_16 rfl (lv_at hl 1 rfl) (va_get (ci := 12) (v := .long wo) (C := RX12) (T := TX12) (N := 60) hx hb hts hw12 hown hK hP 0 rfl rfl 17 (by decide +kernel) (hts _ mm_X12_number_847) (fun _ h9 => h9) rfl dX12_number_17 (lv_lload_n hx hb dX12_number_20 rfl (lv_at hl 2 rfl) (lv_lload_n hx hb dX12_number_21 rfl (lv_at hl 3 rfl) (pci (va_runS (As := [.long wo, .long y, .long z]) (rest := [.ref m0]) ⟨hx, hb, hml, hown, hts⟩ (v_in l D K wo.toInt y.toInt z.toInt wo y z s.heap.size rfl rfl rfl) (va_cwS 3 hts gX12_number_X12_in rfl rfl rfl (by decide +kernel) ⟨Nat.le_of_ble_eq_true rfl, Nat.le_of_ble_eq_true rfl⟩) (mkS hK hN (va_P.nil) (va_D.nil (A := fun _ => True))) rfl rfl hl.1 rfl (lv_room (Nat.le_of_ble_eq_true rfl)) dX12_number_22 ⟨Nat.le_of_ble_eq_true rfl, Nat.le_of_ble_eq_true rfl⟩) (fun r_158 hw => ?_)))))
    obtain ⟨hw, k_159, -⟩ := hw
    replace hE := hE.trans (Lt_in k_159)
    rcases hw with ⟨rfl, h_160, h_161⟩ | ⟨rfl, h_162⟩
    · replace hE := (hE).trans (if_pos rfl)
      refine lv_if_eq (tgt := 32) hx hb dX12_number_25 (by decide +kernel) (fun c_163 => absurd c_163 (by decide +kernel)) (fun c_163 => ?_)
      refine lv_iconst (v := 1) hx hb dX12_number_28 (by decide +kernel) (lv_goto (tgt := 33) hx hb dX12_number_29 (by decide +kernel) ?_)
      have hz_z_164 : (1 : Int32).toInt = 1 := rfl
      refine kcv (S := Su) (wr := []) (va_runV (As := [.int 1]) (rest := []) ⟨hx, hb, hml, hown, hts⟩ (v_must l D K m0 1 m_0 m_1 m_2 m_3 m_4 m_5 m_6 m_7 m_8 m_9 m_10 m_11 t0 ta fr to so wo fau bd m_20 m_21 m_22 m_23 m_24 m_25 m_26 m_27 m_28 m_29 m_30 m_31 m_32 m_33 m_34 m_35 m_36 m_37 m_38 m_39 m_40 m_41 m_42 m_43 m_44 m_45 m_46 m_47 m_48 m_49 m_50 m_51 m_52 m_53 m_54 m_55 m_56 m_57 m_58 m_59 ft s.heap.size (by first | omega | decide) (by first | omega | decide) (by first | omega | decide) (by first | omega | decide) (by first | omega | decide) (by first | omega | decide)) (cwV 1 hts gX12_number_X12_must rfl rfl rfl (by decide +kernel) ⟨Nat.le_of_ble_eq_true rfl, Nat.le_of_ble_eq_true rfl⟩) (mkV hK hN (hP.sub [0, 1] rfl) (hD.sub [0, 1] (by decide +kernel) rfl) (ci := 12) (q0 := 0) rfl rfl) rfl rfl hl.1 rfl (lv_room (Nat.le_of_ble_eq_true rfl)) dX12_number_33 ⟨Nat.le_of_ble_eq_true rfl, Nat.le_of_ble_eq_true rfl⟩) hP hD hS hA [0, 1] [] rfl rfl (by decide +kernel) (by decide +kernel) (fun u_166 H locs hw hP0 hD0 hS0 => ?_)
      replace hP : va_P D vwCl [(cc_O m0 12 [m_0, m_1, m_2, m_3, m_4, m_5, m_6, m_7, m_8, m_9, m_10, m_11, .ref t0, .int ta, .int (u_166.2.2.2.1 0), .int (u_166.2.2.2.1 1), .int (u_166.2.2.2.1 2), .long (u_166.2.2.2.2.1 0), .int (u_166.2.2.2.1 3), .int (u_166.2.2.2.1 4), m_20, m_21, m_22, m_23, m_24, m_25, m_26, m_27, m_28, m_29, m_30, m_31, m_32, m_33, m_34, m_35, m_36, m_37, m_38, m_39, m_40, m_41, m_42, m_43, m_44, m_45, m_46, m_47, m_48, m_49, m_50, m_51, m_52, m_53, m_54, m_55, m_56, m_57, m_58, m_59]), (cc_l t0 (K 0) 400 ft)] H := hP0
      replace hD := as_D hP hD0 rfl
      replace hS := hS0
      clear hP0 hD0 hS0
      obtain ⟨k_167, k_168, k_169, k_170, k_171, k_172, k_173, k_174, -⟩ := hw
      replace hE := ((((hE.trans (Lt2_in k_171)).trans (Lt2_in rfl)).trans (Lt2_in rfl)).trans (Lt2_in rfl)).trans (Lt2_in rfl)
      refine lv_iload hx hb dX12_number_36 (lv_at hl 0 rfl) ?_
      rw [← hQ]
      have hP9 := hP.sub (ws' := [(cc_O m0 12 [m_0, m_1, m_2, m_3, m_4, m_5, m_6, m_7, m_8, m_9, m_10, m_11, .ref t0, .int ta, .int (u_166.2.2.2.1 0), .int (u_166.2.2.2.1 1), .int (u_166.2.2.2.1 2), .long (u_166.2.2.2.2.1 0), .int (u_166.2.2.2.1 3), .int (u_166.2.2.2.1 4), m_20, m_21, m_22, m_23, m_24, m_25, m_26, m_27, m_28, m_29, m_30, m_31, m_32, m_33, m_34, m_35, m_36, m_37, m_38, m_39, m_40, m_41, m_42, m_43, m_44, m_45, m_46, m_47, m_48, m_49, m_50, m_51, m_52, m_53, m_54, m_55, m_56, m_57, m_58, m_59]), (cc_l t0 (K 0) 400 ft)]) [0, 1] rfl
      have hD9 := sub_D hP9 hD [0, 1] (by decide +kernel) rfl
      exact W.iret (v := x_145) hx hb hr (fun t ht hW => ⟨⟨x_145, ((fun _ => 0, fun _ => fun _ => 0, fun _ => fun _ => 0, fun i => match i with | 0 => (u_166.2.2.2.1 0) | 1 => (u_166.2.2.2.1 1) | 2 => (u_166.2.2.2.1 2) | 3 => (u_166.2.2.2.1 3) | _ => (u_166.2.2.2.1 4), fun i => match i with | _ => (u_166.2.2.2.2.1 0), fun _ => fun _ => none) : Su), rfl, ⟨(show 0 ≤ ((u_166.2.2.2.1 0) : Int32).toInt ∧ ((u_166.2.2.2.1 0) : Int32).toInt ≤ 400 by omega), (show 0 ≤ ((u_166.2.2.2.1 1) : Int32).toInt ∧ ((u_166.2.2.2.1 1) : Int32).toInt ≤ 400 by omega), (show 0 ≤ ((u_166.2.2.2.1 2) : Int32).toInt ∧ ((u_166.2.2.2.1 2) : Int32).toInt ≤ 3 by omega), (show 0 ≤ ((u_166.2.2.2.1 4) : Int32).toInt ∧ ((u_166.2.2.2.1 4) : Int32).toInt ≤ 1 by omega), hE.symm, (show ((0 ≤ ((u_166.2.2.2.1 0) : Int32).toInt ∧ ((u_166.2.2.2.1 0) : Int32).toInt ≤ ((u_166.2.2.2.1 1) : Int32).toInt ∧ ((u_166.2.2.2.1 1) : Int32).toInt ≤ ta.toInt) ∧ (((u_166.2.2.2.1 2) : Int32).toInt = 0 ∨ ((u_166.2.2.2.1 0) : Int32).toInt < ((u_166.2.2.2.1 1) : Int32).toInt) ∧ (((u_166.2.2.2.1 2) : Int32).toInt ≠ 1 ∨ ((u_166.2.2.2.1 0) : Int32).toInt + 1 < ((u_166.2.2.2.1 1) : Int32).toInt ∨ ((u_166.2.2.2.2.1 0) : Int64).toInt ≤ 26)) by omega), (show (((u_166.2.2.2.1 4) : Int32).toInt = 1 ∨ (bd.toInt = 0 ∧ so.toInt = 2 ∧ to.toInt ≤ ((u_166.2.2.2.1 0) : Int32).toInt)) by omega), (show fr.toInt ≤ ((u_166.2.2.2.1 0) : Int32).toInt by omega), (show (((u_166.2.2.2.1 4) : Int32).toInt = 1 ∨ (y.toInt ≤ (x_145 : Int32).toInt ∧ (x_145 : Int32).toInt ≤ z.toInt)) by first | omega | (have q9 : x_145.toInt = wo.toInt := (by rw [ex_145]; exact l_nar rfl (by omega)); omega)), trivial⟩, (⟨by rw [ht]; exact hP9, hD9⟩ : Wd D A _ t)⟩, hS.F ht⟩) hS.2.2 dX12_number_38
    · replace hE := (hE).trans (if_neg (by first | decide | (intro h9; have h8 := congrArg Int32.toInt h9; omega)))
      refine lv_if_eq (tgt := 32) hx hb dX12_number_25 (by decide +kernel) (fun c_175 => ?_) (fun c_175 => absurd (by decide +kernel) c_175)
      refine lv_iconst (v := 0) hx hb dX12_number_32 (by decide +kernel) ?_
      have hz_z_176 : (0 : Int32).toInt = 0 := rfl
      refine kcv (S := Su) (wr := []) (va_runV (As := [.int 0]) (rest := []) ⟨hx, hb, hml, hown, hts⟩ (v_must l D K m0 0 m_0 m_1 m_2 m_3 m_4 m_5 m_6 m_7 m_8 m_9 m_10 m_11 t0 ta fr to so wo fau bd m_20 m_21 m_22 m_23 m_24 m_25 m_26 m_27 m_28 m_29 m_30 m_31 m_32 m_33 m_34 m_35 m_36 m_37 m_38 m_39 m_40 m_41 m_42 m_43 m_44 m_45 m_46 m_47 m_48 m_49 m_50 m_51 m_52 m_53 m_54 m_55 m_56 m_57 m_58 m_59 ft s.heap.size (by first | omega | decide) (by first | omega | decide) (by first | omega | decide) (by first | omega | decide) (by first | omega | decide) (by first | omega | decide)) (cwV 1 hts gX12_number_X12_must rfl rfl rfl (by decide +kernel) ⟨Nat.le_of_ble_eq_true rfl, Nat.le_of_ble_eq_true rfl⟩) (mkV hK hN (hP.sub [0, 1] rfl) (hD.sub [0, 1] (by decide +kernel) rfl) (ci := 12) (q0 := 0) rfl rfl) rfl rfl hl.1 rfl (lv_room (Nat.le_of_ble_eq_true rfl)) dX12_number_33 ⟨Nat.le_of_ble_eq_true rfl, Nat.le_of_ble_eq_true rfl⟩) hP hD hS hA [0, 1] [] rfl rfl (by decide +kernel) (by decide +kernel) (fun u_178 H locs hw hP0 hD0 hS0 => ?_)
      replace hP : va_P D vwCl [(cc_O m0 12 [m_0, m_1, m_2, m_3, m_4, m_5, m_6, m_7, m_8, m_9, m_10, m_11, .ref t0, .int ta, .int (u_178.2.2.2.1 0), .int (u_178.2.2.2.1 1), .int (u_178.2.2.2.1 2), .long (u_178.2.2.2.2.1 0), .int (u_178.2.2.2.1 3), .int (u_178.2.2.2.1 4), m_20, m_21, m_22, m_23, m_24, m_25, m_26, m_27, m_28, m_29, m_30, m_31, m_32, m_33, m_34, m_35, m_36, m_37, m_38, m_39, m_40, m_41, m_42, m_43, m_44, m_45, m_46, m_47, m_48, m_49, m_50, m_51, m_52, m_53, m_54, m_55, m_56, m_57, m_58, m_59]), (cc_l t0 (K 0) 400 ft)] H := hP0
      replace hD := as_D hP hD0 rfl
      replace hS := hS0
      clear hP0 hD0 hS0
      obtain ⟨k_179, k_180, k_181, k_182, k_183, k_184, k_185, k_186, -⟩ := hw
      replace hE := ((((hE.trans (Lt2_in k_183)).trans (Lt2_in rfl)).trans (Lt2_in rfl)).trans (Lt2_in rfl)).trans (Lt2_in rfl)
      refine lv_iload hx hb dX12_number_36 (lv_at hl 0 rfl) ?_
      rw [← hQ]
      have hP9 := hP.sub (ws' := [(cc_O m0 12 [m_0, m_1, m_2, m_3, m_4, m_5, m_6, m_7, m_8, m_9, m_10, m_11, .ref t0, .int ta, .int (u_178.2.2.2.1 0), .int (u_178.2.2.2.1 1), .int (u_178.2.2.2.1 2), .long (u_178.2.2.2.2.1 0), .int (u_178.2.2.2.1 3), .int (u_178.2.2.2.1 4), m_20, m_21, m_22, m_23, m_24, m_25, m_26, m_27, m_28, m_29, m_30, m_31, m_32, m_33, m_34, m_35, m_36, m_37, m_38, m_39, m_40, m_41, m_42, m_43, m_44, m_45, m_46, m_47, m_48, m_49, m_50, m_51, m_52, m_53, m_54, m_55, m_56, m_57, m_58, m_59]), (cc_l t0 (K 0) 400 ft)]) [0, 1] rfl
      have hD9 := sub_D hP9 hD [0, 1] (by decide +kernel) rfl
      exact W.iret (v := x_145) hx hb hr (fun t ht hW => ⟨⟨x_145, ((fun _ => 0, fun _ => fun _ => 0, fun _ => fun _ => 0, fun i => match i with | 0 => (u_178.2.2.2.1 0) | 1 => (u_178.2.2.2.1 1) | 2 => (u_178.2.2.2.1 2) | 3 => (u_178.2.2.2.1 3) | _ => (u_178.2.2.2.1 4), fun i => match i with | _ => (u_178.2.2.2.2.1 0), fun _ => fun _ => none) : Su), rfl, ⟨(show 0 ≤ ((u_178.2.2.2.1 0) : Int32).toInt ∧ ((u_178.2.2.2.1 0) : Int32).toInt ≤ 400 by omega), (show 0 ≤ ((u_178.2.2.2.1 1) : Int32).toInt ∧ ((u_178.2.2.2.1 1) : Int32).toInt ≤ 400 by omega), (show 0 ≤ ((u_178.2.2.2.1 2) : Int32).toInt ∧ ((u_178.2.2.2.1 2) : Int32).toInt ≤ 3 by omega), (show 0 ≤ ((u_178.2.2.2.1 4) : Int32).toInt ∧ ((u_178.2.2.2.1 4) : Int32).toInt ≤ 1 by omega), hE.symm, (show ((0 ≤ ((u_178.2.2.2.1 0) : Int32).toInt ∧ ((u_178.2.2.2.1 0) : Int32).toInt ≤ ((u_178.2.2.2.1 1) : Int32).toInt ∧ ((u_178.2.2.2.1 1) : Int32).toInt ≤ ta.toInt) ∧ (((u_178.2.2.2.1 2) : Int32).toInt = 0 ∨ ((u_178.2.2.2.1 0) : Int32).toInt < ((u_178.2.2.2.1 1) : Int32).toInt) ∧ (((u_178.2.2.2.1 2) : Int32).toInt ≠ 1 ∨ ((u_178.2.2.2.1 0) : Int32).toInt + 1 < ((u_178.2.2.2.1 1) : Int32).toInt ∨ ((u_178.2.2.2.2.1 0) : Int64).toInt ≤ 26)) by omega), (show (((u_178.2.2.2.1 4) : Int32).toInt = 1 ∨ (bd.toInt = 0 ∧ so.toInt = 2 ∧ to.toInt ≤ ((u_178.2.2.2.1 0) : Int32).toInt)) by omega), (show fr.toInt ≤ ((u_178.2.2.2.1 0) : Int32).toInt by omega), (show (((u_178.2.2.2.1 4) : Int32).toInt = 1 ∨ (y.toInt ≤ (x_145 : Int32).toInt ∧ (x_145 : Int32).toInt ≤ z.toInt)) by first | omega | (have q9 : x_145.toInt = wo.toInt := (by rw [ex_145]; exact l_nar rfl (by omega)); omega)), trivial⟩, (⟨by rw [ht]; exact hP9, hD9⟩ : Wd D A _ t)⟩, hS.F ht⟩) hS.2.2 dX12_number_38
set_option maxRecDepth 100000 in
noncomputable def E_v_partAt_l4 (so : Int32) (wo : Int64) (fwd : Nat → Int64) (rec_313 : Int32 → Int32 → (Int32)) (v_287 : Int32) (v_288 : Int32) : Int32 :=
  if 9 ≤ v_287 then ((v_288 : Int32)) else (Lt (fwd (v_287 : Int32).toNatClampNeg : Int64) (fun x_316 => Lt (E_v_isWord x_316 so wo) (fun r_317 => if r_317 = 1 then (Lt (v_287 + 1 : Int32) (fun x_322 => Lt (v_287 + Int32.ofInt 1 : Int32) (fun x_323 => rec_313 x_323 x_322))) else (Lt (v_287 + Int32.ofInt 1 : Int32) (fun x_325 => rec_313 x_325 v_288)))))
set_option maxRecDepth 100000 in
noncomputable def E_v_partAt (so : Int32) (wo : Int64) (fwd : Nat → Int64) : Int32 :=
  Lp (α := Int32 → Int32 → (Int32)) (E_v_partAt_l4 so wo fwd) (fun _ _ => ((0) : Int32)) ((10 - (0 : Int32).toInt : Int).toNat + 1) 0 (-1)
set_option maxHeartbeats 4000000 in
set_option maxRecDepth 100000 in
theorem v_partAt (l : Launch) (D : va_G) (K : Nat → ClassId) (m0 : Nat) (m_0 : Value) (m_1 : Value) (m_2 : Value) (m_3 : Value) (m_4 : Value) (m_5 : Value) (m_6 : Value) (m_7 : Value) (m_8 : Value) (m_9 : Value) (m_10 : Value) (m_11 : Value) (m_12 : Value) (m_13 : Value) (m_14 : Value) (m_15 : Value) (so : Int32) (wo : Int64) (m_18 : Value) (m_19 : Value) (m_20 : Value) (m_21 : Value) (m_22 : Value) (m_23 : Value) (m_24 : Value) (m_25 : Value) (m_26 : Value) (m_27 : Value) (m_28 : Value) (m_29 : Value) (m_30 : Value) (wd : Nat) (m_32 : Value) (m_33 : Value) (m_34 : Value) (m_35 : Value) (m_36 : Value) (m_37 : Value) (m_38 : Value) (m_39 : Value) (m_40 : Value) (m_41 : Value) (m_42 : Value) (m_43 : Value) (m_44 : Value) (m_45 : Value) (m_46 : Value) (m_47 : Value) (m_48 : Value) (m_49 : Value) (m_50 : Value) (m_51 : Value) (m_52 : Value) (m_53 : Value) (m_54 : Value) (m_55 : Value) (m_56 : Value) (m_57 : Value) (m_58 : Value) (m_59 : Value) (fwd : Nat → Int64) (sz : Nat) : Met l yX12_partAt wsX12_partAt ({ frames := 1, cells := 0, slots := 0, locals := 22 }) (va_Pc [.ref m0] (Pre D K [(cc_O m0 12 [m_0, m_1, m_2, m_3, m_4, m_5, m_6, m_7, m_8, m_9, m_10, m_11, m_12, m_13, m_14, m_15, .int so, .long wo, m_18, m_19, m_20, m_21, m_22, m_23, m_24, m_25, m_26, m_27, m_28, m_29, m_30, .ref wd, m_32, m_33, m_34, m_35, m_36, m_37, m_38, m_39, m_40, m_41, m_42, m_43, m_44, m_45, m_46, m_47, m_48, m_49, m_50, m_51, m_52, m_53, m_54, m_55, m_56, m_57, m_58, m_59]), (cc_rl wd (K 2) 9 fwd)] sz)) (vp_Si (fun r : Int32 => ((r.toInt = -1 ∨ (so.toInt = 1 ∧ 1 ≤ r.toInt ∧ r.toInt ≤ 9)) ∧ True) ∧ r = E_v_partAt so wo fwd)) 0 0 (fun _ => False) := by
  refine Met.ofW (cc := cX12_partAt) (maxL := 3) (ret := (some .int)) (by decide +kernel) rfl ?_
  intro p e s m args below meth c s₁ B hml hv
  obtain ⟨rfl, hsz, hP, hK, hD0, hN⟩ := hv
  have hx := B.exec
  have hb := B.bytes
  have hr := B.returns
  have hts := atoms_spec (ws := wsX12_partAt) B.pre
  have hown : s.vm.findClass RX12 = some m.cls := findClass_of_methodNamed B.named
  have hlocks := B.notSynchronized
  subst hsz
  have hD := hD0
  replace hP : va_P D vwCl [(cc_O m0 12 [m_0, m_1, m_2, m_3, m_4, m_5, m_6, m_7, m_8, m_9, m_10, m_11, m_12, m_13, m_14, m_15, .int so, .long wo, m_18, m_19, m_20, m_21, m_22, m_23, m_24, m_25, m_26, m_27, m_28, m_29, m_30, .ref wd, m_32, m_33, m_34, m_35, m_36, m_37, m_38, m_39, m_40, m_41, m_42, m_43, m_44, m_45, m_46, m_47, m_48, m_49, m_50, m_51, m_52, m_53, m_54, m_55, m_56, m_57, m_58, m_59]), (cc_rl wd (K 2) 9 fwd)] s.heap := hP
  have hl := lv_entry [.ref m0] (n := 3) (Nat.le_of_ble_eq_true rfl)
  rw [lg_entry_eq]
  generalize (lg_sl [.ref m0] ++ List.replicate (3 - (lg_sl [.ref m0]).length) Slot.unset).toArray = ls at hl ⊢
  have hl : lv_has ls 3 [(0, .ref m0)] := hl
  have hw12 : ∀ w ∈ wsX120, w ∈ wsX12_partAt := fun w h => (List.mem_cons_of_mem _ (List.mem_append_right _ h))
  generalize hQ : MQ below _ _ s _ _ _ = Q
  have hE := E_v_partAt.eq_def so wo fwd
  refine lv_iconst (v := (-1)) hx hb dX12_partAt_0 (by decide +kernel) (lv_istore_n (lv' := [(1, .int (-1)), (0, .ref m0)]) hx hb dX12_partAt_1 rfl hl (by decide +kernel) rfl (fun ls hl => ?_))
  refine lv_iconst (v := 0) hx hb dX12_partAt_2 (by decide +kernel) (lv_istore_n (lv' := [(2, .int 0), (1, .int (-1)), (0, .ref m0)]) hx hb dX12_partAt_3 rfl hl (by decide +kernel) rfl (fun ls hl => ?_))
  have lp_313 : ∀ (nn_ : Nat) (v_287 : Int32) (v_288 : Int32) (hv_287 : 0 ≤ v_287.toInt ∧ v_287.toInt ≤ 9) (hv_288 : (-1) ≤ v_288.toInt ∧ v_288.toInt ≤ 9) (hr0_lp_313 : (v_288.toInt = -1 ∨ (so.toInt = 1 ∧ 1 ≤ v_288.toInt ∧ v_288.toInt ≤ v_287.toInt))) (hn : (10 - v_287.toInt : Int).toNat < nn_) (hE : E_v_partAt so wo fwd = Lp (α := Int32 → Int32 → (Int32)) (E_v_partAt_l4 so wo fwd) (fun _ _ => ((0) : Int32)) nn_ v_287 v_288) (ls : Array Slot) (hl : lv_has ls 3 [(2, .int v_287), (1, .int v_288), (0, .ref m0)]), W p l e ({ frames := 1, cells := 0, slots := 0, locals := 22 }) s m (([.ref m0] : List Value).toArray) below meth c s.heap [] 0 0 Q (F0 m 4 ls []) := by
    clear hE hl
    intro nn_
    induction nn_ with
    | zero =>
      intro v_287 v_288 hv_287 hv_288 hr0_lp_313 hn hE ls hl
      exact absurd hn (Nat.not_lt_zero _)
    | succ nn_ ih_314 =>
      intro v_287 v_288 hv_287 hv_288 hr0_lp_313 hn hE ls hl
      replace hE : E_v_partAt so wo fwd = E_v_partAt_l4 so wo fwd (Lp (α := Int32 → Int32 → (Int32)) (E_v_partAt_l4 so wo fwd) (fun _ _ => ((0) : Int32)) nn_) v_287 v_288 := hE
      obtain ⟨rec_313, hrec_313⟩ : ∃ z9, z9 = Lp (α := Int32 → Int32 → (Int32)) (E_v_partAt_l4 so wo fwd) (fun _ _ => ((0) : Int32)) nn_ := ⟨_, rfl⟩
      rw [← hrec_313] at hE
      replace hE := hE.trans (E_v_partAt_l4.eq_def _ _ _ _ _ _)
      refine lv_iload_n hx hb dX12_partAt_4 rfl (lv_at hl 0 rfl) (lv_bipush (v := 9) hx hb dX12_partAt_5 (by decide +kernel) (lv_icmp_ge (tgt := 37) hx hb dX12_partAt_7 (by decide +kernel) (fun c_315 => ?_) (fun c_315 => ?_)))
      · have c_315i := i_le (x := 9) (y := v_287.toInt) rfl rfl c_315
        replace hE := hE.trans (if_pos c_315)
        refine lv_iload_n hx hb dX12_partAt_37 rfl (lv_at hl 1 rfl) ?_
        rw [← hQ]
        exact W.iret (v := v_288) hx hb hr (fun t ht hW => ⟨_, rfl, ⟨⟨by omega, trivial⟩, hE.symm⟩, ht⟩) (fun q hq => by cases hq) dX12_partAt_38
      · have c_315i := i_nle (x := 9) (y := v_287.toInt) rfl rfl c_315
        replace hE := hE.trans (if_neg c_315)
        refine lv_aload_n hx hb dX12_partAt_10 rfl (lv_at hl 2 rfl) (lv_aload_n hx hb dX12_partAt_11 rfl (lv_at hl 2 rfl) (va_get (ci := 12) (v := .ref wd) (C := RX12) (T := TX12) (N := 60) hx hb hts hw12 hown hK hP 0 rfl rfl 31 (by decide +kernel) (hts _ mm_X12_partAt_861) (fun _ h9 => h9) rfl dX12_partAt_12 (lv_iload_n hx hb dX12_partAt_15 rfl (lv_at hl 0 rfl) (va_lald hx hb hK hP 1 2 rfl rfl (i_in rfl (by omega)) dX12_partAt_16 (lv_topl (fun x_316 ex_316 => ?_))))))
        replace hE := hE.trans (Lt_in ex_316)
        refine pci (va_runV (As := [.long x_316]) (rest := []) ⟨hx, hb, hml, hown, hts⟩ (v_isWord l D K m0 x_316 m_0 m_1 m_2 m_3 m_4 m_5 m_6 m_7 m_8 m_9 m_10 m_11 m_12 m_13 m_14 m_15 so wo m_18 m_19 m_20 m_21 m_22 m_23 m_24 m_25 m_26 m_27 m_28 m_29 m_30 (.ref wd) m_32 m_33 m_34 m_35 m_36 m_37 m_38 m_39 m_40 m_41 m_42 m_43 m_44 m_45 m_46 m_47 m_48 m_49 m_50 m_51 m_52 m_53 m_54 m_55 m_56 m_57 m_58 m_59 s.heap.size) (cwV 1 hts gX12_partAt_X12_isWord rfl rfl rfl (by decide +kernel) ⟨Nat.le_of_ble_eq_true rfl, Nat.le_of_ble_eq_true rfl⟩) (mkV hK hN (hP.sub [0] rfl) (hD.sub [0] (by decide +kernel) rfl) (ci := 12) (q0 := 0) rfl rfl) rfl rfl hl.1 rfl (lv_room (Nat.le_of_ble_eq_true rfl)) dX12_partAt_17 ⟨Nat.le_of_ble_eq_true rfl, Nat.le_of_ble_eq_true rfl⟩) (fun r_317 hw => ?_)
        obtain ⟨hw, k_318, -⟩ := hw
        replace hE := hE.trans (Lt_in k_318)
        rcases hw with ⟨rfl, h_319, h_320⟩ | rfl
        · replace hE := (hE).trans (if_pos rfl)
          refine lv_if_eq (tgt := 29) hx hb dX12_partAt_20 (by decide +kernel) (fun c_321 => absurd c_321 (by decide +kernel)) (fun c_321 => ?_)
          refine lv_iload_n hx hb dX12_partAt_23 rfl (lv_at hl 0 rfl) (lv_iconst (v := 1) hx hb dX12_partAt_24 (by decide +kernel) (lv_iadd hx hb dX12_partAt_25 (lv_topi (fun x_322 ex_322 => ?_))))
          replace hE := hE.trans (Lt_in ex_322)
          have hx_322 : x_322.toInt = (v_287.toInt + 1) := by rw [ex_322]; exact i_add rfl (show (1 : Int32).toInt = 1 from rfl) (by omega)
          refine lv_goto (tgt := 30) hx hb dX12_partAt_26 (by decide +kernel) (lv_istore_n (lv' := [(1, .int x_322), (2, .int v_287), (0, .ref m0)]) hx hb dX12_partAt_30 rfl hl (by decide +kernel) rfl (fun ls hl => ?_))
          obtain ⟨x_323, ex_323⟩ : ∃ y : Int32, y = v_287 + Int32.ofInt 1 := ⟨_, rfl⟩
          replace hE := hE.trans (Lt_in ex_323)
          have hx_323 : x_323.toInt = (v_287.toInt + 1) := by rw [ex_323]; exact i_add rfl (show (Int32.ofInt 1).toInt = 1 from rfl) (by omega)
          refine lv_iinc (v := x_323) (lv' := [(2, .int x_323), (1, .int x_322), (0, .ref m0)]) hx hb dX12_partAt_31 hl (k := 1) rfl (by rw [ex_323]) (by decide +kernel) rfl (fun ls hl => ?_)
          refine lv_goto (tgt := 4) hx hb dX12_partAt_34 (by decide +kernel) ?_
          exact ih_314 x_323 x_322 (by rw [hx_323]; omega) (by rw [hx_322]; omega) (show ((x_322 : Int32).toInt = -1 ∨ (so.toInt = 1 ∧ 1 ≤ (x_322 : Int32).toInt ∧ (x_322 : Int32).toInt ≤ (x_323 : Int32).toInt)) by omega) (by omega) (hE.trans (by rw [hrec_313])) ls (lv_sub hl [0, 1, 2] rfl)
        · replace hE := (hE).trans (if_neg (by first | decide | (intro h9; have h8 := congrArg Int32.toInt h9; omega)))
          refine lv_if_eq (tgt := 29) hx hb dX12_partAt_20 (by decide +kernel) (fun c_324 => ?_) (fun c_324 => absurd (by decide +kernel) c_324)
          refine lv_iload_n hx hb dX12_partAt_29 rfl (lv_at hl 1 rfl) (lv_istore_n (lv' := [(1, .int v_288), (2, .int v_287), (0, .ref m0)]) hx hb dX12_partAt_30 rfl hl (by decide +kernel) rfl (fun ls hl => ?_))
          obtain ⟨x_325, ex_325⟩ : ∃ y : Int32, y = v_287 + Int32.ofInt 1 := ⟨_, rfl⟩
          replace hE := hE.trans (Lt_in ex_325)
          have hx_325 : x_325.toInt = (v_287.toInt + 1) := by rw [ex_325]; exact i_add rfl (show (Int32.ofInt 1).toInt = 1 from rfl) (by omega)
          refine lv_iinc (v := x_325) (lv' := [(2, .int x_325), (1, .int v_288), (0, .ref m0)]) hx hb dX12_partAt_31 hl (k := 1) rfl (by rw [ex_325]) (by decide +kernel) rfl (fun ls hl => ?_)
          refine lv_goto (tgt := 4) hx hb dX12_partAt_34 (by decide +kernel) ?_
          exact ih_314 x_325 v_288 (by rw [hx_325]; omega) (by omega) (show ((v_288 : Int32).toInt = -1 ∨ (so.toInt = 1 ∧ 1 ≤ (v_288 : Int32).toInt ∧ (v_288 : Int32).toInt ≤ (x_325 : Int32).toInt)) by omega) (by omega) (hE.trans (by rw [hrec_313])) ls (lv_sub hl [0, 1, 2] rfl)
  have hz_326 : (0 : Int32).toInt = 0 := rfl
  have hz_327 : ((-1) : Int32).toInt = (-1) := rfl
  exact lp_313 ((10 - (0 : Int32).toInt : Int).toNat + 1) 0 (-1) (by decide +kernel) (by decide +kernel) (show (((-1) : Int32).toInt = -1 ∨ (so.toInt = 1 ∧ 1 ≤ ((-1) : Int32).toInt ∧ ((-1) : Int32).toInt ≤ (0 : Int32).toInt)) by omega) (Nat.lt_succ_self _) hE ls (lv_sub hl [0, 1, 2] rfl)
set_option maxRecDepth 100000 in
noncomputable def E_v_orderPartAt_l4 (so : Int32) (wo : Int64) (fwd : Nat → Int64) (rec_313 : Int32 → Int32 → (Int32)) (v_287 : Int32) (v_288 : Int32) : Int32 :=
  if 8 ≤ v_287 then ((v_288 : Int32)) else (Lt (fwd (v_287 : Int32).toNatClampNeg : Int64) (fun x_316 => Lt (E_v_isWord x_316 so wo) (fun r_317 => if r_317 = 1 then (Lt (v_287 + 1 : Int32) (fun x_322 => Lt (v_287 + Int32.ofInt 1 : Int32) (fun x_323 => rec_313 x_323 x_322))) else (Lt (v_287 + Int32.ofInt 1 : Int32) (fun x_325 => rec_313 x_325 v_288)))))
set_option maxRecDepth 100000 in
noncomputable def E_v_orderPartAt (so : Int32) (wo : Int64) (fwd : Nat → Int64) : Int32 :=
  Lp (α := Int32 → Int32 → (Int32)) (E_v_orderPartAt_l4 so wo fwd) (fun _ _ => ((0) : Int32)) ((9 - (0 : Int32).toInt : Int).toNat + 1) 0 (-1)
set_option maxHeartbeats 4000000 in
set_option maxRecDepth 100000 in
theorem v_orderPartAt (l : Launch) (D : va_G) (K : Nat → ClassId) (m0 : Nat) (m_0 : Value) (m_1 : Value) (m_2 : Value) (m_3 : Value) (m_4 : Value) (m_5 : Value) (m_6 : Value) (m_7 : Value) (m_8 : Value) (m_9 : Value) (m_10 : Value) (m_11 : Value) (m_12 : Value) (m_13 : Value) (m_14 : Value) (m_15 : Value) (so : Int32) (wo : Int64) (m_18 : Value) (m_19 : Value) (m_20 : Value) (m_21 : Value) (m_22 : Value) (m_23 : Value) (m_24 : Value) (m_25 : Value) (m_26 : Value) (m_27 : Value) (m_28 : Value) (m_29 : Value) (m_30 : Value) (m_31 : Value) (wd : Nat) (m_33 : Value) (m_34 : Value) (m_35 : Value) (m_36 : Value) (m_37 : Value) (m_38 : Value) (m_39 : Value) (m_40 : Value) (m_41 : Value) (m_42 : Value) (m_43 : Value) (m_44 : Value) (m_45 : Value) (m_46 : Value) (m_47 : Value) (m_48 : Value) (m_49 : Value) (m_50 : Value) (m_51 : Value) (m_52 : Value) (m_53 : Value) (m_54 : Value) (m_55 : Value) (m_56 : Value) (m_57 : Value) (m_58 : Value) (m_59 : Value) (fwd : Nat → Int64) (sz : Nat) : Met l yX12_orderPartAt wsX12_orderPartAt ({ frames := 1, cells := 0, slots := 0, locals := 22 }) (va_Pc [.ref m0] (Pre D K [(cc_O m0 12 [m_0, m_1, m_2, m_3, m_4, m_5, m_6, m_7, m_8, m_9, m_10, m_11, m_12, m_13, m_14, m_15, .int so, .long wo, m_18, m_19, m_20, m_21, m_22, m_23, m_24, m_25, m_26, m_27, m_28, m_29, m_30, m_31, .ref wd, m_33, m_34, m_35, m_36, m_37, m_38, m_39, m_40, m_41, m_42, m_43, m_44, m_45, m_46, m_47, m_48, m_49, m_50, m_51, m_52, m_53, m_54, m_55, m_56, m_57, m_58, m_59]), (cc_rl wd (K 2) 8 fwd)] sz)) (vp_Si (fun r : Int32 => ((r.toInt = -1 ∨ (so.toInt = 1 ∧ 1 ≤ r.toInt ∧ r.toInt ≤ 8)) ∧ True) ∧ r = E_v_orderPartAt so wo fwd)) 0 0 (fun _ => False) := by
  refine Met.ofW (cc := cX12_orderPartAt) (maxL := 3) (ret := (some .int)) (by decide +kernel) rfl ?_
  intro p e s m args below meth c s₁ B hml hv
  obtain ⟨rfl, hsz, hP, hK, hD0, hN⟩ := hv
  have hx := B.exec
  have hb := B.bytes
  have hr := B.returns
  have hts := atoms_spec (ws := wsX12_orderPartAt) B.pre
  have hown : s.vm.findClass RX12 = some m.cls := findClass_of_methodNamed B.named
  have hlocks := B.notSynchronized
  subst hsz
  have hD := hD0
  replace hP : va_P D vwCl [(cc_O m0 12 [m_0, m_1, m_2, m_3, m_4, m_5, m_6, m_7, m_8, m_9, m_10, m_11, m_12, m_13, m_14, m_15, .int so, .long wo, m_18, m_19, m_20, m_21, m_22, m_23, m_24, m_25, m_26, m_27, m_28, m_29, m_30, m_31, .ref wd, m_33, m_34, m_35, m_36, m_37, m_38, m_39, m_40, m_41, m_42, m_43, m_44, m_45, m_46, m_47, m_48, m_49, m_50, m_51, m_52, m_53, m_54, m_55, m_56, m_57, m_58, m_59]), (cc_rl wd (K 2) 8 fwd)] s.heap := hP
  have hl := lv_entry [.ref m0] (n := 3) (Nat.le_of_ble_eq_true rfl)
  rw [lg_entry_eq]
  generalize (lg_sl [.ref m0] ++ List.replicate (3 - (lg_sl [.ref m0]).length) Slot.unset).toArray = ls at hl ⊢
  have hl : lv_has ls 3 [(0, .ref m0)] := hl
  have hw12 : ∀ w ∈ wsX120, w ∈ wsX12_orderPartAt := fun w h => (List.mem_cons_of_mem _ (List.mem_append_right _ h))
  generalize hQ : MQ below _ _ s _ _ _ = Q
  have hE := E_v_orderPartAt.eq_def so wo fwd
  refine lv_iconst (v := (-1)) hx hb dX12_orderPartAt_0 (by decide +kernel) (lv_istore_n (lv' := [(1, .int (-1)), (0, .ref m0)]) hx hb dX12_orderPartAt_1 rfl hl (by decide +kernel) rfl (fun ls hl => ?_))
  refine lv_iconst (v := 0) hx hb dX12_orderPartAt_2 (by decide +kernel) (lv_istore_n (lv' := [(2, .int 0), (1, .int (-1)), (0, .ref m0)]) hx hb dX12_orderPartAt_3 rfl hl (by decide +kernel) rfl (fun ls hl => ?_))
  have lp_313 : ∀ (nn_ : Nat) (v_287 : Int32) (v_288 : Int32) (hv_287 : 0 ≤ v_287.toInt ∧ v_287.toInt ≤ 8) (hv_288 : (-1) ≤ v_288.toInt ∧ v_288.toInt ≤ 9) (hr0_lp_313 : (v_288.toInt = -1 ∨ (so.toInt = 1 ∧ 1 ≤ v_288.toInt ∧ v_288.toInt ≤ v_287.toInt))) (hn : (9 - v_287.toInt : Int).toNat < nn_) (hE : E_v_orderPartAt so wo fwd = Lp (α := Int32 → Int32 → (Int32)) (E_v_orderPartAt_l4 so wo fwd) (fun _ _ => ((0) : Int32)) nn_ v_287 v_288) (ls : Array Slot) (hl : lv_has ls 3 [(2, .int v_287), (1, .int v_288), (0, .ref m0)]), W p l e ({ frames := 1, cells := 0, slots := 0, locals := 22 }) s m (([.ref m0] : List Value).toArray) below meth c s.heap [] 0 0 Q (F0 m 4 ls []) := by
    clear hE hl
    intro nn_
    induction nn_ with
    | zero =>
      intro v_287 v_288 hv_287 hv_288 hr0_lp_313 hn hE ls hl
      exact absurd hn (Nat.not_lt_zero _)
    | succ nn_ ih_314 =>
      intro v_287 v_288 hv_287 hv_288 hr0_lp_313 hn hE ls hl
      replace hE : E_v_orderPartAt so wo fwd = E_v_orderPartAt_l4 so wo fwd (Lp (α := Int32 → Int32 → (Int32)) (E_v_orderPartAt_l4 so wo fwd) (fun _ _ => ((0) : Int32)) nn_) v_287 v_288 := hE
      obtain ⟨rec_313, hrec_313⟩ : ∃ z9, z9 = Lp (α := Int32 → Int32 → (Int32)) (E_v_orderPartAt_l4 so wo fwd) (fun _ _ => ((0) : Int32)) nn_ := ⟨_, rfl⟩
      rw [← hrec_313] at hE
      replace hE := hE.trans (E_v_orderPartAt_l4.eq_def _ _ _ _ _ _)
      refine lv_iload_n hx hb dX12_orderPartAt_4 rfl (lv_at hl 0 rfl) (lv_bipush (v := 8) hx hb dX12_orderPartAt_5 (by decide +kernel) (lv_icmp_ge (tgt := 37) hx hb dX12_orderPartAt_7 (by decide +kernel) (fun c_315 => ?_) (fun c_315 => ?_)))
      · have c_315i := i_le (x := 8) (y := v_287.toInt) rfl rfl c_315
        replace hE := hE.trans (if_pos c_315)
        refine lv_iload_n hx hb dX12_orderPartAt_37 rfl (lv_at hl 1 rfl) ?_
        rw [← hQ]
        exact W.iret (v := v_288) hx hb hr (fun t ht hW => ⟨_, rfl, ⟨⟨by omega, trivial⟩, hE.symm⟩, ht⟩) (fun q hq => by cases hq) dX12_orderPartAt_38
      · have c_315i := i_nle (x := 8) (y := v_287.toInt) rfl rfl c_315
        replace hE := hE.trans (if_neg c_315)
        refine lv_aload_n hx hb dX12_orderPartAt_10 rfl (lv_at hl 2 rfl) (lv_aload_n hx hb dX12_orderPartAt_11 rfl (lv_at hl 2 rfl) (va_get (ci := 12) (v := .ref wd) (C := RX12) (T := TX12) (N := 60) hx hb hts hw12 hown hK hP 0 rfl rfl 32 (by decide +kernel) (hts _ mm_X12_orderPartAt_862) (fun _ h9 => h9) rfl dX12_orderPartAt_12 (lv_iload_n hx hb dX12_orderPartAt_15 rfl (lv_at hl 0 rfl) (va_lald hx hb hK hP 1 2 rfl rfl (i_in rfl (by omega)) dX12_orderPartAt_16 (lv_topl (fun x_316 ex_316 => ?_))))))
        replace hE := hE.trans (Lt_in ex_316)
        refine pci (va_runV (As := [.long x_316]) (rest := []) ⟨hx, hb, hml, hown, hts⟩ (v_isWord l D K m0 x_316 m_0 m_1 m_2 m_3 m_4 m_5 m_6 m_7 m_8 m_9 m_10 m_11 m_12 m_13 m_14 m_15 so wo m_18 m_19 m_20 m_21 m_22 m_23 m_24 m_25 m_26 m_27 m_28 m_29 m_30 m_31 (.ref wd) m_33 m_34 m_35 m_36 m_37 m_38 m_39 m_40 m_41 m_42 m_43 m_44 m_45 m_46 m_47 m_48 m_49 m_50 m_51 m_52 m_53 m_54 m_55 m_56 m_57 m_58 m_59 s.heap.size) (cwV 1 hts gX12_orderPartAt_X12_isWord rfl rfl rfl (by decide +kernel) ⟨Nat.le_of_ble_eq_true rfl, Nat.le_of_ble_eq_true rfl⟩) (mkV hK hN (hP.sub [0] rfl) (hD.sub [0] (by decide +kernel) rfl) (ci := 12) (q0 := 0) rfl rfl) rfl rfl hl.1 rfl (lv_room (Nat.le_of_ble_eq_true rfl)) dX12_orderPartAt_17 ⟨Nat.le_of_ble_eq_true rfl, Nat.le_of_ble_eq_true rfl⟩) (fun r_317 hw => ?_)
        obtain ⟨hw, k_318, -⟩ := hw
        replace hE := hE.trans (Lt_in k_318)
        rcases hw with ⟨rfl, h_319, h_320⟩ | rfl
        · replace hE := (hE).trans (if_pos rfl)
          refine lv_if_eq (tgt := 29) hx hb dX12_orderPartAt_20 (by decide +kernel) (fun c_321 => absurd c_321 (by decide +kernel)) (fun c_321 => ?_)
          refine lv_iload_n hx hb dX12_orderPartAt_23 rfl (lv_at hl 0 rfl) (lv_iconst (v := 1) hx hb dX12_orderPartAt_24 (by decide +kernel) (lv_iadd hx hb dX12_orderPartAt_25 (lv_topi (fun x_322 ex_322 => ?_))))
          replace hE := hE.trans (Lt_in ex_322)
          have hx_322 : x_322.toInt = (v_287.toInt + 1) := by rw [ex_322]; exact i_add rfl (show (1 : Int32).toInt = 1 from rfl) (by omega)
          refine lv_goto (tgt := 30) hx hb dX12_orderPartAt_26 (by decide +kernel) (lv_istore_n (lv' := [(1, .int x_322), (2, .int v_287), (0, .ref m0)]) hx hb dX12_orderPartAt_30 rfl hl (by decide +kernel) rfl (fun ls hl => ?_))
          obtain ⟨x_323, ex_323⟩ : ∃ y : Int32, y = v_287 + Int32.ofInt 1 := ⟨_, rfl⟩
          replace hE := hE.trans (Lt_in ex_323)
          have hx_323 : x_323.toInt = (v_287.toInt + 1) := by rw [ex_323]; exact i_add rfl (show (Int32.ofInt 1).toInt = 1 from rfl) (by omega)
          refine lv_iinc (v := x_323) (lv' := [(2, .int x_323), (1, .int x_322), (0, .ref m0)]) hx hb dX12_orderPartAt_31 hl (k := 1) rfl (by rw [ex_323]) (by decide +kernel) rfl (fun ls hl => ?_)
          refine lv_goto (tgt := 4) hx hb dX12_orderPartAt_34 (by decide +kernel) ?_
          exact ih_314 x_323 x_322 (by rw [hx_323]; omega) (by rw [hx_322]; omega) (show ((x_322 : Int32).toInt = -1 ∨ (so.toInt = 1 ∧ 1 ≤ (x_322 : Int32).toInt ∧ (x_322 : Int32).toInt ≤ (x_323 : Int32).toInt)) by omega) (by omega) (hE.trans (by rw [hrec_313])) ls (lv_sub hl [0, 1, 2] rfl)
        · replace hE := (hE).trans (if_neg (by first | decide | (intro h9; have h8 := congrArg Int32.toInt h9; omega)))
          refine lv_if_eq (tgt := 29) hx hb dX12_orderPartAt_20 (by decide +kernel) (fun c_324 => ?_) (fun c_324 => absurd (by decide +kernel) c_324)
          refine lv_iload_n hx hb dX12_orderPartAt_29 rfl (lv_at hl 1 rfl) (lv_istore_n (lv' := [(1, .int v_288), (2, .int v_287), (0, .ref m0)]) hx hb dX12_orderPartAt_30 rfl hl (by decide +kernel) rfl (fun ls hl => ?_))
          obtain ⟨x_325, ex_325⟩ : ∃ y : Int32, y = v_287 + Int32.ofInt 1 := ⟨_, rfl⟩
          replace hE := hE.trans (Lt_in ex_325)
          have hx_325 : x_325.toInt = (v_287.toInt + 1) := by rw [ex_325]; exact i_add rfl (show (Int32.ofInt 1).toInt = 1 from rfl) (by omega)
          refine lv_iinc (v := x_325) (lv' := [(2, .int x_325), (1, .int v_288), (0, .ref m0)]) hx hb dX12_orderPartAt_31 hl (k := 1) rfl (by rw [ex_325]) (by decide +kernel) rfl (fun ls hl => ?_)
          refine lv_goto (tgt := 4) hx hb dX12_orderPartAt_34 (by decide +kernel) ?_
          exact ih_314 x_325 v_288 (by rw [hx_325]; omega) (by omega) (show ((v_288 : Int32).toInt = -1 ∨ (so.toInt = 1 ∧ 1 ≤ (v_288 : Int32).toInt ∧ (v_288 : Int32).toInt ≤ (x_325 : Int32).toInt)) by omega) (by omega) (hE.trans (by rw [hrec_313])) ls (lv_sub hl [0, 1, 2] rfl)
  have hz_326 : (0 : Int32).toInt = 0 := rfl
  have hz_327 : ((-1) : Int32).toInt = (-1) := rfl
  exact lp_313 ((9 - (0 : Int32).toInt : Int).toNat + 1) 0 (-1) (by decide +kernel) (by decide +kernel) (show (((-1) : Int32).toInt = -1 ∨ (so.toInt = 1 ∧ 1 ≤ ((-1) : Int32).toInt ∧ ((-1) : Int32).toInt ≤ (0 : Int32).toInt)) by omega) (Nat.lt_succ_self _) hE ls (lv_sub hl [0, 1, 2] rfl)
