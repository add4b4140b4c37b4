theorem dX12_act_1 : decode cX12_act 1 = .ok (.tableswitch 47 0 2 #[27, 33, 40], 27) := by decide +kernel
theorem BX12_reckonAll_30 : bsegs (ByteArray.data cX12_reckonAll |>.toList.drop 30) 30 [(30, [42]), (31, [180, 0, 45]), (34, [21, 4]), (36, [46]), (37, [167, 0, 20]), (66, [42]), (67, [180, 0, 48]), (70, [21, 4]), (72, [46]), (73, [167, 0, 22]), (140, [21, 5]), (142, [16, 6]), (144, [162, 0, 13]), (147, [42]), (148, [180, 0, 102]), (151, [21, 5]), (153, [47]), (154, [167, 0, 67]), (157, [21, 5]), (159, [16, 8]), (161, [160, 0, 13]), (164, [42]), (165, [21, 6]), (167, [182, 1, 136])] = true := by decide +kernel
theorem dX12_reckonAll_30 : decode cX12_reckonAll 30 = .ok (.aload_n 0, 1) := dk_42 (bs_at BX12_reckonAll_30 0 rfl)
theorem dX12_reckonAll_31 : decode cX12_reckonAll 31 = .ok (.getfield 45, 3) := dk_180 0 45 (bs_at BX12_reckonAll_30 1 rfl) rfl
theorem dX12_reckonAll_34 : decode cX12_reckonAll 34 = .ok (.iload 4, 2) := dk_21 4 (bs_at BX12_reckonAll_30 2 rfl)
theorem dX12_reckonAll_36 : decode cX12_reckonAll 36 = .ok (.iaload, 1) := dk_46 (bs_at BX12_reckonAll_30 3 rfl)
theorem dX12_reckonAll_37 : decode cX12_reckonAll 37 = .ok (.goto 20, 3) := dk_167 0 20 (bs_at BX12_reckonAll_30 4 rfl) rfl
theorem dX12_reckonAll_66 : decode cX12_reckonAll 66 = .ok (.aload_n 0, 1) := dk_42 (bs_at BX12_reckonAll_30 5 rfl)
theorem dX12_reckonAll_67 : decode cX12_reckonAll 67 = .ok (.getfield 48, 3) := dk_180 0 48 (bs_at BX12_reckonAll_30 6 rfl) rfl
theorem dX12_reckonAll_70 : decode cX12_reckonAll 70 = .ok (.iload 4, 2) := dk_21 4 (bs_at BX12_reckonAll_30 7 rfl)
theorem dX12_reckonAll_72 : decode cX12_reckonAll 72 = .ok (.iaload, 1) := dk_46 (bs_at BX12_reckonAll_30 8 rfl)
theorem dX12_reckonAll_73 : decode cX12_reckonAll 73 = .ok (.goto 22, 3) := dk_167 0 22 (bs_at BX12_reckonAll_30 9 rfl) rfl
theorem dX12_reckonAll_140 : decode cX12_reckonAll 140 = .ok (.iload 5, 2) := dk_21 5 (bs_at BX12_reckonAll_30 10 rfl)
theorem dX12_reckonAll_142 : decode cX12_reckonAll 142 = .ok (.bipush 6, 2) := dk_16 6 (bs_at BX12_reckonAll_30 11 rfl) rfl
theorem dX12_reckonAll_144 : decode cX12_reckonAll 144 = .ok (.if_icmp .ge 13, 3) := dk_162 0 13 (bs_at BX12_reckonAll_30 12 rfl) rfl
theorem dX12_reckonAll_147 : decode cX12_reckonAll 147 = .ok (.aload_n 0, 1) := dk_42 (bs_at BX12_reckonAll_30 13 rfl)
theorem dX12_reckonAll_148 : decode cX12_reckonAll 148 = .ok (.getfield 102, 3) := dk_180 0 102 (bs_at BX12_reckonAll_30 14 rfl) rfl
theorem dX12_reckonAll_151 : decode cX12_reckonAll 151 = .ok (.iload 5, 2) := dk_21 5 (bs_at BX12_reckonAll_30 15 rfl)
theorem dX12_reckonAll_153 : decode cX12_reckonAll 153 = .ok (.laload, 1) := dk_47 (bs_at BX12_reckonAll_30 16 rfl)
theorem dX12_reckonAll_154 : decode cX12_reckonAll 154 = .ok (.goto 67, 3) := dk_167 0 67 (bs_at BX12_reckonAll_30 17 rfl) rfl
theorem dX12_reckonAll_157 : decode cX12_reckonAll 157 = .ok (.iload 5, 2) := dk_21 5 (bs_at BX12_reckonAll_30 18 rfl)
theorem dX12_reckonAll_159 : decode cX12_reckonAll 159 = .ok (.bipush 8, 2) := dk_16 8 (bs_at BX12_reckonAll_30 19 rfl) rfl
theorem dX12_reckonAll_161 : decode cX12_reckonAll 161 = .ok (.if_icmp .ne 13, 3) := dk_160 0 13 (bs_at BX12_reckonAll_30 20 rfl) rfl
theorem dX12_reckonAll_164 : decode cX12_reckonAll 164 = .ok (.aload_n 0, 1) := dk_42 (bs_at BX12_reckonAll_30 21 rfl)
theorem dX12_reckonAll_165 : decode cX12_reckonAll 165 = .ok (.iload 6, 2) := dk_21 6 (bs_at BX12_reckonAll_30 22 rfl)
theorem dX12_reckonAll_167 : decode cX12_reckonAll 167 = .ok (.invokevirtual 392, 3) := dk_182 1 136 (bs_at BX12_reckonAll_30 23 rfl) rfl
theorem BX12_reckonAll_170 : bsegs (ByteArray.data cX12_reckonAll |>.toList.drop 170) 170 [(170, [133]), (171, [167, 0, 50]), (174, [42]), (175, [21, 6]), (177, [182, 0, 197]), (180, [154, 0, 9]), (183, [20, 1, 10]), (186, [167, 0, 35]), (189, [21, 5]), (191, [16, 6]), (193, [160, 0, 17]), (196, [42]), (197, [180, 0, 13]), (200, [16, 11]), (202, [21, 6]), (204, [96]), (205, [46]), (206, [133]), (207, [167, 0, 14]), (210, [42]), (211, [180, 0, 13]), (214, [16, 19]), (216, [21, 6]), (218, [96])] = true := by decide +kernel
theorem dX12_reckonAll_170 : decode cX12_reckonAll 170 = .ok (.i2l, 1) := dk_133 (bs_at BX12_reckonAll_170 0 rfl)
theorem dX12_reckonAll_171 : decode cX12_reckonAll 171 = .ok (.goto 50, 3) := dk_167 0 50 (bs_at BX12_reckonAll_170 1 rfl) rfl
theorem dX12_reckonAll_174 : decode cX12_reckonAll 174 = .ok (.aload_n 0, 1) := dk_42 (bs_at BX12_reckonAll_170 2 rfl)
theorem dX12_reckonAll_175 : decode cX12_reckonAll 175 = .ok (.iload 6, 2) := dk_21 6 (bs_at BX12_reckonAll_170 3 rfl)
theorem dX12_reckonAll_177 : decode cX12_reckonAll 177 = .ok (.invokevirtual 197, 3) := dk_182 0 197 (bs_at BX12_reckonAll_170 4 rfl) rfl
theorem dX12_reckonAll_180 : decode cX12_reckonAll 180 = .ok (.ifCond .ne 9, 3) := dk_154 0 9 (bs_at BX12_reckonAll_170 5 rfl) rfl
theorem dX12_reckonAll_183 : decode cX12_reckonAll 183 = .ok (.ldc2_w 266, 3) := dk_20 1 10 (bs_at BX12_reckonAll_170 6 rfl) rfl
theorem dX12_reckonAll_186 : decode cX12_reckonAll 186 = .ok (.goto 35, 3) := dk_167 0 35 (bs_at BX12_reckonAll_170 7 rfl) rfl
theorem dX12_reckonAll_189 : decode cX12_reckonAll 189 = .ok (.iload 5, 2) := dk_21 5 (bs_at BX12_reckonAll_170 8 rfl)
theorem dX12_reckonAll_191 : decode cX12_reckonAll 191 = .ok (.bipush 6, 2) := dk_16 6 (bs_at BX12_reckonAll_170 9 rfl) rfl
theorem dX12_reckonAll_193 : decode cX12_reckonAll 193 = .ok (.if_icmp .ne 17, 3) := dk_160 0 17 (bs_at BX12_reckonAll_170 10 rfl) rfl
theorem dX12_reckonAll_196 : decode cX12_reckonAll 196 = .ok (.aload_n 0, 1) := dk_42 (bs_at BX12_reckonAll_170 11 rfl)
theorem dX12_reckonAll_197 : decode cX12_reckonAll 197 = .ok (.getfield 13, 3) := dk_180 0 13 (bs_at BX12_reckonAll_170 12 rfl) rfl
theorem dX12_reckonAll_200 : decode cX12_reckonAll 200 = .ok (.bipush 11, 2) := dk_16 11 (bs_at BX12_reckonAll_170 13 rfl) rfl
theorem dX12_reckonAll_202 : decode cX12_reckonAll 202 = .ok (.iload 6, 2) := dk_21 6 (bs_at BX12_reckonAll_170 14 rfl)
theorem dX12_reckonAll_204 : decode cX12_reckonAll 204 = .ok (.iadd, 1) := dk_96 (bs_at BX12_reckonAll_170 15 rfl)
theorem dX12_reckonAll_205 : decode cX12_reckonAll 205 = .ok (.iaload, 1) := dk_46 (bs_at BX12_reckonAll_170 16 rfl)
theorem dX12_reckonAll_206 : decode cX12_reckonAll 206 = .ok (.i2l, 1) := dk_133 (bs_at BX12_reckonAll_170 17 rfl)
theorem dX12_reckonAll_207 : decode cX12_reckonAll 207 = .ok (.goto 14, 3) := dk_167 0 14 (bs_at BX12_reckonAll_170 18 rfl) rfl
theorem dX12_reckonAll_210 : decode cX12_reckonAll 210 = .ok (.aload_n 0, 1) := dk_42 (bs_at BX12_reckonAll_170 19 rfl)
theorem dX12_reckonAll_211 : decode cX12_reckonAll 211 = .ok (.getfield 13, 3) := dk_180 0 13 (bs_at BX12_reckonAll_170 20 rfl) rfl
theorem dX12_reckonAll_214 : decode cX12_reckonAll 214 = .ok (.bipush 19, 2) := dk_16 19 (bs_at BX12_reckonAll_170 21 rfl) rfl
theorem dX12_reckonAll_216 : decode cX12_reckonAll 216 = .ok (.iload 6, 2) := dk_21 6 (bs_at BX12_reckonAll_170 22 rfl)
theorem dX12_reckonAll_218 : decode cX12_reckonAll 218 = .ok (.iadd, 1) := dk_96 (bs_at BX12_reckonAll_170 23 rfl)
theorem BX12_reckonAll_219 : bsegs (ByteArray.data cX12_reckonAll |>.toList.drop 219) 219 [(219, [46]), (220, [133])] = true := by decide +kernel
theorem dX12_reckonAll_219 : decode cX12_reckonAll 219 = .ok (.iaload, 1) := dk_46 (bs_at BX12_reckonAll_219 0 rfl)
theorem dX12_reckonAll_220 : decode cX12_reckonAll 220 = .ok (.i2l, 1) := dk_133 (bs_at BX12_reckonAll_219 1 rfl)
theorem BX12_sumOf_0 : bsegs (ByteArray.data cX12_sumOf |>.toList.drop 0) 0 [(0, [42]), (1, [180, 2, 17]), (4, [154, 0, 20]), (7, [42]), (8, [180, 0, 146]), (11, [27]), (12, [46]), (13, [42]), (14, [180, 0, 146]), (17, [27]), (18, [4]), (19, [96]), (20, [46]), (21, [160, 0, 5]), (24, [2]), (25, [172]), (26, [42]), (27, [4]), (28, [181, 1, 58]), (31, [42]), (32, [42]), (33, [180, 0, 146]), (36, [27]), (37, [46])] = true := by decide +kernel
theorem dX12_sumOf_0 : decode cX12_sumOf 0 = .ok (.aload_n 0, 1) := dk_42 (bs_at BX12_sumOf_0 0 rfl)
theorem dX12_sumOf_1 : decode cX12_sumOf 1 = .ok (.getfield 529, 3) := dk_180 2 17 (bs_at BX12_sumOf_0 1 rfl) rfl
theorem dX12_sumOf_4 : decode cX12_sumOf 4 = .ok (.ifCond .ne 20, 3) := dk_154 0 20 (bs_at BX12_sumOf_0 2 rfl) rfl
theorem dX12_sumOf_7 : decode cX12_sumOf 7 = .ok (.aload_n 0, 1) := dk_42 (bs_at BX12_sumOf_0 3 rfl)
theorem dX12_sumOf_8 : decode cX12_sumOf 8 = .ok (.getfield 146, 3) := dk_180 0 146 (bs_at BX12_sumOf_0 4 rfl) rfl
theorem dX12_sumOf_11 : decode cX12_sumOf 11 = .ok (.iload_n 1, 1) := dk_27 (bs_at BX12_sumOf_0 5 rfl)
theorem dX12_sumOf_12 : decode cX12_sumOf 12 = .ok (.iaload, 1) := dk_46 (bs_at BX12_sumOf_0 6 rfl)
theorem dX12_sumOf_13 : decode cX12_sumOf 13 = .ok (.aload_n 0, 1) := dk_42 (bs_at BX12_sumOf_0 7 rfl)
theorem dX12_sumOf_14 : decode cX12_sumOf 14 = .ok (.getfield 146, 3) := dk_180 0 146 (bs_at BX12_sumOf_0 8 rfl) rfl
theorem dX12_sumOf_17 : decode cX12_sumOf 17 = .ok (.iload_n 1, 1) := dk_27 (bs_at BX12_sumOf_0 9 rfl)
theorem dX12_sumOf_18 : decode cX12_sumOf 18 = .ok (.iconst 1, 1) := dk_4 (bs_at BX12_sumOf_0 10 rfl)
theorem dX12_sumOf_19 : decode cX12_sumOf 19 = .ok (.iadd, 1) := dk_96 (bs_at BX12_sumOf_0 11 rfl)
theorem dX12_sumOf_20 : decode cX12_sumOf 20 = .ok (.iaload, 1) := dk_46 (bs_at BX12_sumOf_0 12 rfl)
theorem dX12_sumOf_21 : decode cX12_sumOf 21 = .ok (.if_icmp .ne 5, 3) := dk_160 0 5 (bs_at BX12_sumOf_0 13 rfl) rfl
theorem dX12_sumOf_24 : decode cX12_sumOf 24 = .ok (.iconst (-1), 1) := dk_2 (bs_at BX12_sumOf_0 14 rfl)
theorem dX12_sumOf_25 : decode cX12_sumOf 25 = .ok (.ireturn, 1) := dk_172 (bs_at BX12_sumOf_0 15 rfl)
theorem dX12_sumOf_26 : decode cX12_sumOf 26 = .ok (.aload_n 0, 1) := dk_42 (bs_at BX12_sumOf_0 16 rfl)
theorem dX12_sumOf_27 : decode cX12_sumOf 27 = .ok (.iconst 1, 1) := dk_4 (bs_at BX12_sumOf_0 17 rfl)
theorem dX12_sumOf_28 : decode cX12_sumOf 28 = .ok (.putfield 314, 3) := dk_181 1 58 (bs_at BX12_sumOf_0 18 rfl) rfl
theorem dX12_sumOf_31 : decode cX12_sumOf 31 = .ok (.aload_n 0, 1) := dk_42 (bs_at BX12_sumOf_0 19 rfl)
theorem dX12_sumOf_32 : decode cX12_sumOf 32 = .ok (.aload_n 0, 1) := dk_42 (bs_at BX12_sumOf_0 20 rfl)
theorem dX12_sumOf_33 : decode cX12_sumOf 33 = .ok (.getfield 146, 3) := dk_180 0 146 (bs_at BX12_sumOf_0 21 rfl) rfl
theorem dX12_sumOf_36 : decode cX12_sumOf 36 = .ok (.iload_n 1, 1) := dk_27 (bs_at BX12_sumOf_0 22 rfl)
theorem dX12_sumOf_37 : decode cX12_sumOf 37 = .ok (.iaload, 1) := dk_46 (bs_at BX12_sumOf_0 23 rfl)
theorem BX12_sumOf_38 : bsegs (ByteArray.data cX12_sumOf |>.toList.drop 38) 38 [(38, [42]), (39, [180, 0, 146]), (42, [27]), (43, [4]), (44, [96]), (45, [46]), (46, [182, 1, 150]), (49, [42]), (50, [3]), (51, [181, 1, 58]), (54, [42]), (55, [42]), (56, [180, 1, 130]), (59, [181, 2, 17]), (62, [42]), (63, [180, 1, 147]), (66, [136]), (67, [172])] = true := by decide +kernel
theorem dX12_sumOf_38 : decode cX12_sumOf 38 = .ok (.aload_n 0, 1) := dk_42 (bs_at BX12_sumOf_38 0 rfl)
theorem dX12_sumOf_39 : decode cX12_sumOf 39 = .ok (.getfield 146, 3) := dk_180 0 146 (bs_at BX12_sumOf_38 1 rfl) rfl
theorem dX12_sumOf_42 : decode cX12_sumOf 42 = .ok (.iload_n 1, 1) := dk_27 (bs_at BX12_sumOf_38 2 rfl)
theorem dX12_sumOf_43 : decode cX12_sumOf 43 = .ok (.iconst 1, 1) := dk_4 (bs_at BX12_sumOf_38 3 rfl)
theorem dX12_sumOf_44 : decode cX12_sumOf 44 = .ok (.iadd, 1) := dk_96 (bs_at BX12_sumOf_38 4 rfl)
theorem dX12_sumOf_45 : decode cX12_sumOf 45 = .ok (.iaload, 1) := dk_46 (bs_at BX12_sumOf_38 5 rfl)
theorem dX12_sumOf_46 : decode cX12_sumOf 46 = .ok (.invokevirtual 406, 3) := dk_182 1 150 (bs_at BX12_sumOf_38 6 rfl) rfl
theorem dX12_sumOf_49 : decode cX12_sumOf 49 = .ok (.aload_n 0, 1) := dk_42 (bs_at BX12_sumOf_38 7 rfl)
theorem dX12_sumOf_50 : decode cX12_sumOf 50 = .ok (.iconst 0, 1) := dk_3 (bs_at BX12_sumOf_38 8 rfl)
theorem dX12_sumOf_51 : decode cX12_sumOf 51 = .ok (.putfield 314, 3) := dk_181 1 58 (bs_at BX12_sumOf_38 9 rfl) rfl
theorem dX12_sumOf_54 : decode cX12_sumOf 54 = .ok (.aload_n 0, 1) := dk_42 (bs_at BX12_sumOf_38 10 rfl)
theorem dX12_sumOf_55 : decode cX12_sumOf 55 = .ok (.aload_n 0, 1) := dk_42 (bs_at BX12_sumOf_38 11 rfl)
theorem dX12_sumOf_56 : decode cX12_sumOf 56 = .ok (.getfield 386, 3) := dk_180 1 130 (bs_at BX12_sumOf_38 12 rfl) rfl
theorem dX12_sumOf_59 : decode cX12_sumOf 59 = .ok (.putfield 529, 3) := dk_181 2 17 (bs_at BX12_sumOf_38 13 rfl) rfl
theorem dX12_sumOf_62 : decode cX12_sumOf 62 = .ok (.aload_n 0, 1) := dk_42 (bs_at BX12_sumOf_38 14 rfl)
theorem dX12_sumOf_63 : decode cX12_sumOf 63 = .ok (.getfield 403, 3) := dk_180 1 147 (bs_at BX12_sumOf_38 15 rfl) rfl
theorem dX12_sumOf_66 : decode cX12_sumOf 66 = .ok (.l2i, 1) := dk_136 (bs_at BX12_sumOf_38 16 rfl)
theorem dX12_sumOf_67 : decode cX12_sumOf 67 = .ok (.ireturn, 1) := dk_172 (bs_at BX12_sumOf_38 17 rfl)
theorem BX12_act_0 : bsegs (ByteArray.data cX12_act |>.toList.drop 0) 0 [(0, [27]), (28, [42]), (29, [28]), (30, [182, 1, 198]), (33, [172]), (34, [42]), (35, [28]), (36, [29]), (37, [182, 1, 201]), (40, [172]), (41, [42]), (42, [28]), (43, [29]), (44, [182, 1, 204]), (47, [172]), (48, [42]), (49, [182, 1, 217]), (52, [172])] = true := by decide +kernel
theorem dX12_act_0 : decode cX12_act 0 = .ok (.iload_n 1, 1) := dk_27 (bs_at BX12_act_0 0 rfl)
theorem dX12_act_28 : decode cX12_act 28 = .ok (.aload_n 0, 1) := dk_42 (bs_at BX12_act_0 1 rfl)
theorem dX12_act_29 : decode cX12_act 29 = .ok (.iload_n 2, 1) := dk_28 (bs_at BX12_act_0 2 rfl)
theorem dX12_act_30 : decode cX12_act 30 = .ok (.invokevirtual 454, 3) := dk_182 1 198 (bs_at BX12_act_0 3 rfl) rfl
theorem dX12_act_33 : decode cX12_act 33 = .ok (.ireturn, 1) := dk_172 (bs_at BX12_act_0 4 rfl)
theorem dX12_act_34 : decode cX12_act 34 = .ok (.aload_n 0, 1) := dk_42 (bs_at BX12_act_0 5 rfl)
theorem dX12_act_35 : decode cX12_act 35 = .ok (.iload_n 2, 1) := dk_28 (bs_at BX12_act_0 6 rfl)
theorem dX12_act_36 : decode cX12_act 36 = .ok (.iload_n 3, 1) := dk_29 (bs_at BX12_act_0 7 rfl)
theorem dX12_act_37 : decode cX12_act 37 = .ok (.invokevirtual 457, 3) := dk_182 1 201 (bs_at BX12_act_0 8 rfl) rfl
theorem dX12_act_40 : decode cX12_act 40 = .ok (.ireturn, 1) := dk_172 (bs_at BX12_act_0 9 rfl)
theorem dX12_act_41 : decode cX12_act 41 = .ok (.aload_n 0, 1) := dk_42 (bs_at BX12_act_0 10 rfl)
theorem dX12_act_42 : decode cX12_act 42 = .ok (.iload_n 2, 1) := dk_28 (bs_at BX12_act_0 11 rfl)
theorem dX12_act_43 : decode cX12_act 43 = .ok (.iload_n 3, 1) := dk_29 (bs_at BX12_act_0 12 rfl)
theorem dX12_act_44 : decode cX12_act 44 = .ok (.invokevirtual 460, 3) := dk_182 1 204 (bs_at BX12_act_0 13 rfl) rfl
theorem dX12_act_47 : decode cX12_act 47 = .ok (.ireturn, 1) := dk_172 (bs_at BX12_act_0 14 rfl)
theorem dX12_act_48 : decode cX12_act 48 = .ok (.aload_n 0, 1) := dk_42 (bs_at BX12_act_0 15 rfl)
theorem dX12_act_49 : decode cX12_act 49 = .ok (.invokevirtual 473, 3) := dk_182 1 217 (bs_at BX12_act_0 16 rfl) rfl
theorem dX12_act_52 : decode cX12_act 52 = .ok (.ireturn, 1) := dk_172 (bs_at BX12_act_0 17 rfl)
theorem BX12_run_0 : bsegs (ByteArray.data cX12_run |>.toList.drop 0) 0 [(0, [42]), (1, [180, 0, 102]), (4, [4]), (5, [42]), (6, [3]), (7, [182, 0, 182]), (10, [133]), (11, [80]), (12, [42]), (13, [180, 0, 102]), (16, [5]), (17, [42]), (18, [4]), (19, [182, 0, 182]), (22, [133]), (23, [80]), (24, [42]), (25, [180, 0, 102]), (28, [6]), (29, [42]), (30, [180, 0, 13]), (33, [16, 10]), (35, [46]), (36, [133])] = true := by decide +kernel
theorem dX12_run_0 : decode cX12_run 0 = .ok (.aload_n 0, 1) := dk_42 (bs_at BX12_run_0 0 rfl)
theorem dX12_run_1 : decode cX12_run 1 = .ok (.getfield 102, 3) := dk_180 0 102 (bs_at BX12_run_0 1 rfl) rfl
theorem dX12_run_4 : decode cX12_run 4 = .ok (.iconst 1, 1) := dk_4 (bs_at BX12_run_0 2 rfl)
theorem dX12_run_5 : decode cX12_run 5 = .ok (.aload_n 0, 1) := dk_42 (bs_at BX12_run_0 3 rfl)
theorem dX12_run_6 : decode cX12_run 6 = .ok (.iconst 0, 1) := dk_3 (bs_at BX12_run_0 4 rfl)
theorem dX12_run_7 : decode cX12_run 7 = .ok (.invokevirtual 182, 3) := dk_182 0 182 (bs_at BX12_run_0 5 rfl) rfl
theorem dX12_run_10 : decode cX12_run 10 = .ok (.i2l, 1) := dk_133 (bs_at BX12_run_0 6 rfl)
theorem dX12_run_11 : decode cX12_run 11 = .ok (.lastore, 1) := dk_80 (bs_at BX12_run_0 7 rfl)
theorem dX12_run_12 : decode cX12_run 12 = .ok (.aload_n 0, 1) := dk_42 (bs_at BX12_run_0 8 rfl)
theorem dX12_run_13 : decode cX12_run 13 = .ok (.getfield 102, 3) := dk_180 0 102 (bs_at BX12_run_0 9 rfl) rfl
theorem dX12_run_16 : decode cX12_run 16 = .ok (.iconst 2, 1) := dk_5 (bs_at BX12_run_0 10 rfl)
theorem dX12_run_17 : decode cX12_run 17 = .ok (.aload_n 0, 1) := dk_42 (bs_at BX12_run_0 11 rfl)
theorem dX12_run_18 : decode cX12_run 18 = .ok (.iconst 1, 1) := dk_4 (bs_at BX12_run_0 12 rfl)
theorem dX12_run_19 : decode cX12_run 19 = .ok (.invokevirtual 182, 3) := dk_182 0 182 (bs_at BX12_run_0 13 rfl) rfl
theorem dX12_run_22 : decode cX12_run 22 = .ok (.i2l, 1) := dk_133 (bs_at BX12_run_0 14 rfl)
theorem dX12_run_23 : decode cX12_run 23 = .ok (.lastore, 1) := dk_80 (bs_at BX12_run_0 15 rfl)
theorem dX12_run_24 : decode cX12_run 24 = .ok (.aload_n 0, 1) := dk_42 (bs_at BX12_run_0 16 rfl)
theorem dX12_run_25 : decode cX12_run 25 = .ok (.getfield 102, 3) := dk_180 0 102 (bs_at BX12_run_0 17 rfl) rfl
theorem dX12_run_28 : decode cX12_run 28 = .ok (.iconst 3, 1) := dk_6 (bs_at BX12_run_0 18 rfl)
theorem dX12_run_29 : decode cX12_run 29 = .ok (.aload_n 0, 1) := dk_42 (bs_at BX12_run_0 19 rfl)
theorem dX12_run_30 : decode cX12_run 30 = .ok (.getfield 13, 3) := dk_180 0 13 (bs_at BX12_run_0 20 rfl) rfl
theorem dX12_run_33 : decode cX12_run 33 = .ok (.bipush 10, 2) := dk_16 10 (bs_at BX12_run_0 21 rfl) rfl
theorem dX12_run_35 : decode cX12_run 35 = .ok (.iaload, 1) := dk_46 (bs_at BX12_run_0 22 rfl)
theorem dX12_run_36 : decode cX12_run 36 = .ok (.i2l, 1) := dk_133 (bs_at BX12_run_0 23 rfl)
theorem BX12_run_37 : bsegs (ByteArray.data cX12_run |>.toList.drop 37) 37 [(37, [80]), (38, [42]), (39, [180, 0, 102]), (42, [7]), (43, [42]), (44, [180, 2, 20]), (47, [133]), (48, [80]), (49, [42]), (50, [180, 0, 102]), (53, [8]), (54, [42]), (55, [180, 2, 23]), (58, [133]), (59, [80]), (60, [42]), (61, [3]), (62, [181, 2, 17]), (65, [42]), (66, [180, 0, 146]), (69, [27]), (70, [8]), (71, [96]), (72, [46])] = true := by decide +kernel
theorem dX12_run_37 : decode cX12_run 37 = .ok (.lastore, 1) := dk_80 (bs_at BX12_run_37 0 rfl)
theorem dX12_run_38 : decode cX12_run 38 = .ok (.aload_n 0, 1) := dk_42 (bs_at BX12_run_37 1 rfl)
theorem dX12_run_39 : decode cX12_run 39 = .ok (.getfield 102, 3) := dk_180 0 102 (bs_at BX12_run_37 2 rfl) rfl
theorem dX12_run_42 : decode cX12_run 42 = .ok (.iconst 4, 1) := dk_7 (bs_at BX12_run_37 3 rfl)
theorem dX12_run_43 : decode cX12_run 43 = .ok (.aload_n 0, 1) := dk_42 (bs_at BX12_run_37 4 rfl)
theorem dX12_run_44 : decode cX12_run 44 = .ok (.getfield 532, 3) := dk_180 2 20 (bs_at BX12_run_37 5 rfl) rfl
theorem dX12_run_47 : decode cX12_run 47 = .ok (.i2l, 1) := dk_133 (bs_at BX12_run_37 6 rfl)
theorem dX12_run_48 : decode cX12_run 48 = .ok (.lastore, 1) := dk_80 (bs_at BX12_run_37 7 rfl)
theorem dX12_run_49 : decode cX12_run 49 = .ok (.aload_n 0, 1) := dk_42 (bs_at BX12_run_37 8 rfl)
theorem dX12_run_50 : decode cX12_run 50 = .ok (.getfield 102, 3) := dk_180 0 102 (bs_at BX12_run_37 9 rfl) rfl
theorem dX12_run_53 : decode cX12_run 53 = .ok (.iconst 5, 1) := dk_8 (bs_at BX12_run_37 10 rfl)
theorem dX12_run_54 : decode cX12_run 54 = .ok (.aload_n 0, 1) := dk_42 (bs_at BX12_run_37 11 rfl)
theorem dX12_run_55 : decode cX12_run 55 = .ok (.getfield 535, 3) := dk_180 2 23 (bs_at BX12_run_37 12 rfl) rfl
theorem dX12_run_58 : decode cX12_run 58 = .ok (.i2l, 1) := dk_133 (bs_at BX12_run_37 13 rfl)
theorem dX12_run_59 : decode cX12_run 59 = .ok (.lastore, 1) := dk_80 (bs_at BX12_run_37 14 rfl)
theorem dX12_run_60 : decode cX12_run 60 = .ok (.aload_n 0, 1) := dk_42 (bs_at BX12_run_37 15 rfl)
theorem dX12_run_61 : decode cX12_run 61 = .ok (.iconst 0, 1) := dk_3 (bs_at BX12_run_37 16 rfl)
theorem dX12_run_62 : decode cX12_run 62 = .ok (.putfield 529, 3) := dk_181 2 17 (bs_at BX12_run_37 17 rfl) rfl
theorem dX12_run_65 : decode cX12_run 65 = .ok (.aload_n 0, 1) := dk_42 (bs_at BX12_run_37 18 rfl)
theorem dX12_run_66 : decode cX12_run 66 = .ok (.getfield 146, 3) := dk_180 0 146 (bs_at BX12_run_37 19 rfl) rfl
theorem dX12_run_69 : decode cX12_run 69 = .ok (.iload_n 1, 1) := dk_27 (bs_at BX12_run_37 20 rfl)
theorem dX12_run_70 : decode cX12_run 70 = .ok (.iconst 5, 1) := dk_8 (bs_at BX12_run_37 21 rfl)
theorem dX12_run_71 : decode cX12_run 71 = .ok (.iadd, 1) := dk_96 (bs_at BX12_run_37 22 rfl)
theorem dX12_run_72 : decode cX12_run 72 = .ok (.iaload, 1) := dk_46 (bs_at BX12_run_37 23 rfl)
theorem BX12_run_73 : bsegs (ByteArray.data cX12_run |>.toList.drop 73) 73 [(73, [42]), (74, [180, 0, 146]), (77, [27]), (78, [16, 6]), (80, [96]), (81, [46]), (82, [162, 0, 24]), (85, [42]), (86, [27]), (87, [8]), (88, [96]), (89, [182, 2, 26]), (92, [61]), (93, [42]), (94, [180, 2, 17]), (97, [154, 0, 7]), (100, [28]), (101, [154, 0, 5]), (104, [3]), (105, [172]), (106, [42]), (107, [27]), (108, [4]), (109, [96])] = true := by decide +kernel
theorem dX12_run_73 : decode cX12_run 73 = .ok (.aload_n 0, 1) := dk_42 (bs_at BX12_run_73 0 rfl)
theorem dX12_run_74 : decode cX12_run 74 = .ok (.getfield 146, 3) := dk_180 0 146 (bs_at BX12_run_73 1 rfl) rfl
theorem dX12_run_77 : decode cX12_run 77 = .ok (.iload_n 1, 1) := dk_27 (bs_at BX12_run_73 2 rfl)
theorem dX12_run_78 : decode cX12_run 78 = .ok (.bipush 6, 2) := dk_16 6 (bs_at BX12_run_73 3 rfl) rfl
theorem dX12_run_80 : decode cX12_run 80 = .ok (.iadd, 1) := dk_96 (bs_at BX12_run_73 4 rfl)
theorem dX12_run_81 : decode cX12_run 81 = .ok (.iaload, 1) := dk_46 (bs_at BX12_run_73 5 rfl)
theorem dX12_run_82 : decode cX12_run 82 = .ok (.if_icmp .ge 24, 3) := dk_162 0 24 (bs_at BX12_run_73 6 rfl) rfl
theorem dX12_run_85 : decode cX12_run 85 = .ok (.aload_n 0, 1) := dk_42 (bs_at BX12_run_73 7 rfl)
theorem dX12_run_86 : decode cX12_run 86 = .ok (.iload_n 1, 1) := dk_27 (bs_at BX12_run_73 8 rfl)
theorem dX12_run_87 : decode cX12_run 87 = .ok (.iconst 5, 1) := dk_8 (bs_at BX12_run_73 9 rfl)
theorem dX12_run_88 : decode cX12_run 88 = .ok (.iadd, 1) := dk_96 (bs_at BX12_run_73 10 rfl)
theorem dX12_run_89 : decode cX12_run 89 = .ok (.invokevirtual 538, 3) := dk_182 2 26 (bs_at BX12_run_73 11 rfl) rfl
theorem dX12_run_92 : decode cX12_run 92 = .ok (.istore_n 2, 1) := dk_61 (bs_at BX12_run_73 12 rfl)
theorem dX12_run_93 : decode cX12_run 93 = .ok (.aload_n 0, 1) := dk_42 (bs_at BX12_run_73 13 rfl)
theorem dX12_run_94 : decode cX12_run 94 = .ok (.getfield 529, 3) := dk_180 2 17 (bs_at BX12_run_73 14 rfl) rfl
theorem dX12_run_97 : decode cX12_run 97 = .ok (.ifCond .ne 7, 3) := dk_154 0 7 (bs_at BX12_run_73 15 rfl) rfl
theorem dX12_run_100 : decode cX12_run 100 = .ok (.iload_n 2, 1) := dk_28 (bs_at BX12_run_73 16 rfl)
theorem dX12_run_101 : decode cX12_run 101 = .ok (.ifCond .ne 5, 3) := dk_154 0 5 (bs_at BX12_run_73 17 rfl) rfl
theorem dX12_run_104 : decode cX12_run 104 = .ok (.iconst 0, 1) := dk_3 (bs_at BX12_run_73 18 rfl)
theorem dX12_run_105 : decode cX12_run 105 = .ok (.ireturn, 1) := dk_172 (bs_at BX12_run_73 19 rfl)
theorem dX12_run_106 : decode cX12_run 106 = .ok (.aload_n 0, 1) := dk_42 (bs_at BX12_run_73 20 rfl)
theorem dX12_run_107 : decode cX12_run 107 = .ok (.iload_n 1, 1) := dk_27 (bs_at BX12_run_73 21 rfl)
theorem dX12_run_108 : decode cX12_run 108 = .ok (.iconst 1, 1) := dk_4 (bs_at BX12_run_73 22 rfl)
theorem dX12_run_109 : decode cX12_run 109 = .ok (.iadd, 1) := dk_96 (bs_at BX12_run_73 23 rfl)
theorem BX12_run_110 : bsegs (ByteArray.data cX12_run |>.toList.drop 110) 110 [(110, [182, 2, 26]), (113, [61]), (114, [42]), (115, [27]), (116, [6]), (117, [96]), (118, [182, 2, 26]), (121, [62]), (122, [42]), (123, [180, 2, 17]), (126, [153, 0, 6]), (129, [16, 253]), (131, [172]), (132, [42]), (133, [42]), (134, [180, 0, 146]), (137, [27]), (138, [46]), (139, [28]), (140, [29]), (141, [182, 2, 29]), (144, [54, 4]), (146, [21, 4]), (148, [156, 0, 6])] = true := by decide +kernel
theorem dX12_run_110 : decode cX12_run 110 = .ok (.invokevirtual 538, 3) := dk_182 2 26 (bs_at BX12_run_110 0 rfl) rfl
theorem dX12_run_113 : decode cX12_run 113 = .ok (.istore_n 2, 1) := dk_61 (bs_at BX12_run_110 1 rfl)
theorem dX12_run_114 : decode cX12_run 114 = .ok (.aload_n 0, 1) := dk_42 (bs_at BX12_run_110 2 rfl)
theorem dX12_run_115 : decode cX12_run 115 = .ok (.iload_n 1, 1) := dk_27 (bs_at BX12_run_110 3 rfl)
theorem dX12_run_116 : decode cX12_run 116 = .ok (.iconst 3, 1) := dk_6 (bs_at BX12_run_110 4 rfl)
theorem dX12_run_117 : decode cX12_run 117 = .ok (.iadd, 1) := dk_96 (bs_at BX12_run_110 5 rfl)
theorem dX12_run_118 : decode cX12_run 118 = .ok (.invokevirtual 538, 3) := dk_182 2 26 (bs_at BX12_run_110 6 rfl) rfl
theorem dX12_run_121 : decode cX12_run 121 = .ok (.istore_n 3, 1) := dk_62 (bs_at BX12_run_110 7 rfl)
theorem dX12_run_122 : decode cX12_run 122 = .ok (.aload_n 0, 1) := dk_42 (bs_at BX12_run_110 8 rfl)
theorem dX12_run_123 : decode cX12_run 123 = .ok (.getfield 529, 3) := dk_180 2 17 (bs_at BX12_run_110 9 rfl) rfl
theorem dX12_run_126 : decode cX12_run 126 = .ok (.ifCond .eq 6, 3) := dk_153 0 6 (bs_at BX12_run_110 10 rfl) rfl
theorem dX12_run_129 : decode cX12_run 129 = .ok (.bipush (-3), 2) := dk_16 253 (bs_at BX12_run_110 11 rfl) rfl
theorem dX12_run_131 : decode cX12_run 131 = .ok (.ireturn, 1) := dk_172 (bs_at BX12_run_110 12 rfl)
theorem dX12_run_132 : decode cX12_run 132 = .ok (.aload_n 0, 1) := dk_42 (bs_at BX12_run_110 13 rfl)
theorem dX12_run_133 : decode cX12_run 133 = .ok (.aload_n 0, 1) := dk_42 (bs_at BX12_run_110 14 rfl)
theorem dX12_run_134 : decode cX12_run 134 = .ok (.getfield 146, 3) := dk_180 0 146 (bs_at BX12_run_110 15 rfl) rfl
theorem dX12_run_137 : decode cX12_run 137 = .ok (.iload_n 1, 1) := dk_27 (bs_at BX12_run_110 16 rfl)
theorem dX12_run_138 : decode cX12_run 138 = .ok (.iaload, 1) := dk_46 (bs_at BX12_run_110 17 rfl)
theorem dX12_run_139 : decode cX12_run 139 = .ok (.iload_n 2, 1) := dk_28 (bs_at BX12_run_110 18 rfl)
theorem dX12_run_140 : decode cX12_run 140 = .ok (.iload_n 3, 1) := dk_29 (bs_at BX12_run_110 19 rfl)
theorem dX12_run_141 : decode cX12_run 141 = .ok (.invokevirtual 541, 3) := dk_182 2 29 (bs_at BX12_run_110 20 rfl) rfl
theorem dX12_run_144 : decode cX12_run 144 = .ok (.istore 4, 2) := dk_54 4 (bs_at BX12_run_110 21 rfl)
theorem dX12_run_146 : decode cX12_run 146 = .ok (.iload 4, 2) := dk_21 4 (bs_at BX12_run_110 22 rfl)
theorem dX12_run_148 : decode cX12_run 148 = .ok (.ifCond .ge 6, 3) := dk_156 0 6 (bs_at BX12_run_110 23 rfl) rfl
theorem BX12_run_151 : bsegs (ByteArray.data cX12_run |>.toList.drop 151) 151 [(151, [16, 253]), (153, [172]), (154, [42]), (155, [42]), (156, [180, 0, 146]), (159, [27]), (160, [46]), (161, [6]), (162, [160, 0, 8]), (165, [21, 4]), (167, [167, 0, 7]), (170, [42]), (171, [180, 2, 23]), (174, [181, 2, 23]), (177, [42]), (178, [89]), (179, [180, 2, 20]), (182, [4]), (183, [96]), (184, [181, 2, 20]), (187, [3]), (188, [172])] = true := by decide +kernel
theorem dX12_run_151 : decode cX12_run 151 = .ok (.bipush (-3), 2) := dk_16 253 (bs_at BX12_run_151 0 rfl) rfl
theorem dX12_run_153 : decode cX12_run 153 = .ok (.ireturn, 1) := dk_172 (bs_at BX12_run_151 1 rfl)
theorem dX12_run_154 : decode cX12_run 154 = .ok (.aload_n 0, 1) := dk_42 (bs_at BX12_run_151 2 rfl)
theorem dX12_run_155 : decode cX12_run 155 = .ok (.aload_n 0, 1) := dk_42 (bs_at BX12_run_151 3 rfl)
theorem dX12_run_156 : decode cX12_run 156 = .ok (.getfield 146, 3) := dk_180 0 146 (bs_at BX12_run_151 4 rfl) rfl
theorem dX12_run_159 : decode cX12_run 159 = .ok (.iload_n 1, 1) := dk_27 (bs_at BX12_run_151 5 rfl)
theorem dX12_run_160 : decode cX12_run 160 = .ok (.iaload, 1) := dk_46 (bs_at BX12_run_151 6 rfl)
theorem dX12_run_161 : decode cX12_run 161 = .ok (.iconst 3, 1) := dk_6 (bs_at BX12_run_151 7 rfl)
theorem dX12_run_162 : decode cX12_run 162 = .ok (.if_icmp .ne 8, 3) := dk_160 0 8 (bs_at BX12_run_151 8 rfl) rfl
theorem dX12_run_165 : decode cX12_run 165 = .ok (.iload 4, 2) := dk_21 4 (bs_at BX12_run_151 9 rfl)
theorem dX12_run_167 : decode cX12_run 167 = .ok (.goto 7, 3) := dk_167 0 7 (bs_at BX12_run_151 10 rfl) rfl
theorem dX12_run_170 : decode cX12_run 170 = .ok (.aload_n 0, 1) := dk_42 (bs_at BX12_run_151 11 rfl)
theorem dX12_run_171 : decode cX12_run 171 = .ok (.getfield 535, 3) := dk_180 2 23 (bs_at BX12_run_151 12 rfl) rfl
theorem dX12_run_174 : decode cX12_run 174 = .ok (.putfield 535, 3) := dk_181 2 23 (bs_at BX12_run_151 13 rfl) rfl
theorem dX12_run_177 : decode cX12_run 177 = .ok (.aload_n 0, 1) := dk_42 (bs_at BX12_run_151 14 rfl)
theorem dX12_run_178 : decode cX12_run 178 = .ok (.dup, 1) := dk_89 (bs_at BX12_run_151 15 rfl)
theorem dX12_run_179 : decode cX12_run 179 = .ok (.getfield 532, 3) := dk_180 2 20 (bs_at BX12_run_151 16 rfl) rfl
theorem dX12_run_182 : decode cX12_run 182 = .ok (.iconst 1, 1) := dk_4 (bs_at BX12_run_151 17 rfl)
theorem dX12_run_183 : decode cX12_run 183 = .ok (.iadd, 1) := dk_96 (bs_at BX12_run_151 18 rfl)
theorem dX12_run_184 : decode cX12_run 184 = .ok (.putfield 532, 3) := dk_181 2 20 (bs_at BX12_run_151 19 rfl) rfl
theorem dX12_run_187 : decode cX12_run 187 = .ok (.iconst 0, 1) := dk_3 (bs_at BX12_run_151 20 rfl)
theorem dX12_run_188 : decode cX12_run 188 = .ok (.ireturn, 1) := dk_172 (bs_at BX12_run_151 21 rfl)
theorem BX12_giveBack_0 : bsegs (ByteArray.data cX12_giveBack |>.toList.drop 0) 0 [(0, [42]), (1, [16, 17]), (3, [182, 0, 175]), (6, [3]), (7, [61]), (8, [28]), (9, [17, 1, 240]), (12, [162, 0, 21]), (15, [42]), (16, [180, 0, 23]), (19, [28]), (20, [42]), (21, [180, 0, 29]), (24, [28]), (25, [46]), (26, [79]), (27, [132, 2, 1]), (30, [167, 255, 234]), (33, [3]), (34, [61]), (35, [28]), (36, [16, 16]), (38, [162, 0, 21]), (41, [42])] = true := by decide +kernel
theorem dX12_giveBack_0 : decode cX12_giveBack 0 = .ok (.aload_n 0, 1) := dk_42 (bs_at BX12_giveBack_0 0 rfl)
theorem dX12_giveBack_1 : decode cX12_giveBack 1 = .ok (.bipush 17, 2) := dk_16 17 (bs_at BX12_giveBack_0 1 rfl) rfl
theorem dX12_giveBack_3 : decode cX12_giveBack 3 = .ok (.invokevirtual 175, 3) := dk_182 0 175 (bs_at BX12_giveBack_0 2 rfl) rfl
theorem dX12_giveBack_6 : decode cX12_giveBack 6 = .ok (.iconst 0, 1) := dk_3 (bs_at BX12_giveBack_0 3 rfl)
theorem dX12_giveBack_7 : decode cX12_giveBack 7 = .ok (.istore_n 2, 1) := dk_61 (bs_at BX12_giveBack_0 4 rfl)
theorem dX12_giveBack_8 : decode cX12_giveBack 8 = .ok (.iload_n 2, 1) := dk_28 (bs_at BX12_giveBack_0 5 rfl)
theorem dX12_giveBack_9 : decode cX12_giveBack 9 = .ok (.sipush 496, 3) := dk_17 1 240 (bs_at BX12_giveBack_0 6 rfl) rfl
theorem dX12_giveBack_12 : decode cX12_giveBack 12 = .ok (.if_icmp .ge 21, 3) := dk_162 0 21 (bs_at BX12_giveBack_0 7 rfl) rfl
theorem dX12_giveBack_15 : decode cX12_giveBack 15 = .ok (.aload_n 0, 1) := dk_42 (bs_at BX12_giveBack_0 8 rfl)
theorem dX12_giveBack_16 : decode cX12_giveBack 16 = .ok (.getfield 23, 3) := dk_180 0 23 (bs_at BX12_giveBack_0 9 rfl) rfl
theorem dX12_giveBack_19 : decode cX12_giveBack 19 = .ok (.iload_n 2, 1) := dk_28 (bs_at BX12_giveBack_0 10 rfl)
theorem dX12_giveBack_20 : decode cX12_giveBack 20 = .ok (.aload_n 0, 1) := dk_42 (bs_at BX12_giveBack_0 11 rfl)
theorem dX12_giveBack_21 : decode cX12_giveBack 21 = .ok (.getfield 29, 3) := dk_180 0 29 (bs_at BX12_giveBack_0 12 rfl) rfl
theorem dX12_giveBack_24 : decode cX12_giveBack 24 = .ok (.iload_n 2, 1) := dk_28 (bs_at BX12_giveBack_0 13 rfl)
theorem dX12_giveBack_25 : decode cX12_giveBack 25 = .ok (.iaload, 1) := dk_46 (bs_at BX12_giveBack_0 14 rfl)
theorem dX12_giveBack_26 : decode cX12_giveBack 26 = .ok (.iastore, 1) := dk_79 (bs_at BX12_giveBack_0 15 rfl)
theorem dX12_giveBack_27 : decode cX12_giveBack 27 = .ok (.iinc 2 1, 3) := dk_132 2 1 (bs_at BX12_giveBack_0 16 rfl) rfl
theorem dX12_giveBack_30 : decode cX12_giveBack 30 = .ok (.goto (-22), 3) := dk_167 255 234 (bs_at BX12_giveBack_0 17 rfl) rfl
theorem dX12_giveBack_33 : decode cX12_giveBack 33 = .ok (.iconst 0, 1) := dk_3 (bs_at BX12_giveBack_0 18 rfl)
theorem dX12_giveBack_34 : decode cX12_giveBack 34 = .ok (.istore_n 2, 1) := dk_61 (bs_at BX12_giveBack_0 19 rfl)
theorem dX12_giveBack_35 : decode cX12_giveBack 35 = .ok (.iload_n 2, 1) := dk_28 (bs_at BX12_giveBack_0 20 rfl)
theorem dX12_giveBack_36 : decode cX12_giveBack 36 = .ok (.bipush 16, 2) := dk_16 16 (bs_at BX12_giveBack_0 21 rfl) rfl
theorem dX12_giveBack_38 : decode cX12_giveBack 38 = .ok (.if_icmp .ge 21, 3) := dk_162 0 21 (bs_at BX12_giveBack_0 22 rfl) rfl
theorem dX12_giveBack_41 : decode cX12_giveBack 41 = .ok (.aload_n 0, 1) := dk_42 (bs_at BX12_giveBack_0 23 rfl)
theorem BX12_giveBack_42 : bsegs (ByteArray.data cX12_giveBack |>.toList.drop 42) 42 [(42, [180, 0, 26]), (45, [28]), (46, [42]), (47, [180, 0, 32]), (50, [28]), (51, [46]), (52, [79]), (53, [132, 2, 1]), (56, [167, 255, 235]), (59, [42]), (60, [27]), (61, [181, 0, 164]), (64, [177])] = true := by decide +kernel
theorem dX12_giveBack_42 : decode cX12_giveBack 42 = .ok (.getfield 26, 3) := dk_180 0 26 (bs_at BX12_giveBack_42 0 rfl) rfl
theorem dX12_giveBack_45 : decode cX12_giveBack 45 = .ok (.iload_n 2, 1) := dk_28 (bs_at BX12_giveBack_42 1 rfl)
theorem dX12_giveBack_46 : decode cX12_giveBack 46 = .ok (.aload_n 0, 1) := dk_42 (bs_at BX12_giveBack_42 2 rfl)
theorem dX12_giveBack_47 : decode cX12_giveBack 47 = .ok (.getfield 32, 3) := dk_180 0 32 (bs_at BX12_giveBack_42 3 rfl) rfl
theorem dX12_giveBack_50 : decode cX12_giveBack 50 = .ok (.iload_n 2, 1) := dk_28 (bs_at BX12_giveBack_42 4 rfl)
theorem dX12_giveBack_51 : decode cX12_giveBack 51 = .ok (.iaload, 1) := dk_46 (bs_at BX12_giveBack_42 5 rfl)
theorem dX12_giveBack_52 : decode cX12_giveBack 52 = .ok (.iastore, 1) := dk_79 (bs_at BX12_giveBack_42 6 rfl)
theorem dX12_giveBack_53 : decode cX12_giveBack 53 = .ok (.iinc 2 1, 3) := dk_132 2 1 (bs_at BX12_giveBack_42 7 rfl) rfl
theorem dX12_giveBack_56 : decode cX12_giveBack 56 = .ok (.goto (-21), 3) := dk_167 255 235 (bs_at BX12_giveBack_42 8 rfl) rfl
theorem dX12_giveBack_59 : decode cX12_giveBack 59 = .ok (.aload_n 0, 1) := dk_42 (bs_at BX12_giveBack_42 9 rfl)
theorem dX12_giveBack_60 : decode cX12_giveBack 60 = .ok (.iload_n 1, 1) := dk_27 (bs_at BX12_giveBack_42 10 rfl)
theorem dX12_giveBack_61 : decode cX12_giveBack 61 = .ok (.putfield 164, 3) := dk_181 0 164 (bs_at BX12_giveBack_42 11 rfl) rfl
theorem dX12_giveBack_64 : decode cX12_giveBack 64 = .ok (.return_, 1) := dk_177 (bs_at BX12_giveBack_42 12 rfl)
theorem ggX12_reckonAll_X12_isHouse : GoodIn wsX12_reckonAll wsX12_isHouse := gi_ch ch_X12_reckonAll ch_X12_isHouse (by decide +kernel)
theorem gX12_reckonAll_X12_isHouse : GoodIn wsX12_reckonAll (wsV RX12 197 RX12 yX12_isHouse wsX12_isHouse) := gi_ch ch_X12_reckonAll (ch_v [984, 985, 76, 156] rfl ch_X12_isHouse) (by decide +kernel)
theorem ggX12_reckonAll_X12_soundWith : GoodIn wsX12_reckonAll wsX12_soundWith := gi_ch ch_X12_reckonAll ch_X12_soundWith (by decide +kernel)
theorem gX12_reckonAll_X12_soundWith : GoodIn wsX12_reckonAll (wsV RX12 392 RX12 yX12_soundWith wsX12_soundWith) := gi_ch ch_X12_reckonAll (ch_v [1005, 1006, 83, 156] rfl ch_X12_soundWith) (by decide +kernel)
theorem ggX12_sumOf_X12_reckonAll : GoodIn wsX12_sumOf wsX12_reckonAll := gi_ch ch_X12_sumOf ch_X12_reckonAll (by decide +kernel)
theorem gX12_sumOf_X12_reckonAll : GoodIn wsX12_sumOf (wsV RX12 406 RX12 yX12_reckonAll wsX12_reckonAll) := gi_ch ch_X12_sumOf (ch_v [1002, 1003, 82, 156] rfl ch_X12_reckonAll) (by decide +kernel)
theorem ggX12_act_X12_stokeNow : GoodIn wsX12_act wsX12_stokeNow := gi_ch ch_X12_act ch_X12_stokeNow (by decide +kernel)
theorem gX12_act_X12_stokeNow : GoodIn wsX12_act (wsV RX12 454 RX12 yX12_stokeNow wsX12_stokeNow) := gi_ch ch_X12_act (ch_v [1199, 1200, 116, 156] rfl ch_X12_stokeNow) (by decide +kernel)
theorem ggX12_act_X12_dampNow : GoodIn wsX12_act wsX12_dampNow := gi_ch ch_X12_act ch_X12_dampNow (by decide +kernel)
theorem gX12_act_X12_dampNow : GoodIn wsX12_act (wsV RX12 457 RX12 yX12_dampNow wsX12_dampNow) := gi_ch ch_X12_act (ch_v [1221, 1222, 122, 156] rfl ch_X12_dampNow) (by decide +kernel)
theorem ggX12_act_X12_buyNow : GoodIn wsX12_act wsX12_buyNow := gi_ch ch_X12_act ch_X12_buyNow (by decide +kernel)
theorem gX12_act_X12_buyNow : GoodIn wsX12_act (wsV RX12 460 RX12 yX12_buyNow wsX12_buyNow) := gi_ch ch_X12_act (ch_v [1228, 1229, 123, 156] rfl ch_X12_buyNow) (by decide +kernel)
theorem ggX12_act_X12_passNow : GoodIn wsX12_act wsX12_passNow := gi_ch ch_X12_act ch_X12_passNow (by decide +kernel)
theorem gX12_act_X12_passNow : GoodIn wsX12_act (wsV RX12 473 RX12 yX12_passNow wsX12_passNow) := gi_ch ch_X12_act (ch_v [1235, 1236, 124, 156] rfl ch_X12_passNow) (by decide +kernel)
theorem ggX12_run_X12_term : GoodIn wsX12_run wsX12_term := gi_ch ch_X12_run ch_X12_term (by decide +kernel)
theorem gX12_run_X12_term : GoodIn wsX12_run (wsV RX12 182 RX12 yX12_term wsX12_term) := gi_ch ch_X12_run (ch_v [990, 991, 78, 156] rfl ch_X12_term) (by decide +kernel)
theorem ggX12_run_X12_sumOf : GoodIn wsX12_run wsX12_sumOf := gi_ch ch_X12_run ch_X12_sumOf (by decide +kernel)
theorem gX12_run_X12_sumOf : GoodIn wsX12_run (wsV RX12 538 RX12 yX12_sumOf wsX12_sumOf) := gi_ch ch_X12_run (ch_v [1339, 1340, 140, 156] rfl ch_X12_sumOf) (by decide +kernel)
theorem ggX12_run_X12_act : GoodIn wsX12_run wsX12_act := gi_ch ch_X12_run ch_X12_act (by decide +kernel)
theorem gX12_run_X12_act : GoodIn wsX12_run (wsV RX12 541 RX12 yX12_act wsX12_act) := gi_ch ch_X12_run (ch_v [1342, 1343, 141, 156] rfl ch_X12_act) (by decide +kernel)
theorem ggX12_giveBack_X12_putBack : GoodIn wsX12_giveBack wsX12_putBack := gi_ch ch_X12_giveBack ch_X12_putBack (by decide +kernel)
theorem gX12_giveBack_X12_putBack : GoodIn wsX12_giveBack (wsV RX12 175 RX12 yX12_putBack wsX12_putBack) := gi_ch ch_X12_giveBack (ch_v [958, 959, 75, 156] rfl ch_X12_putBack) (by decide +kernel)
set_option maxRecDepth 100000 in
noncomputable def E_v_reckonOrd_j370 (v_2398 : Int32) (v_2399 : Int32) (f_2400 : Nat → Int64) : Int32 × Int64 × (Nat → Int64) :=
  if v_2398 ≤ 0 then (((v_2399, 0, f_2400) : Int32 × Int64 × (Nat → Int64))) else (Lt (f_2400 (0 : Int32).toNatClampNeg : Int64) (fun x_2801 => ((v_2399, x_2801, f_2400) : Int32 × Int64 × (Nat → Int64))))
set_option maxRecDepth 100000 in
noncomputable def E_v_reckonOrd_l10 (y : Int32) (fw : Nat → Int32) (fnw : Nat → Int64) (fo : Nat → Int32) (fa : Nat → Int32) (rec_2715 : Int32 → Int32 → Int32 → (Nat → Int64) → (Int32 × Int64 × (Nat → Int64))) (v_2397 : Int32) (v_2398 : Int32) (v_2399 : Int32) (f_2400 : Nat → Int64) : Int32 × Int64 × (Nat → Int64) :=
  if y ≤ v_2397 then (E_v_reckonOrd_j370 v_2398 v_2399 f_2400) else (if v_2399 = 0 then (Lt (fo (v_2397 : Int32).toNatClampNeg : Int32) (fun x_2805 => Lt (fa (v_2397 : Int32).toNatClampNeg : Int32) (fun x_2807 => Lt (v_2397 + Int32.ofInt 1 : Int32) (fun x_2808 => if 20 ≤ x_2805 then (if 28 ≤ x_2805 then (if x_2805 = 28 then (Lt (v_2398 - 1 : Int32) (fun x_2819 => Lt (v_2398 - 1 : Int32) (fun x_2820 => Lt (f_2400 (x_2820 : Int32).toNatClampNeg : Int64) (fun x_2821 => Lt (1 - x_2821 : Int64) (fun x_2822 => Lt (vp_updL f_2400 (x_2819 : Int32).toNatClampNeg x_2822 : Nat → Int64) (fun f_2823 => rec_2715 x_2808 v_2398 v_2399 f_2823)))))) else (Lt (v_2398 - 1 : Int32) (fun x_2812 => Lt (f_2400 (x_2812 : Int32).toNatClampNeg : Int64) (fun x_2813 => if x_2805 = 29 then (if (lg_cmp x_2813 0) = 0 then (rec_2715 x_2807 v_2398 v_2399 f_2400) else (Lt (v_2398 + Int32.ofInt (-1) : Int32) (fun x_2818 => rec_2715 x_2808 x_2818 v_2399 f_2400))) else (if (lg_cmp x_2813 1) = 0 then (rec_2715 x_2807 v_2398 v_2399 f_2400) else (Lt (v_2398 + Int32.ofInt (-1) : Int32) (fun x_2816 => rec_2715 x_2808 x_2816 v_2399 f_2400))))))) else (Lt (v_2398 + Int32.ofInt (-1) : Int32) (fun x_2824 => Lt (x_2824 - 1 : Int32) (fun x_2825 => Lt (x_2824 - 1 : Int32) (fun x_2826 => Lt (f_2400 (x_2826 : Int32).toNatClampNeg : Int64) (fun x_2827 => Lt (f_2400 (x_2824 : Int32).toNatClampNeg : Int64) (fun x_2828 => Lt2 (E_v_reckon x_2805 x_2827 x_2828 v_2399) (fun r_2829 u_2830_2_2_2_1_0 => Lt (vp_updL f_2400 (x_2825 : Int32).toNatClampNeg r_2829 : Nat → Int64) (fun f_2833 => if u_2830_2_2_2_1_0 = 0 then (Lt (x_2824 - 1 : Int32) (fun x_2836 => Lt (f_2833 (x_2836 : Int32).toNatClampNeg : Int64) (fun x_2837 => Lt (E_v_in x_2837 (-1000000000) 1000000000) (fun r_2838 => if r_2838 = 1 then (rec_2715 x_2808 x_2824 0 f_2833) else (rec_2715 x_2808 x_2824 1 f_2833))))) else (rec_2715 x_2808 x_2824 1 f_2833)))))))))) else (if x_2805 = 0 then (Lt ((x_2807 : Int32).toInt64 : Int64) (fun x_2879 => Lt (vp_updL f_2400 (v_2398 : Int32).toNatClampNeg x_2879 : Nat → Int64) (fun f_2880 => Lt (v_2398 + Int32.ofInt 1 : Int32) (fun x_2881 => rec_2715 x_2808 x_2881 v_2399 f_2880)))) else (if 6 ≤ x_2805 then (if x_2805 = 8 then (Lt (E_v_soundWith x_2807 fw) (fun r_2870 => Lt ((r_2870 : Int32).toInt64 : Int64) (fun x_2873 => Lt (vp_updL f_2400 (v_2398 : Int32).toNatClampNeg x_2873 : Nat → Int64) (fun f_2874 => Lt (v_2398 + Int32.ofInt 1 : Int32) (fun x_2875 => rec_2715 x_2808 x_2875 v_2399 f_2874))))) else (Lt (E_v_isHouse x_2807 fw) (fun r_2851 => if r_2851 = 1 then (if x_2805 = 6 then (Lt (11 + x_2807 : Int32) (fun x_2862 => Lt (fw (x_2862 : Int32).toNatClampNeg : Int32) (fun x_2863 => Lt ((x_2863 : Int32).toInt64 : Int64) (fun x_2864 => Lt (vp_updL f_2400 (v_2398 : Int32).toNatClampNeg x_2864 : Nat → Int64) (fun f_2865 => Lt (v_2398 + Int32.ofInt 1 : Int32) (fun x_2866 => rec_2715 x_2808 x_2866 v_2399 f_2865)))))) else (Lt (19 + x_2807 : Int32) (fun x_2857 => Lt (fw (x_2857 : Int32).toNatClampNeg : Int32) (fun x_2858 => Lt ((x_2858 : Int32).toInt64 : Int64) (fun x_2859 => Lt (vp_updL f_2400 (v_2398 : Int32).toNatClampNeg x_2859 : Nat → Int64) (fun f_2860 => Lt (v_2398 + Int32.ofInt 1 : Int32) (fun x_2861 => rec_2715 x_2808 x_2861 v_2399 f_2860))))))) else (Lt (vp_updL f_2400 (v_2398 : Int32).toNatClampNeg (-1) : Nat → Int64) (fun f_2868 => Lt (v_2398 + Int32.ofInt 1 : Int32) (fun x_2869 => rec_2715 x_2808 x_2869 v_2399 f_2868)))))) else (Lt (fnw (x_2805 : Int32).toNatClampNeg : Int64) (fun x_2876 => Lt (vp_updL f_2400 (v_2398 : Int32).toNatClampNeg x_2876 : Nat → Int64) (fun f_2877 => Lt (v_2398 + Int32.ofInt 1 : Int32) (fun x_2878 => rec_2715 x_2808 x_2878 v_2399 f_2877)))))))))) else (E_v_reckonOrd_j370 v_2398 v_2399 f_2400))
set_option maxRecDepth 100000 in
noncomputable def E_v_reckonOrd (x : Int32) (y : Int32) (bro : Int32) (val : Int64) (fw : Nat → Int32) (fnw : Nat → Int64) (frs : Nat → Int64) (fo : Nat → Int32) (fa : Nat → Int32) : Int32 × Int64 × (Nat → Int64) :=
  Lp (α := Int32 → Int32 → Int32 → (Nat → Int64) → (Int32 × Int64 × (Nat → Int64))) (E_v_reckonOrd_l10 y fw fnw fo fa) (fun _ _ _ _ => ((0, 0, fun _ => 0) : Int32 × Int64 × (Nat → Int64))) ((y.toInt - (x : Int32).toInt + 1 : Int).toNat + 1) x 0 0 frs
set_option maxHeartbeats 4000000 in
set_option maxRecDepth 100000 in
theorem v_reckonOrd (l : Launch) (D : va_G) (K : Nat → ClassId) (m0 : Nat) (x : Int32) (y : Int32) (m_0 : Value) (m_1 : Value) (m_2 : Value) (w0 : Nat) (m_4 : Value) (m_5 : Value) (m_6 : Value) (m_7 : Value) (m_8 : Value) (m_9 : Value) (m_10 : Value) (m_11 : Value) (m_12 : Value) (m_13 : Value) (m_14 : Value) (m_15 : Value) (m_16 : Value) (m_17 : Value) (m_18 : Value) (m_19 : Value) (m_21 : Value) (m_22 : Value) (m_23 : Value) (xo : Nat) (xa : Nat) (m_26 : Value) (m_27 : Value) (m_28 : Value) (m_29 : Value) (m_30 : Value) (m_31 : Value) (m_32 : Value) (m_33 : Value) (m_34 : Value) (m_35 : Value) (nw : Nat) (q0 : Nat) (bro : Int32) (val : Int64) (m_40 : Value) (m_41 : Value) (m_42 : Value) (m_43 : Value) (m_44 : Value) (m_45 : Value) (m_46 : Value) (m_47 : Value) (m_48 : Value) (m_49 : Value) (m_50 : Value) (m_51 : Value) (m_52 : Value) (m_53 : Value) (m_54 : Value) (m_55 : Value) (m_56 : Value) (m_57 : Value) (m_58 : Value) (m_59 : Value) (fw : Nat → Int32) (gr : Nat → Int32) (fnw : Nat → Int64) (frs : Nat → Int64) (fo : Nat → Int32) (fa : Nat → Int32) (sz : Nat) (zbro : 0 ≤ bro.toInt ∧ bro.toInt ≤ 1) (hseg : Seg (fun k => (fo k.toNat).toInt) (fun k => (fa k.toNat).toInt) x.toInt y.toInt) (zfw : RwOK fw) (zgr : FzM gr fw) : Met l yX12_reckonAll wsX12_reckonAll ({ frames := 3, cells := 0, slots := 0, locals := 69 }) (va_Pc [.ref m0, .int x, .int y] (Pre D K [(cc_O m0 12 [m_0, m_1, m_2, .ref w0, m_4, m_5, m_6, m_7, m_8, m_9, m_10, m_11, m_12, m_13, m_14, m_15, m_16, m_17, m_18, m_19, .int 1, m_21, m_22, m_23, .ref xo, .ref xa, m_26, m_27, m_28, m_29, m_30, m_31, m_32, m_33, m_34, m_35, .ref nw, .ref q0, .int bro, .long val, m_40, m_41, m_42, m_43, m_44, m_45, m_46, m_47, m_48, m_49, m_50, m_51, m_52, m_53, m_54, m_55, m_56, m_57, m_58, m_59]), (cc_l w0 (K 0) 5500 fw), (cc_rl nw (K 2) 13 fnw), (cc_rl q0 (K 2) 400 frs), (cc_l xo (K 0) 400 fo), (cc_l xa (K 0) 400 fa)] sz)) (va_Qv (S := Su) (fun (u : Su) => (0 ≤ (u.2.2.2.1 0).toInt ∧ (u.2.2.2.1 0).toInt ≤ 1) ∧ (((u.2.2.2.1 0), (u.2.2.2.2.1 0), (u.2.2.1 0)) = E_v_reckonOrd x y bro val fw fnw frs fo fa) ∧ True) (fun u t => Wd D (va_A [(cc_O m0 12 [m_0, m_1, m_2, .ref w0, m_4, m_5, m_6, m_7, m_8, m_9, m_10, m_11, m_12, m_13, m_14, m_15, m_16, m_17, m_18, m_19, .int 1, m_21, m_22, m_23, .ref xo, .ref xa, m_26, m_27, m_28, m_29, m_30, m_31, m_32, m_33, m_34, m_35, .ref nw, .ref q0, .int bro, .long val, m_40, m_41, m_42, m_43, m_44, m_45, m_46, m_47, m_48, m_49, m_50, m_51, m_52, m_53, m_54, m_55, m_56, m_57, m_58, m_59]), (cc_l w0 (K 0) 5500 fw), (cc_rl nw (K 2) 13 fnw), (cc_rl q0 (K 2) 400 frs), (cc_l xo (K 0) 400 fo), (cc_l xa (K 0) 400 fa)] sz) ((fun u => [(cc_O m0 12 [m_0, m_1, m_2, .ref w0, m_4, m_5, m_6, m_7, m_8, m_9, m_10, m_11, m_12, m_13, m_14, m_15, m_16, m_17, m_18, m_19, .int 1, m_21, m_22, m_23, .ref xo, .ref xa, m_26, m_27, m_28, m_29, m_30, m_31, m_32, m_33, m_34, m_35, .ref nw, .ref q0, .int (u.2.2.2.1 0), .long (u.2.2.2.2.1 0), m_40, m_41, m_42, m_43, m_44, m_45, m_46, m_47, m_48, m_49, m_50, m_51, m_52, m_53, m_54, m_55, m_56, m_57, m_58, m_59]), (cc_l w0 (K 0) 5500 fw), (cc_rl nw (K 2) 13 fnw), (cc_rl q0 (K 2) 400 (u.2.2.1 0)), (cc_l xo (K 0) 400 fo), (cc_l xa (K 0) 400 fa)]) u) t) (va_A [(cc_O m0 12 [m_0, m_1, m_2, .ref w0, m_4, m_5, m_6, m_7, m_8, m_9, m_10, m_11, m_12, m_13, m_14, m_15, m_16, m_17, m_18, m_19, .int 1, m_21, m_22, m_23, .ref xo, .ref xa, m_26, m_27, m_28, m_29, m_30, m_31, m_32, m_33, m_34, m_35, .ref nw, .ref q0, .int bro, .long val, m_40, m_41, m_42, m_43, m_44, m_45, m_46, m_47, m_48, m_49, m_50, m_51, m_52, m_53, m_54, m_55, m_56, m_57, m_58, m_59]), (cc_l w0 (K 0) 5500 fw), (cc_rl nw (K 2) 13 fnw), (cc_rl q0 (K 2) 400 frs), (cc_l xo (K 0) 400 fo), (cc_l xa (K 0) 400 fa)] sz)) 0 0 (va_A [(cc_O m0 12 [m_0, m_1, m_2, .ref w0, m_4, m_5, m_6, m_7, m_8, m_9, m_10, m_11, m_12, m_13, m_14, m_15, m_16, m_17, m_18, m_19, .int 1, m_21, m_22, m_23, .ref xo, .ref xa, m_26, m_27, m_28, m_29, m_30, m_31, m_32, m_33, m_34, m_35, .ref nw, .ref q0, .int bro, .long val, m_40, m_41, m_42, m_43, m_44, m_45, m_46, m_47, m_48, m_49, m_50, m_51, m_52, m_53, m_54, m_55, m_56, m_57, m_58, m_59]), (cc_l w0 (K 0) 5500 fw), (cc_rl nw (K 2) 13 fnw), (cc_rl q0 (K 2) 400 frs), (cc_l xo (K 0) 400 fo), (cc_l xa (K 0) 400 fa)] sz) := by
  refine Met.ofW (cc := cX12_reckonAll) (maxL := 7) (ret := none) (by decide +kernel) rfl ?_
  intro p e s m args below meth c s₁ B hml hv
  obtain ⟨rfl, hsz, hP, hK, hD0, hN⟩ := hv
  have hx := B.exec
  have hb := B.bytes
  have hr := B.returns
  have hts := atoms_spec (ws := wsX12_reckonAll) B.pre
  have hown : s.vm.findClass RX12 = some m.cls := findClass_of_methodNamed B.named
  have hlocks := B.notSynchronized
  subst hsz
  have hD := hD0.self (sz := s.heap.size)
  generalize hAe : va_A [(cc_O m0 12 [m_0, m_1, m_2, .ref w0, m_4, m_5, m_6, m_7, m_8, m_9, m_10, m_11, m_12, m_13, m_14, m_15, m_16, m_17, m_18, m_19, .int 1, m_21, m_22, m_23, .ref xo, .ref xa, m_26, m_27, m_28, m_29, m_30, m_31, m_32, m_33, m_34, m_35, .ref nw, .ref q0, .int bro, .long val, m_40, m_41, m_42, m_43, m_44, m_45, m_46, m_47, m_48, m_49, m_50, m_51, m_52, m_53, m_54, m_55, m_56, m_57, m_58, m_59]), (cc_l w0 (K 0) 5500 fw), (cc_rl nw (K 2) 13 fnw), (cc_rl q0 (K 2) 400 frs), (cc_l xo (K 0) 400 fo), (cc_l xa (K 0) 400 fa)] s.heap.size = A at hD ⊢
  have hA : ∀ q : Nat, s.heap.size ≤ q → A q := fun q h => by rw [← hAe]; exact Or.inr h
  clear hAe
  have hS : va_S A s.heap s.heap [] := va_S.rf
  replace hP : va_P D vwCl [(cc_O m0 12 [m_0, m_1, m_2, .ref w0, m_4, m_5, m_6, m_7, m_8, m_9, m_10, m_11, m_12, m_13, m_14, m_15, m_16, m_17, m_18, m_19, .int 1, m_21, m_22, m_23, .ref xo, .ref xa, m_26, m_27, m_28, m_29, m_30, m_31, m_32, m_33, m_34, m_35, .ref nw, .ref q0, .int bro, .long val, m_40, m_41, m_42, m_43, m_44, m_45, m_46, m_47, m_48, m_49, m_50, m_51, m_52, m_53, m_54, m_55, m_56, m_57, m_58, m_59]), (cc_l w0 (K 0) 5500 fw), (cc_rl nw (K 2) 13 fnw), (cc_rl q0 (K 2) 400 frs), (cc_l xo (K 0) 400 fo), (cc_l xa (K 0) 400 fa)] s.heap := hP
  have hl := lv_entry [.ref m0, .int x, .int y] (n := 7) (Nat.le_of_ble_eq_true rfl)
  rw [lg_entry_eq]
  generalize (lg_sl [.ref m0, .int x, .int y] ++ List.replicate (7 - (lg_sl [.ref m0, .int x, .int y]).length) Slot.unset).toArray = ls at hl ⊢
  have hl : lv_has ls 7 [(0, .ref m0), (1, .int x), (2, .int y)] := hl
  have hw12 : ∀ w ∈ wsX120, w ∈ wsX12_reckonAll := fun w h => (List.mem_cons_of_mem _ (List.mem_append_right _ h))
  generalize hQ : MQ below _ _ s _ _ _ = Q
  have hE := E_v_reckonOrd.eq_def x y bro val fw fnw frs fo fa
  obtain ⟨z0, z1, z2, d, d0, d1, d2⟩ := hseg
  refine lv_aload_n hx hb dX12_reckonAll_0 rfl (lv_at hl 0 rfl) (lv_iconst (v := 0) hx hb dX12_reckonAll_1 (by decide +kernel) (va_put (ci := 12) (v := .int 0) (ty := .boolean) (C := RX12) (T := TX12) (N := 60) hx hb hts hw12 tyX12 tyX12_ok nmX12 hown hK hP hD hS 0 rfl rfl 38 (by decide +kernel) (hts _ mm_X12_reckonAll_868) (fun _ h9 => h9) rfl (by decide +kernel) (by first | rfl | decide) (by first | rfl | decide) (Nat.le_of_ble_eq_true rfl) dX12_reckonAll_2 (fun H locs hP0 hD0 hS0 => ?_)))
  replace hP : va_P D vwCl [(cc_O m0 12 [m_0, m_1, m_2, .ref w0, m_4, m_5, m_6, m_7, m_8, m_9, m_10, m_11, m_12, m_13, m_14, m_15, m_16, m_17, m_18, m_19, .int 1, m_21, m_22, m_23, .ref xo, .ref xa, m_26, m_27, m_28, m_29, m_30, m_31, m_32, m_33, m_34, m_35, .ref nw, .ref q0, .int 0, .long val, m_40, m_41, m_42, m_43, m_44, m_45, m_46, m_47, m_48, m_49, m_50, m_51, m_52, m_53, m_54, m_55, m_56, m_57, m_58, m_59]), (cc_l w0 (K 0) 5500 fw), (cc_rl nw (K 2) 13 fnw), (cc_rl q0 (K 2) 400 frs), (cc_l xo (K 0) 400 fo), (cc_l xa (K 0) 400 fa)] H := hP0
  replace hD := as_D hP hD0 rfl
  replace hS := hS0
  clear hP0 hD0 hS0
  refine lv_iconst (v := 0) hx hb dX12_reckonAll_5 (by decide +kernel) (lv_istore_n (lv' := [(3, .int 0), (0, .ref m0), (1, .int x), (2, .int y)]) hx hb dX12_reckonAll_6 rfl hl (by decide +kernel) rfl (fun ls hl => ?_))
  refine lv_iload_n hx hb dX12_reckonAll_7 rfl (lv_at hl 2 rfl) (lv_istore (lv' := [(4, .int x), (3, .int 0), (0, .ref m0), (1, .int x), (2, .int y)]) hx hb dX12_reckonAll_8 hl (by decide +kernel) rfl (fun ls hl => ?_))
  have lp_2715 : ∀ (nn_ : Nat) (v_2397 : Int32) (v_2398 : Int32) (v_2399 : Int32) (f_2400 : Nat → Int64) (hv_2397 : 0 ≤ v_2397.toInt ∧ v_2397.toInt ≤ 400) (hv_2398 : 0 ≤ v_2398.toInt ∧ v_2398.toInt ≤ 400) (hv_2399 : 0 ≤ v_2399.toInt ∧ v_2399.toInt ≤ 1) (hr0_lp_2715 : v_2398.toInt = d v_2397.toInt) (hr1_lp_2715 : x.toInt ≤ v_2397.toInt ∧ v_2397.toInt ≤ y.toInt) (hn : (y.toInt - v_2397.toInt + 1 : Int).toNat < nn_) (hE : E_v_reckonOrd x y bro val fw fnw frs fo fa = Lp (α := Int32 → Int32 → Int32 → (Nat → Int64) → (Int32 × Int64 × (Nat → Int64))) (E_v_reckonOrd_l10 y fw fnw fo fa) (fun _ _ _ _ => ((0, 0, fun _ => 0) : Int32 × Int64 × (Nat → Int64))) nn_ v_2397 v_2398 v_2399 f_2400) (H : Heap) (locs : List Loc) (hP : va_P D vwCl [(cc_O m0 12 [m_0, m_1, m_2, .ref w0, m_4, m_5, m_6, m_7, m_8, m_9, m_10, m_11, m_12, m_13, m_14, m_15, m_16, m_17, m_18, m_19, .int 1, m_21, m_22, m_23, .ref xo, .ref xa, m_26, m_27, m_28, m_29, m_30, m_31, m_32, m_33, m_34, m_35, .ref nw, .ref q0, .int v_2399, .long val, m_40, m_41, m_42, m_43, m_44, m_45, m_46, m_47, m_48, m_49, m_50, m_51, m_52, m_53, m_54, m_55, m_56, m_57, m_58, m_59]), (cc_l w0 (K 0) 5500 fw), (cc_rl nw (K 2) 13 fnw), (cc_rl q0 (K 2) 400 f_2400), (cc_l xo (K 0) 400 fo), (cc_l xa (K 0) 400 fa)] H) (hD : va_D A [(cc_O m0 12 [m_0, m_1, m_2, .ref w0, m_4, m_5, m_6, m_7, m_8, m_9, m_10, m_11, m_12, m_13, m_14, m_15, m_16, m_17, m_18, m_19, .int 1, m_21, m_22, m_23, .ref xo, .ref xa, m_26, m_27, m_28, m_29, m_30, m_31, m_32, m_33, m_34, m_35, .ref nw, .ref q0, .int v_2399, .long val, m_40, m_41, m_42, m_43, m_44, m_45, m_46, m_47, m_48, m_49, m_50, m_51, m_52, m_53, m_54, m_55, m_56, m_57, m_58, m_59]), (cc_l w0 (K 0) 5500 fw), (cc_rl nw (K 2) 13 fnw), (cc_rl q0 (K 2) 400 f_2400), (cc_l xo (K 0) 400 fo), (cc_l xa (K 0) 400 fa)]) (hS : va_S A s.heap H locs) (ls : Array Slot) (hl : lv_has ls 7 [(4, .int v_2397), (3, .int v_2398), (0, .ref m0), (2, .int y)]), W p l e ({ frames := 3, cells := 0, slots := 0, locals := 69 }) s m (([.ref m0, .int x, .int y] : List Value).toArray) below meth c H locs 0 0 Q (F0 m 10 ls []) := by
    clear hE hP hD hS hl
    intro nn_
    induction nn_ with
    | zero =>
      intro v_2397 v_2398 v_2399 f_2400 hv_2397 hv_2398 hv_2399 hr0_lp_2715 hr1_lp_2715 hn hE H locs hP hD hS ls hl
      exact absurd hn (Nat.not_lt_zero _)
    | succ nn_ ih_2716 =>
      intro v_2397 v_2398 v_2399 f_2400 hv_2397 hv_2398 hv_2399 hr0_lp_2715 hr1_lp_2715 hn hE H locs hP hD hS ls hl
      replace hE : E_v_reckonOrd x y bro val fw fnw frs fo fa = E_v_reckonOrd_l10 y fw fnw fo fa (Lp (α := Int32 → Int32 → Int32 → (Nat → Int64) → (Int32 × Int64 × (Nat → Int64))) (E_v_reckonOrd_l10 y fw fnw fo fa) (fun _ _ _ _ => ((0, 0, fun _ => 0) : Int32 × Int64 × (Nat → Int64))) nn_) v_2397 v_2398 v_2399 f_2400 := hE
      obtain ⟨rec_2715, hrec_2715⟩ : ∃ z9, z9 = Lp (α := Int32 → Int32 → Int32 → (Nat → Int64) → (Int32 × Int64 × (Nat → Int64))) (E_v_reckonOrd_l10 y fw fnw fo fa) (fun _ _ _ _ => ((0, 0, fun _ => 0) : Int32 × Int64 × (Nat → Int64))) nn_ := ⟨_, rfl⟩
      rw [← hrec_2715] at hE
      replace hE := hE.trans (E_v_reckonOrd_l10.eq_def _ _ _ _ _ _ _ _ _ _)
      refine lv_iload hx hb dX12_reckonAll_10 (lv_at hl 0 rfl) (lv_iload_n hx hb dX12_reckonAll_12 rfl (lv_at hl 3 rfl) ?_)
      have j_2799 : ∀ (hE : E_v_reckonOrd x y bro val fw fnw frs fo fa = E_v_reckonOrd_j370 v_2398 v_2399 f_2400) (H : Heap) (locs : List Loc) (hP : va_P D vwCl [(cc_O m0 12 [m_0, m_1, m_2, .ref w0, m_4, m_5, m_6, m_7, m_8, m_9, m_10, m_11, m_12, m_13, m_14, m_15, m_16, m_17, m_18, m_19, .int 1, m_21, m_22, m_23, .ref xo, .ref xa, m_26, m_27, m_28, m_29, m_30, m_31, m_32, m_33, m_34, m_35, .ref nw, .ref q0, .int v_2399, .long val, m_40, m_41, m_42, m_43, m_44, m_45, m_46, m_47, m_48, m_49, m_50, m_51, m_52, m_53, m_54, m_55, m_56, m_57, m_58, m_59]), (cc_l w0 (K 0) 5500 fw), (cc_rl nw (K 2) 13 fnw), (cc_rl q0 (K 2) 400 f_2400), (cc_l xo (K 0) 400 fo), (cc_l xa (K 0) 400 fa)] H) (hD : va_D A [(cc_O m0 12 [m_0, m_1, m_2, .ref w0, m_4, m_5, m_6, m_7, m_8, m_9, m_10, m_11, m_12, m_13, m_14, m_15, m_16, m_17, m_18, m_19, .int 1, m_21, m_22, m_23, .ref xo, .ref xa, m_26, m_27, m_28, m_29, m_30, m_31, m_32, m_33, m_34, m_35, .ref nw, .ref q0, .int v_2399, .long val, m_40, m_41, m_42, m_43, m_44, m_45, m_46, m_47, m_48, m_49, m_50, m_51, m_52, m_53, m_54, m_55, m_56, m_57, m_58, m_59]), (cc_l w0 (K 0) 5500 fw), (cc_rl nw (K 2) 13 fnw), (cc_rl q0 (K 2) 400 f_2400), (cc_l xo (K 0) 400 fo), (cc_l xa (K 0) 400 fa)]) (hS : va_S A s.heap H locs) (ls : Array Slot) (hl : lv_has ls 7 [(3, .int v_2398), (0, .ref m0)]), W p l e ({ frames := 3, cells := 0, slots := 0, locals := 69 }) s m (([.ref m0, .int x, .int y] : List Value).toArray) below meth c H locs 0 0 Q (F0 m 370 ls []) := by
        clear hE hP hD hS hl
        intro hE H locs hP hD hS ls hl
        replace hE := hE.trans (E_v_reckonOrd_j370.eq_def _ _ _)
        refine lv_aload_n hx hb dX12_reckonAll_370 rfl (lv_at hl 1 rfl) (lv_iload_n hx hb dX12_reckonAll_371 rfl (lv_at hl 0 rfl) (lv_if_le (tgt := 384) hx hb dX12_reckonAll_372 (by decide +kernel) (fun c_2800 => ?_) (fun c_2800 => ?_)))
        · have c_2800i := i_le (x := v_2398.toInt) (y := 0) rfl rfl c_2800
          replace hE := hE.trans (if_pos c_2800)
          refine lv_lconst (v := 0) hx hb dX12_reckonAll_384 (by decide +kernel) (va_put (ci := 12) (v := .long 0) (ty := .long) (C := RX12) (T := TX12) (N := 60) hx hb hts hw12 tyX12 tyX12_ok nmX12 hown hK hP hD hS 0 rfl rfl 39 (by decide +kernel) (hts _ mm_X12_reckonAll_869) (fun _ h9 => h9) rfl (by decide +kernel) (by first | rfl | decide) (by first | rfl | decide) (Nat.le_of_ble_eq_true rfl) dX12_reckonAll_385 (fun H locs hP0 hD0 hS0 => ?_))
          replace hP : va_P D vwCl [(cc_O m0 12 [m_0, m_1, m_2, .ref w0, m_4, m_5, m_6, m_7, m_8, m_9, m_10, m_11, m_12, m_13, m_14, m_15, m_16, m_17, m_18, m_19, .int 1, m_21, m_22, m_23, .ref xo, .ref xa, m_26, m_27, m_28, m_29, m_30, m_31, m_32, m_33, m_34, m_35, .ref nw, .ref q0, .int v_2399, .long 0, m_40, m_41, m_42, m_43, m_44, m_45, m_46, m_47, m_48, m_49, m_50, m_51, m_52, m_53, m_54, m_55, m_56, m_57, m_58, m_59]), (cc_l w0 (K 0) 5500 fw), (cc_rl nw (K 2) 13 fnw), (cc_rl q0 (K 2) 400 f_2400), (cc_l xo (K 0) 400 fo), (cc_l xa (K 0) 400 fa)] H := hP0
          replace hD := as_D hP hD0 rfl
          replace hS := hS0
          clear hP0 hD0 hS0
          rw [← hQ]
          have hP9 := hP.sub (ws' := [(cc_O m0 12 [m_0, m_1, m_2, .ref w0, m_4, m_5, m_6, m_7, m_8, m_9, m_10, m_11, m_12, m_13, m_14, m_15, m_16, m_17, m_18, m_19, .int 1, m_21, m_22, m_23, .ref xo, .ref xa, m_26, m_27, m_28, m_29, m_30, m_31, m_32, m_33, m_34, m_35, .ref nw, .ref q0, .int v_2399, .long 0, m_40, m_41, m_42, m_43, m_44, m_45, m_46, m_47, m_48, m_49, m_50, m_51, m_52, m_53, m_54, m_55, m_56, m_57, m_58, m_59]), (cc_l w0 (K 0) 5500 fw), (cc_rl nw (K 2) 13 fnw), (cc_rl q0 (K 2) 400 f_2400), (cc_l xo (K 0) 400 fo), (cc_l xa (K 0) 400 fa)]) [0, 1, 2, 3, 4, 5] rfl
          have hD9 := sub_D hP9 hD [0, 1, 2, 3, 4, 5] (by decide +kernel) rfl
          exact W.vret hx hb hr (fun t ht hW => ⟨⟨((fun _ => 0, fun _ => fun _ => 0, fun i => match i with | _ => f_2400, fun i => match i with | _ => v_2399, fun i => match i with | _ => 0, fun _ => fun _ => none) : Su), rfl, ⟨(show 0 ≤ (v_2399 : Int32).toInt ∧ (v_2399 : Int32).toInt ≤ 1 by omega), hE.symm, trivial⟩, (⟨by rw [ht]; exact hP9, hD9⟩ : Wd D A _ t)⟩, hS.F ht⟩) hS.2.2 dX12_reckonAll_388
        · have c_2800i := i_nle (x := v_2398.toInt) (y := 0) rfl rfl c_2800
          replace hE := hE.trans (if_neg c_2800)
          refine lv_aload_n hx hb dX12_reckonAll_375 rfl (lv_at hl 1 rfl) (va_get (ci := 12) (v := .ref q0) (C := RX12) (T := TX12) (N := 60) hx hb hts hw12 hown hK hP 0 rfl rfl 37 (by decide +kernel) (hts _ mm_X12_reckonAll_867) (fun _ h9 => h9) rfl dX12_reckonAll_376 (lv_iconst (v := 0) hx hb dX12_reckonAll_379 (by decide +kernel) (va_lald hx hb hK hP 3 2 rfl rfl (i_in (x := 0) rfl (by omega)) dX12_reckonAll_380 (lv_topl (fun x_2801 ex_2801 => ?_)))))
          replace hE := hE.trans (Lt_in ex_2801)
          refine lv_goto (tgt := 385) hx hb dX12_reckonAll_381 (by decide +kernel) (va_put (ci := 12) (v := .long x_2801) (ty := .long) (C := RX12) (T := TX12) (N := 60) hx hb hts hw12 tyX12 tyX12_ok nmX12 hown hK hP hD hS 0 rfl rfl 39 (by decide +kernel) (hts _ mm_X12_reckonAll_869) (fun _ h9 => h9) rfl (by decide +kernel) (by first | rfl | decide) (by first | rfl | decide) (Nat.le_of_ble_eq_true rfl) dX12_reckonAll_385 (fun H locs hP0 hD0 hS0 => ?_))
          replace hP : va_P D vwCl [(cc_O m0 12 [m_0, m_1, m_2, .ref w0, m_4, m_5, m_6, m_7, m_8, m_9, m_10, m_11, m_12, m_13, m_14, m_15, m_16, m_17, m_18, m_19, .int 1, m_21, m_22, m_23, .ref xo, .ref xa, m_26, m_27, m_28, m_29, m_30, m_31, m_32, m_33, m_34, m_35, .ref nw, .ref q0, .int v_2399, .long x_2801, m_40, m_41, m_42, m_43, m_44, m_45, m_46, m_47, m_48, m_49, m_50, m_51, m_52, m_53, m_54, m_55, m_56, m_57, m_58, m_59]), (cc_l w0 (K 0) 5500 fw), (cc_rl nw (K 2) 13 fnw), (cc_rl q0 (K 2) 400 f_2400), (cc_l xo (K 0) 400 fo), (cc_l xa (K 0) 400 fa)] H := hP0
          replace hD := as_D hP hD0 rfl
          replace hS := hS0
          clear hP0 hD0 hS0
          rw [← hQ]
          have hP9 := hP.sub (ws' := [(cc_O m0 12 [m_0, m_1, m_2, .ref w0, m_4, m_5, m_6, m_7, m_8, m_9, m_10, m_11, m_12, m_13, m_14, m_15, m_16, m_17, m_18, m_19, .int 1, m_21, m_22, m_23, .ref xo, .ref xa, m_26, m_27, m_28, m_29, m_30, m_31, m_32, m_33, m_34, m_35, .ref nw, .ref q0, .int v_2399, .long x_2801, m_40, m_41, m_42, m_43, m_44, m_45, m_46, m_47, m_48, m_49, m_50, m_51, m_52, m_53, m_54, m_55, m_56, m_57, m_58, m_59]), (cc_l w0 (K 0) 5500 fw), (cc_rl nw (K 2) 13 fnw), (cc_rl q0 (K 2) 400 f_2400), (cc_l xo (K 0) 400 fo), (cc_l xa (K 0) 400 fa)]) [0, 1, 2, 3, 4, 5] rfl
          have hD9 := sub_D hP9 hD [0, 1, 2, 3, 4, 5] (by decide +kernel) rfl
          exact W.vret hx hb hr (fun t ht hW => ⟨⟨((fun _ => 0, fun _ => fun _ => 0, fun i => match i with | _ => f_2400, fun i => match i with | _ => v_2399, fun i => match i with | _ => x_2801, fun _ => fun _ => none) : Su), rfl, ⟨(show 0 ≤ (v_2399 : Int32).toInt ∧ (v_2399 : Int32).toInt ≤ 1 by omega), hE.symm, trivial⟩, (⟨by rw [ht]; exact hP9, hD9⟩ : Wd D A _ t)⟩, hS.F ht⟩) hS.2.2 dX12_reckonAll_388
      refine lv_icmp_ge (tgt := 370) hx hb dX12_reckonAll_13 (by decide +kernel) (fun c_2802 => ?_) (fun c_2802 => ?_)
      · have c_2802i := i_le (x := y.toInt) (y := v_2397.toInt) rfl rfl c_2802
        replace hE := hE.trans (if_pos c_2802)
        exact j_2799   hE _ _ hP hD hS ls (lv_sub hl [1, 2] rfl)
      · have c_2802i := i_nle (x := y.toInt) (y := v_2397.toInt) rfl rfl c_2802
        replace hE := hE.trans (if_neg c_2802)
        refine lv_aload_n hx hb dX12_reckonAll_16 rfl (lv_at hl 2 rfl) (va_get (ci := 12) (v := .int v_2399) (C := RX12) (T := TX12) (N := 60) hx hb hts hw12 hown hK hP 0 rfl rfl 38 (by decide +kernel) (hts _ mm_X12_reckonAll_868) (fun _ h9 => h9) rfl dX12_reckonAll_17 (lv_if_ne (tgt := 370) hx hb dX12_reckonAll_20 (by decide +kernel) (fun c_2803 => ?_) (fun c_2803 => ?_)))
        · have c_2803i := i_ne (x := v_2399.toInt) (y := 0) rfl rfl c_2803
          replace hE := hE.trans (if_neg c_2803)
          exact j_2799   hE _ _ hP hD hS ls (lv_sub hl [1, 2] rfl)
        · have c_2803i := i_eq (x := v_2399.toInt) (y := 0) rfl rfl c_2803
          replace hE := hE.trans (if_pos c_2803)
          refine lv_aload_n hx hb dX12_reckonAll_23 rfl (lv_at hl 2 rfl) (va_get (ci := 12) (v := .int 1) (C := RX12) (T := TX12) (N := 60) hx hb hts hw12 hown hK hP 0 rfl rfl 20 (by decide +kernel) (hts _ mm_X12_reckonAll_850) (fun _ h9 => h9) rfl dX12_reckonAll_24 (lv_if_eq (tgt := 40) hx hb dX12_reckonAll_27 (by decide +kernel) (fun c_2804 => absurd c_2804 (by decide +kernel)) (fun c_2804 => ?_)))
          refine lv_aload_n hx hb dX12_reckonAll_30 rfl (lv_at hl 2 rfl) (va_get (ci := 12) (v := .ref xo) (C := RX12) (T := TX12) (N := 60) hx hb hts hw12 hown hK hP 0 rfl rfl 24 (by decide +kernel) (hts _ mm_X12_reckonAll_854) (fun _ h9 => h9) rfl dX12_reckonAll_31 (lv_iload hx hb dX12_reckonAll_34 (lv_at hl 0 rfl) (va_iald hx hb hK hP 4 0 rfl rfl (i_in rfl (by omega)) dX12_reckonAll_36 (lv_topi (fun x_2805 ex_2805 => ?_)))))
          replace hE := hE.trans (Lt_in ex_2805)
          have ox_2805 : x_2805.toInt = (fo (v_2397.toInt).toNat).toInt := by rw [ex_2805, i_clamp rfl]
          refine lv_goto (tgt := 57) hx hb dX12_reckonAll_37 (by decide +kernel) (lv_istore (lv' := [(5, .int x_2805), (4, .int v_2397), (3, .int v_2398), (0, .ref m0), (2, .int y)]) hx hb dX12_reckonAll_57 hl (by decide +kernel) rfl (fun ls hl => ?_))
          refine lv_aload_n hx hb dX12_reckonAll_59 rfl (lv_at hl 3 rfl) (va_get (ci := 12) (v := .int 1) (C := RX12) (T := TX12) (N := 60) hx hb hts hw12 hown hK hP 0 rfl rfl 20 (by decide +kernel) (hts _ mm_X12_reckonAll_850) (fun _ h9 => h9) rfl dX12_reckonAll_60 (lv_if_eq (tgt := 76) hx hb dX12_reckonAll_63 (by decide +kernel) (fun c_2806 => absurd c_2806 (by decide +kernel)) (fun c_2806 => ?_)))
          refine lv_aload_n hx hb dX12_reckonAll_66 rfl (lv_at hl 3 rfl) (va_get (ci := 12) (v := .ref xa) (C := RX12) (T := TX12) (N := 60) hx hb hts hw12 hown hK hP 0 rfl rfl 25 (by decide +kernel) (hts _ mm_X12_reckonAll_855) (fun _ h9 => h9) rfl dX12_reckonAll_67 (lv_iload hx hb dX12_reckonAll_70 (lv_at hl 1 rfl) (va_iald hx hb hK hP 5 0 rfl rfl (i_in rfl (by omega)) dX12_reckonAll_72 (lv_topi (fun x_2807 ex_2807 => ?_)))))
          replace hE := hE.trans (Lt_in ex_2807)
          have ox_2807 : x_2807.toInt = (fa (v_2397.toInt).toNat).toInt := by rw [ex_2807, i_clamp rfl]
          refine lv_goto (tgt := 95) hx hb dX12_reckonAll_73 (by decide +kernel) (lv_istore (lv' := [(6, .int x_2807), (5, .int x_2805), (4, .int v_2397), (3, .int v_2398), (0, .ref m0), (2, .int y)]) hx hb dX12_reckonAll_95 hl (by decide +kernel) rfl (fun ls hl => ?_))
          have hst : Sstp x_2805.toInt x_2807.toInt v_2397.toInt y.toInt d := by rw [ox_2805, ox_2807]; exact d2 v_2397.toInt (by omega) (by omega)
          unfold Sstp at hst
          have hdk := d1 v_2397.toInt (by omega) (by omega)
          have hdl := d1 (v_2397.toInt + 1) (by omega) (by omega)
          obtain ⟨x_2808, ex_2808⟩ : ∃ y : Int32, y = v_2397 + Int32.ofInt 1 := ⟨_, rfl⟩
          replace hE := hE.trans (Lt_in ex_2808)
          have hx_2808 : x_2808.toInt = (v_2397.toInt + 1) := by rw [ex_2808]; exact i_add rfl (show (Int32.ofInt 1).toInt = 1 from rfl) (by omega)
          refine lv_iinc (v := x_2808) (lv' := [(4, .int x_2808), (6, .int x_2807), (5, .int x_2805), (3, .int v_2398), (0, .ref m0), (2, .int y)]) hx hb dX12_reckonAll_97 hl (k := 2) rfl (by rw [ex_2808]) (by decide +kernel) rfl (fun ls hl => ?_)
          refine lv_iload hx hb dX12_reckonAll_100 (lv_at hl 2 rfl) (lv_bipush (v := 20) hx hb dX12_reckonAll_102 (by decide +kernel) (lv_icmp_ge (tgt := 228) hx hb dX12_reckonAll_104 (by decide +kernel) (fun c_2809 => ?_) (fun c_2809 => ?_)))
          · have c_2809i := i_le (x := 20) (y := x_2805.toInt) rfl rfl c_2809
            replace hE := hE.trans (if_pos c_2809)
            refine lv_iload hx hb dX12_reckonAll_228 (lv_at hl 2 rfl) (lv_bipush (v := 28) hx hb dX12_reckonAll_230 (by decide +kernel) (lv_icmp_ge (tgt := 305) hx hb dX12_reckonAll_232 (by decide +kernel) (fun c_2810 => ?_) (fun c_2810 => ?_)))
            · have c_2810i := i_le (x := 28) (y := x_2805.toInt) rfl rfl c_2810
              replace hE := hE.trans (if_pos c_2810)
              refine lv_iload hx hb dX12_reckonAll_305 (lv_at hl 2 rfl) (lv_bipush (v := 28) hx hb dX12_reckonAll_307 (by decide +kernel) (lv_icmp_ne (tgt := 333) hx hb dX12_reckonAll_309 (by decide +kernel) (fun c_2811 => ?_) (fun c_2811 => ?_)))
              · have c_2811i := i_ne (x := x_2805.toInt) (y := 28) rfl rfl c_2811
                replace hE := hE.trans (if_neg c_2811)
                replace hst : 1 ≤ d v_2397.toInt ∧ d (v_2397.toInt + 1) = d v_2397.toInt - 1 ∧ v_2397.toInt < x_2807.toInt ∧ x_2807.toInt ≤ y.toInt ∧ d x_2807.toInt = d v_2397.toInt := by omega
                refine lv_aload_n hx hb dX12_reckonAll_333 rfl (lv_at hl 4 rfl) (va_get (ci := 12) (v := .ref q0) (C := RX12) (T := TX12) (N := 60) hx hb hts hw12 hown hK hP 0 rfl rfl 37 (by decide +kernel) (hts _ mm_X12_reckonAll_867) (fun _ h9 => h9) rfl dX12_reckonAll_334 (lv_iload_n hx hb dX12_reckonAll_337 rfl (lv_at hl 3 rfl) (lv_iconst (v := 1) hx hb dX12_reckonAll_338 (by decide +kernel) (lv_isub hx hb dX12_reckonAll_339 (lv_topi (fun x_2812 ex_2812 => ?_))))))
                replace hE := hE.trans (Lt_in ex_2812)
                have hx_2812 : x_2812.toInt = (v_2398.toInt - 1) := by rw [ex_2812]; exact i_sub rfl (show (1 : Int32).toInt = 1 from rfl) (by omega)
                refine va_lald hx hb hK hP 3 2 rfl rfl (i_in hx_2812 (by omega)) dX12_reckonAll_340 (lv_topl (fun x_2813 ex_2813 => ?_))
                replace hE := hE.trans (Lt_in ex_2813)
                refine lv_iload hx hb dX12_reckonAll_341 (lv_at hl 2 rfl) (lv_bipush (v := 29) hx hb dX12_reckonAll_343 (by decide +kernel) (lv_icmp_ne (tgt := 352) hx hb dX12_reckonAll_345 (by decide +kernel) (fun c_2814 => ?_) (fun c_2814 => ?_)))
                · have c_2814i := i_ne (x := x_2805.toInt) (y := 29) rfl rfl c_2814
                  replace hE := hE.trans (if_neg c_2814)
                  refine lv_lconst (v := 1) hx hb dX12_reckonAll_352 (by decide +kernel) ?_
                  refine W.lcmp hx hb dX12_reckonAll_353 ?_
                  refine lv_if_ne (tgt := 364) hx hb dX12_reckonAll_354 (by decide +kernel) (fun c_2815 => ?_) (fun c_2815 => ?_)
                  · have c_2815i := l_ne (x := x_2813.toInt) (y := 1) rfl rfl (fun q => c_2815 ((lg_cmp_eq x_2813 1).mpr q))
                    replace hE := hE.trans (if_neg c_2815)
                    obtain ⟨x_2816, ex_2816⟩ : ∃ y : Int32, y = v_2398 + Int32.ofInt (-1) := ⟨_, rfl⟩
                    replace hE := hE.trans (Lt_in ex_2816)
                    have hx_2816 : x_2816.toInt = (v_2398.toInt + (-1)) := by rw [ex_2816]; exact i_add rfl (show (Int32.ofInt (-1)).toInt = (-1) from rfl) (by omega)
                    refine lv_iinc (v := x_2816) (lv' := [(3, .int x_2816), (4, .int x_2808), (6, .int x_2807), (5, .int x_2805), (0, .ref m0), (2, .int y)]) hx hb dX12_reckonAll_364 hl (k := 3) rfl (by rw [ex_2816]) (by decide +kernel) rfl (fun ls hl => ?_)
                    refine lv_goto (tgt := 10) hx hb dX12_reckonAll_367 (by decide +kernel) ?_
                    exact ih_2716 x_2808 x_2816 v_2399 f_2400 (by rw [hx_2808]; omega) (by rw [hx_2816]; omega) (by omega) (show (x_2816 : Int32).toInt = d (x_2808 : Int32).toInt by rw [hx_2808]; omega) (show x.toInt ≤ (x_2808 : Int32).toInt ∧ (x_2808 : Int32).toInt ≤ y.toInt by omega) (by omega) (hE.trans (by rw [hrec_2715])) _ _ hP hD hS ls (lv_sub hl [1, 0, 4, 5] rfl)
                  · have c_2815i := l_eq (x := x_2813.toInt) (y := 1) rfl rfl ((lg_cmp_eq x_2813 1).mp c_2815)
                    replace hE := hE.trans (if_pos c_2815)
                    refine lv_iload hx hb dX12_reckonAll_357 (lv_at hl 1 rfl) (lv_istore (lv' := [(4, .int x_2807), (6, .int x_2807), (5, .int x_2805), (3, .int v_2398), (0, .ref m0), (2, .int y)]) hx hb dX12_reckonAll_359 hl (by decide +kernel) rfl (fun ls hl => ?_))
                    refine lv_goto (tgt := 367) hx hb dX12_reckonAll_361 (by decide +kernel) (lv_goto (tgt := 10) hx hb dX12_reckonAll_367 (by decide +kernel) ?_)
                    exact ih_2716 x_2807 v_2398 v_2399 f_2400 (by omega) (by omega) (by omega) (show (v_2398 : Int32).toInt = d (x_2807 : Int32).toInt by omega) (show x.toInt ≤ (x_2807 : Int32).toInt ∧ (x_2807 : Int32).toInt ≤ y.toInt by omega) (by omega) (hE.trans (by rw [hrec_2715])) _ _ hP hD hS ls (lv_sub hl [0, 3, 4, 5] rfl)
                · have c_2814i := i_eq (x := x_2805.toInt) (y := 29) rfl rfl c_2814
                  replace hE := hE.trans (if_pos c_2814)
                  refine lv_lconst (v := 0) hx hb dX12_reckonAll_348 (by decide +kernel) (lv_goto (tgt := 353) hx hb dX12_reckonAll_349 (by decide +kernel) ?_)
                  refine W.lcmp hx hb dX12_reckonAll_353 ?_
                  refine lv_if_ne (tgt := 364) hx hb dX12_reckonAll_354 (by decide +kernel) (fun c_2817 => ?_) (fun c_2817 => ?_)
                  · have c_2817i := l_ne (x := x_2813.toInt) (y := 0) rfl rfl (fun q => c_2817 ((lg_cmp_eq x_2813 0).mpr q))
                    replace hE := hE.trans (if_neg c_2817)
                    obtain ⟨x_2818, ex_2818⟩ : ∃ y : Int32, y = v_2398 + Int32.ofInt (-1) := ⟨_, rfl⟩
                    replace hE := hE.trans (Lt_in ex_2818)
                    have hx_2818 : x_2818.toInt = (v_2398.toInt + (-1)) := by rw [ex_2818]; exact i_add rfl (show (Int32.ofInt (-1)).toInt = (-1) from rfl) (by omega)
                    refine lv_iinc (v := x_2818) (lv' := [(3, .int x_2818), (4, .int x_2808), (6, .int x_2807), (5, .int x_2805), (0, .ref m0), (2, .int y)]) hx hb dX12_reckonAll_364 hl (k := 3) rfl (by rw [ex_2818]) (by decide +kernel) rfl (fun ls hl => ?_)
                    refine lv_goto (tgt := 10) hx hb dX12_reckonAll_367 (by decide +kernel) ?_
                    exact ih_2716 x_2808 x_2818 v_2399 f_2400 (by rw [hx_2808]; omega) (by rw [hx_2818]; omega) (by omega) (show (x_2818 : Int32).toInt = d (x_2808 : Int32).toInt by rw [hx_2808]; omega) (show x.toInt ≤ (x_2808 : Int32).toInt ∧ (x_2808 : Int32).toInt ≤ y.toInt by omega) (by omega) (hE.trans (by rw [hrec_2715])) _ _ hP hD hS ls (lv_sub hl [1, 0, 4, 5] rfl)
                  · have c_2817i := l_eq (x := x_2813.toInt) (y := 0) rfl rfl ((lg_cmp_eq x_2813 0).mp c_2817)
                    replace hE := hE.trans (if_pos c_2817)
                    refine lv_iload hx hb dX12_reckonAll_357 (lv_at hl 1 rfl) (lv_istore (lv' := [(4, .int x_2807), (6, .int x_2807), (5, .int x_2805), (3, .int v_2398), (0, .ref m0), (2, .int y)]) hx hb dX12_reckonAll_359 hl (by decide +kernel) rfl (fun ls hl => ?_))
                    refine lv_goto (tgt := 367) hx hb dX12_reckonAll_361 (by decide +kernel) (lv_goto (tgt := 10) hx hb dX12_reckonAll_367 (by decide +kernel) ?_)
                    exact ih_2716 x_2807 v_2398 v_2399 f_2400 (by omega) (by omega) (by omega) (show (v_2398 : Int32).toInt = d (x_2807 : Int32).toInt by omega) (show x.toInt ≤ (x_2807 : Int32).toInt ∧ (x_2807 : Int32).toInt ≤ y.toInt by omega) (by omega) (hE.trans (by rw [hrec_2715])) _ _ hP hD hS ls (lv_sub hl [0, 3, 4, 5] rfl)
              · have c_2811i := i_eq (x := x_2805.toInt) (y := 28) rfl rfl c_2811
                replace hE := hE.trans (if_pos c_2811)
                replace hst : 1 ≤ d v_2397.toInt ∧ d (v_2397.toInt + 1) = d v_2397.toInt := by omega
                refine lv_aload_n hx hb dX12_reckonAll_312 rfl (lv_at hl 4 rfl) (va_get (ci := 12) (v := .ref q0) (C := RX12) (T := TX12) (N := 60) hx hb hts hw12 hown hK hP 0 rfl rfl 37 (by decide +kernel) (hts _ mm_X12_reckonAll_867) (fun _ h9 => h9) rfl dX12_reckonAll_313 (lv_iload_n hx hb dX12_reckonAll_316 rfl (lv_at hl 3 rfl) (lv_iconst (v := 1) hx hb dX12_reckonAll_317 (by decide +kernel) (lv_isub hx hb dX12_reckonAll_318 (lv_topi (fun x_2819 ex_2819 => ?_))))))
                replace hE := hE.trans (Lt_in ex_2819)
                have hx_2819 : x_2819.toInt = (v_2398.toInt - 1) := by rw [ex_2819]; exact i_sub rfl (show (1 : Int32).toInt = 1 from rfl) (by omega)
                refine lv_lconst (v := 1) hx hb dX12_reckonAll_319 (by decide +kernel) (lv_aload_n hx hb dX12_reckonAll_320 rfl (lv_at hl 4 rfl) (va_get (ci := 12) (v := .ref q0) (C := RX12) (T := TX12) (N := 60) hx hb hts hw12 hown hK hP 0 rfl rfl 37 (by decide +kernel) (hts _ mm_X12_reckonAll_867) (fun _ h9 => h9) rfl dX12_reckonAll_321 (lv_iload_n hx hb dX12_reckonAll_324 rfl (lv_at hl 3 rfl) (lv_iconst (v := 1) hx hb dX12_reckonAll_325 (by decide +kernel) (lv_isub hx hb dX12_reckonAll_326 (lv_topi (fun x_2820 ex_2820 => ?_)))))))
                replace hE := hE.trans (Lt_in ex_2820)
                have hx_2820 : x_2820.toInt = (v_2398.toInt - 1) := by rw [ex_2820]; exact i_sub rfl (show (1 : Int32).toInt = 1 from rfl) (by omega)
                refine va_lald hx hb hK hP 3 2 rfl rfl (i_in hx_2820 (by omega)) dX12_reckonAll_327 (lv_topl (fun x_2821 ex_2821 => ?_))
                replace hE := hE.trans (Lt_in ex_2821)
                refine lv_lsub hx hb dX12_reckonAll_328 (lv_topl (fun x_2822 ex_2822 => ?_))
                replace hE := hE.trans (Lt_in ex_2822)
                refine va_last hx hb hK hP hD hS 3 2 rfl rfl (i_in hx_2819 (by omega)) dX12_reckonAll_329 (fun H locs hP0 hD0 hS0 => ?_)
                replace hP := hP0
                replace hD := hD0
                replace hS := hS0
                clear hP0 hD0 hS0
                generalize hf_2823 : (vp_updL f_2400 (x_2819 : Int32).toNatClampNeg x_2822) = f_2823 at hP hD
                replace hE := hE.trans (Lt_in hf_2823.symm)
                replace hP : va_P D vwCl [(cc_O m0 12 [m_0, m_1, m_2, .ref w0, m_4, m_5, m_6, m_7, m_8, m_9, m_10, m_11, m_12, m_13, m_14, m_15, m_16, m_17, m_18, m_19, .int 1, m_21, m_22, m_23, .ref xo, .ref xa, m_26, m_27, m_28, m_29, m_30, m_31, m_32, m_33, m_34, m_35, .ref nw, .ref q0, .int v_2399, .long val, m_40, m_41, m_42, m_43, m_44, m_45, m_46, m_47, m_48, m_49, m_50, m_51, m_52, m_53, m_54, m_55, m_56, m_57, m_58, m_59]), (cc_l w0 (K 0) 5500 fw), (cc_rl nw (K 2) 13 fnw), (cc_rl q0 (K 2) 400 f_2823), (cc_l xo (K 0) 400 fo), (cc_l xa (K 0) 400 fa)] H := hP
                replace hD := as_D hP hD rfl
                refine lv_goto (tgt := 367) hx hb dX12_reckonAll_330 (by decide +kernel) (lv_goto (tgt := 10) hx hb dX12_reckonAll_367 (by decide +kernel) ?_)
                exact ih_2716 x_2808 v_2398 v_2399 f_2823 (by rw [hx_2808]; omega) (by omega) (by omega) (show (v_2398 : Int32).toInt = d (x_2808 : Int32).toInt by rw [hx_2808]; omega) (show x.toInt ≤ (x_2808 : Int32).toInt ∧ (x_2808 : Int32).toInt ≤ y.toInt by omega) (by omega) (hE.trans (by rw [hrec_2715])) _ _ hP hD hS ls (lv_sub hl [0, 3, 4, 5] rfl)
            · have c_2810i := i_nle (x := 28) (y := x_2805.toInt) rfl rfl c_2810
              replace hE := hE.trans (if_neg c_2810)
              replace hst : 2 ≤ d v_2397.toInt ∧ d (v_2397.toInt + 1) = d v_2397.toInt - 1 := by omega
              obtain ⟨x_2824, ex_2824⟩ : ∃ y : Int32, y = v_2398 + Int32.ofInt (-1) := ⟨_, rfl⟩
              replace hE := hE.trans (Lt_in ex_2824)
              have hx_2824 : x_2824.toInt = (v_2398.toInt + (-1)) := by rw [ex_2824]; exact i_add rfl (show (Int32.ofInt (-1)).toInt = (-1) from rfl) (by omega)
              refine lv_iinc (v := x_2824) (lv' := [(3, .int x_2824), (4, .int x_2808), (6, .int x_2807), (5, .int x_2805), (0, .ref m0), (2, .int y)]) hx hb dX12_reckonAll_235 hl (k := 3) rfl (by rw [ex_2824]) (by decide +kernel) rfl (fun ls hl => ?_)
              refine lv_aload_n hx hb dX12_reckonAll_238 rfl (lv_at hl 4 rfl) (va_get (ci := 12) (v := .ref q0) (C := RX12) (T := TX12) (N := 60) hx hb hts hw12 hown hK hP 0 rfl rfl 37 (by decide +kernel) (hts _ mm_X12_reckonAll_867) (fun _ h9 => h9) rfl dX12_reckonAll_239 (lv_iload_n hx hb dX12_reckonAll_242 rfl (lv_at hl 0 rfl) (lv_iconst (v := 1) hx hb dX12_reckonAll_243 (by decide +kernel) (lv_isub hx hb dX12_reckonAll_244 (lv_topi (fun x_2825 ex_2825 => ?_))))))
              replace hE := hE.trans (Lt_in ex_2825)
              have hx_2825 : x_2825.toInt = ((v_2398.toInt + (-1)) - 1) := by rw [ex_2825]; exact i_sub hx_2824 (show (1 : Int32).toInt = 1 from rfl) (by omega)
              refine lv_aload_n hx hb dX12_reckonAll_245 rfl (lv_at hl 4 rfl) (lv_iload hx hb dX12_reckonAll_246 (lv_at hl 3 rfl) (lv_aload_n hx hb dX12_reckonAll_248 rfl (lv_at hl 4 rfl) (va_get (ci := 12) (v := .ref q0) (C := RX12) (T := TX12) (N := 60) hx hb hts hw12 hown hK hP 0 rfl rfl 37 (by decide +kernel) (hts _ mm_X12_reckonAll_867) (fun _ h9 => h9) rfl dX12_reckonAll_249 (lv_iload_n hx hb dX12_reckonAll_252 rfl (lv_at hl 0 rfl) (lv_iconst (v := 1) hx hb dX12_reckonAll_253 (by decide +kernel) (lv_isub hx hb dX12_reckonAll_254 (lv_topi (fun x_2826 ex_2826 => ?_))))))))
              replace hE := hE.trans (Lt_in ex_2826)
              have hx_2826 : x_2826.toInt = ((v_2398.toInt + (-1)) - 1) := by rw [ex_2826]; exact i_sub hx_2824 (show (1 : Int32).toInt = 1 from rfl) (by omega)
              refine va_lald hx hb hK hP 3 2 rfl rfl (i_in hx_2826 (by omega)) dX12_reckonAll_255 (lv_topl (fun x_2827 ex_2827 => ?_))
              replace hE := hE.trans (Lt_in ex_2827)
              refine lv_aload_n hx hb dX12_reckonAll_256 rfl (lv_at hl 4 rfl) (va_get (ci := 12) (v := .ref q0) (C := RX12) (T := TX12) (N := 60) hx hb hts hw12 hown hK hP 0 rfl rfl 37 (by decide +kernel) (hts _ mm_X12_reckonAll_867) (fun _ h9 => h9) rfl dX12_reckonAll_257 (lv_iload_n hx hb dX12_reckonAll_260 rfl (lv_at hl 0 rfl) (va_lald hx hb hK hP 3 2 rfl rfl (i_in hx_2824 (by omega)) dX12_reckonAll_261 (lv_topl (fun x_2828 ex_2828 => ?_)))))
              replace hE := hE.trans (Lt_in ex_2828)
              refine kcl (S := Su) (wr := [(cc_l w0 (K 0) 5500 fw), (cc_rl nw (K 2) 13 fnw), (cc_rl q0 (K 2) 400 f_2400), (cc_l xo (K 0) 400 fo), (cc_l xa (K 0) 400 fa)]) (va_runV (As := [.int x_2805, .long x_2827, .long x_2828]) (rest := [.int x_2825, .ref q0]) ⟨hx, hb, hml, hown, hts⟩ (v_reckon l D K m0 x_2805 x_2827 x_2828 m_0 m_1 m_2 (.ref w0) m_4 m_5 m_6 m_7 m_8 m_9 m_10 m_11 m_12 m_13 m_14 m_15 m_16 m_17 m_18 m_19 (.int 1) m_21 m_22 m_23 (.ref xo) (.ref xa) m_26 m_27 m_28 m_29 m_30 m_31 m_32 m_33 m_34 m_35 (.ref nw) (.ref q0) v_2399 (.long val) m_40 m_41 m_42 m_43 m_44 m_45 m_46 m_47 m_48 m_49 m_50 m_51 m_52 m_53 m_54 m_55 m_56 m_57 m_58 m_59 H.size (by first | omega | decide)) (cwV 3 hts gX12_reckonAll_X12_reckon rfl rfl rfl (by decide +kernel) ⟨Nat.le_of_ble_eq_true rfl, Nat.le_of_ble_eq_true rfl⟩) (mkV hK hN (hP.sub [0] rfl) (hD.sub [0] (by decide +kernel) rfl) (ci := 12) (q0 := 0) rfl rfl) rfl rfl hl.1 rfl (lv_room (Nat.le_of_ble_eq_true rfl)) dX12_reckonAll_262 ⟨Nat.le_of_ble_eq_true rfl, Nat.le_of_ble_eq_true rfl⟩) hP hD hS hA [0] [1, 2, 3, 4, 5] rfl rfl (by decide +kernel) (by decide +kernel) (fun r_2829 u_2830 H locs hw hP0 hD0 hS0 => ?_)
              replace hP : va_P D vwCl [(cc_l w0 (K 0) 5500 fw), (cc_rl nw (K 2) 13 fnw), (cc_rl q0 (K 2) 400 f_2400), (cc_l xo (K 0) 400 fo), (cc_l xa (K 0) 400 fa), (cc_O m0 12 [m_0, m_1, m_2, .ref w0, m_4, m_5, m_6, m_7, m_8, m_9, m_10, m_11, m_12, m_13, m_14, m_15, m_16, m_17, m_18, m_19, .int 1, m_21, m_22, m_23, .ref xo, .ref xa, m_26, m_27, m_28, m_29, m_30, m_31, m_32, m_33, m_34, m_35, .ref nw, .ref q0, .int (u_2830.2.2.2.1 0), .long val, m_40, m_41, m_42, m_43, m_44, m_45, m_46, m_47, m_48, m_49, m_50, m_51, m_52, m_53, m_54, m_55, m_56, m_57, m_58, m_59])] H := hP0
              replace hD := as_D hP hD0 rfl
              replace hS := hS0
              clear hP0 hD0 hS0
              obtain ⟨k_2831, k_2832, -⟩ := hw
              replace hE := hE.trans (Lt2_in k_2832)
              refine va_last hx hb hK hP hD hS 2 2 rfl rfl (i_in hx_2825 (by omega)) dX12_reckonAll_265 (fun H locs hP0 hD0 hS0 => ?_)
              replace hP := hP0
              replace hD := hD0
              replace hS := hS0
              clear hP0 hD0 hS0
              generalize hf_2833 : (vp_updL f_2400 (x_2825 : Int32).toNatClampNeg r_2829) = f_2833 at hP hD
              replace hE := hE.trans (Lt_in hf_2833.symm)
              replace hP : va_P D vwCl [(cc_l w0 (K 0) 5500 fw), (cc_rl nw (K 2) 13 fnw), (cc_rl q0 (K 2) 400 f_2833), (cc_l xo (K 0) 400 fo), (cc_l xa (K 0) 400 fa), (cc_O m0 12 [m_0, m_1, m_2, .ref w0, m_4, m_5, m_6, m_7, m_8, m_9, m_10, m_11, m_12, m_13, m_14, m_15, m_16, m_17, m_18, m_19, .int 1, m_21, m_22, m_23, .ref xo, .ref xa, m_26, m_27, m_28, m_29, m_30, m_31, m_32, m_33, m_34, m_35, .ref nw, .ref q0, .int (u_2830.2.2.2.1 0), .long val, m_40, m_41, m_42, m_43, m_44, m_45, m_46, m_47, m_48, m_49, m_50, m_51, m_52, m_53, m_54, m_55, m_56, m_57, m_58, m_59])] H := hP
              replace hD := as_D hP hD rfl
              refine lv_aload_n hx hb dX12_reckonAll_266 rfl (lv_at hl 4 rfl) (lv_aload_n hx hb dX12_reckonAll_267 rfl (lv_at hl 4 rfl) (va_get (ci := 12) (v := .int (u_2830.2.2.2.1 0)) (C := RX12) (T := TX12) (N := 60) hx hb hts hw12 hown hK hP 5 rfl rfl 38 (by decide +kernel) (hts _ mm_X12_reckonAll_868) (fun _ h9 => h9) rfl dX12_reckonAll_268 (lv_if_ne (tgt := 294) hx hb dX12_reckonAll_271 (by decide +kernel) (fun c_2834 => ?_) (fun c_2834 => ?_))))
              · have c_2834i := i_ne (x := (u_2830.2.2.2.1 0).toInt) (y := 0) rfl rfl c_2834
                replace hE := hE.trans (if_neg c_2834)
                refine lv_iconst (v := 1) hx hb dX12_reckonAll_294 (by decide +kernel) (lv_goto (tgt := 299) hx hb dX12_reckonAll_295 (by decide +kernel) (va_put (ci := 12) (v := .int 1) (ty := .boolean) (C := RX12) (T := TX12) (N := 60) hx hb hts hw12 tyX12 tyX12_ok nmX12 hown hK hP hD hS 5 rfl rfl 38 (by decide +kernel) (hts _ mm_X12_reckonAll_868) (fun _ h9 => h9) rfl (by decide +kernel) (by first | rfl | decide) (by first | rfl | decide) (Nat.le_of_ble_eq_true rfl) dX12_reckonAll_299 (fun H locs hP0 hD0 hS0 => ?_)))
                replace hP : va_P D vwCl [(cc_l w0 (K 0) 5500 fw), (cc_rl nw (K 2) 13 fnw), (cc_rl q0 (K 2) 400 f_2833), (cc_l xo (K 0) 400 fo), (cc_l xa (K 0) 400 fa), (cc_O m0 12 [m_0, m_1, m_2, .ref w0, m_4, m_5, m_6, m_7, m_8, m_9, m_10, m_11, m_12, m_13, m_14, m_15, m_16, m_17, m_18, m_19, .int 1, m_21, m_22, m_23, .ref xo, .ref xa, m_26, m_27, m_28, m_29, m_30, m_31, m_32, m_33, m_34, m_35, .ref nw, .ref q0, .int 1, .long val, m_40, m_41, m_42, m_43, m_44, m_45, m_46, m_47, m_48, m_49, m_50, m_51, m_52, m_53, m_54, m_55, m_56, m_57, m_58, m_59])] H := hP0
                replace hD := as_D hP hD0 rfl
                replace hS := hS0
                clear hP0 hD0 hS0
                refine lv_goto (tgt := 367) hx hb dX12_reckonAll_302 (by decide +kernel) (lv_goto (tgt := 10) hx hb dX12_reckonAll_367 (by decide +kernel) ?_)
                have hz_2835 : (1 : Int32).toInt = 1 := rfl
                exact ih_2716 x_2808 x_2824 1 f_2833 (by rw [hx_2808]; omega) (by rw [hx_2824]; omega) (by decide +kernel) (show (x_2824 : Int32).toInt = d (x_2808 : Int32).toInt by rw [hx_2808]; omega) (show x.toInt ≤ (x_2808 : Int32).toInt ∧ (x_2808 : Int32).toInt ≤ y.toInt by omega) (by omega) (hE.trans (by rw [hrec_2715])) _ _ (hP.sub [5, 0, 1, 2, 3, 4] rfl) (hD.sub [5, 0, 1, 2, 3, 4] (by decide +kernel) rfl) hS ls (lv_sub hl [1, 0, 4, 5] rfl)
              · have c_2834i := i_eq (x := (u_2830.2.2.2.1 0).toInt) (y := 0) rfl rfl c_2834
                replace hE := hE.trans (if_pos c_2834)
                refine lv_aload_n hx hb dX12_reckonAll_274 rfl (lv_at hl 4 rfl) (va_get (ci := 12) (v := .ref q0) (C := RX12) (T := TX12) (N := 60) hx hb hts hw12 hown hK hP 5 rfl rfl 37 (by decide +kernel) (hts _ mm_X12_reckonAll_867) (fun _ h9 => h9) rfl dX12_reckonAll_275 (lv_iload_n hx hb dX12_reckonAll_278 rfl (lv_at hl 0 rfl) (lv_iconst (v := 1) hx hb dX12_reckonAll_279 (by decide +kernel) (lv_isub hx hb dX12_reckonAll_280 (lv_topi (fun x_2836 ex_2836 => ?_))))))
                replace hE := hE.trans (Lt_in ex_2836)
                have hx_2836 : x_2836.toInt = ((v_2398.toInt + (-1)) - 1) := by rw [ex_2836]; exact i_sub hx_2824 (show (1 : Int32).toInt = 1 from rfl) (by omega)
                refine va_lald hx hb hK hP 2 2 rfl rfl (i_in hx_2836 (by omega)) dX12_reckonAll_281 (lv_topl (fun x_2837 ex_2837 => ?_))
                replace hE := hE.trans (Lt_in ex_2837)
                refine lv_ldc2 (v := (-1000000000)) hx hb hown (hts _ mm_X12_reckonAll_1012) dX12_reckonAll_282 (lv_ldc2 (v := 1000000000) hx hb hown (hts _ mm_X12_reckonAll_1013) dX12_reckonAll_285 (pci (va_runS (As := [.long x_2837, .long (-1000000000), .long 1000000000]) (rest := [.ref m0]) ⟨hx, hb, hml, hown, hts⟩ (v_in l D K x_2837.toInt (-1000000000) 1000000000 x_2837 (-1000000000) 1000000000 H.size rfl (show ((-1000000000) : Int64).toInt = (-1000000000) from rfl) (show (1000000000 : Int64).toInt = 1000000000 from rfl)) (va_cwS 3 hts gX12_reckonAll_X12_in rfl rfl rfl (by decide +kernel) ⟨Nat.le_of_ble_eq_true rfl, Nat.le_of_ble_eq_true rfl⟩) (mkS hK hN (va_P.nil) (va_D.nil (A := fun _ => True))) rfl rfl hl.1 rfl (lv_room (Nat.le_of_ble_eq_true rfl)) dX12_reckonAll_288 ⟨Nat.le_of_ble_eq_true rfl, Nat.le_of_ble_eq_true rfl⟩) (fun r_2838 hw => ?_)))
                obtain ⟨hw, k_2839, -⟩ := hw
                replace hE := hE.trans (Lt_in k_2839)
                rcases hw with ⟨rfl, h_2840, h_2841⟩ | ⟨rfl, h_2842⟩
                · replace hE := (hE).trans (if_pos rfl)
                  refine lv_if_ne (tgt := 298) hx hb dX12_reckonAll_291 (by decide +kernel) (fun c_2843 => ?_) (fun c_2843 => absurd c_2843 (by decide +kernel))
                  refine lv_iconst (v := 0) hx hb dX12_reckonAll_298 (by decide +kernel) (va_put (ci := 12) (v := .int 0) (ty := .boolean) (C := RX12) (T := TX12) (N := 60) hx hb hts hw12 tyX12 tyX12_ok nmX12 hown hK hP hD hS 5 rfl rfl 38 (by decide +kernel) (hts _ mm_X12_reckonAll_868) (fun _ h9 => h9) rfl (by decide +kernel) (by first | rfl | decide) (by first | rfl | decide) (Nat.le_of_ble_eq_true rfl) dX12_reckonAll_299 (fun H locs hP0 hD0 hS0 => ?_))
                  replace hP : va_P D vwCl [(cc_l w0 (K 0) 5500 fw), (cc_rl nw (K 2) 13 fnw), (cc_rl q0 (K 2) 400 f_2833), (cc_l xo (K 0) 400 fo), (cc_l xa (K 0) 400 fa), (cc_O m0 12 [m_0, m_1, m_2, .ref w0, m_4, m_5, m_6, m_7, m_8, m_9, m_10, m_11, m_12, m_13, m_14, m_15, m_16, m_17, m_18, m_19, .int 1, m_21, m_22, m_23, .ref xo, .ref xa, m_26, m_27, m_28, m_29, m_30, m_31, m_32, m_33, m_34, m_35, .ref nw, .ref q0, .int 0, .long val, m_40, m_41, m_42, m_43, m_44, m_45, m_46, m_47, m_48, m_49, m_50, m_51, m_52, m_53, m_54, m_55, m_56, m_57, m_58, m_59])] H := hP0
                  replace hD := as_D hP hD0 rfl
                  replace hS := hS0
                  clear hP0 hD0 hS0
                  refine lv_goto (tgt := 367) hx hb dX12_reckonAll_302 (by decide +kernel) (lv_goto (tgt := 10) hx hb dX12_reckonAll_367 (by decide +kernel) ?_)
                  have hz_2844 : (0 : Int32).toInt = 0 := rfl
                  exact ih_2716 x_2808 x_2824 0 f_2833 (by rw [hx_2808]; omega) (by rw [hx_2824]; omega) (by decide +kernel) (show (x_2824 : Int32).toInt = d (x_2808 : Int32).toInt by rw [hx_2808]; omega) (show x.toInt ≤ (x_2808 : Int32).toInt ∧ (x_2808 : Int32).toInt ≤ y.toInt by omega) (by omega) (hE.trans (by rw [hrec_2715])) _ _ (hP.sub [5, 0, 1, 2, 3, 4] rfl) (hD.sub [5, 0, 1, 2, 3, 4] (by decide +kernel) rfl) hS ls (lv_sub hl [1, 0, 4, 5] rfl)
                · replace hE := (hE).trans (if_neg (by first | decide | (intro h9; have h8 := congrArg Int32.toInt h9; omega)))
                  refine lv_if_ne (tgt := 298) hx hb dX12_reckonAll_291 (by decide +kernel) (fun c_2845 => absurd (by decide +kernel) c_2845) (fun c_2845 => ?_)
                  refine lv_iconst (v := 1) hx hb dX12_reckonAll_294 (by decide +kernel) (lv_goto (tgt := 299) hx hb dX12_reckonAll_295 (by decide +kernel) (va_put (ci := 12) (v := .int 1) (ty := .boolean) (C := RX12) (T := TX12) (N := 60) hx hb hts hw12 tyX12 tyX12_ok nmX12 hown hK hP hD hS 5 rfl rfl 38 (by decide +kernel) (hts _ mm_X12_reckonAll_868) (fun _ h9 => h9) rfl (by decide +kernel) (by first | rfl | decide) (by first | rfl | decide) (Nat.le_of_ble_eq_true rfl) dX12_reckonAll_299 (fun H locs hP0 hD0 hS0 => ?_)))
                  replace hP : va_P D vwCl [(cc_l w0 (K 0) 5500 fw), (cc_rl nw (K 2) 13 fnw), (cc_rl q0 (K 2) 400 f_2833), (cc_l xo (K 0) 400 fo), (cc_l xa (K 0) 400 fa), (cc_O m0 12 [m_0, m_1, m_2, .ref w0, m_4, m_5, m_6, m_7, m_8, m_9, m_10, m_11, m_12, m_13, m_14, m_15, m_16, m_17, m_18, m_19, .int 1, m_21, m_22, m_23, .ref xo, .ref xa, m_26, m_27, m_28, m_29, m_30, m_31, m_32, m_33, m_34, m_35, .ref nw, .ref q0, .int 1, .long val, m_40, m_41, m_42, m_43, m_44, m_45, m_46, m_47, m_48, m_49, m_50, m_51, m_52, m_53, m_54, m_55, m_56, m_57, m_58, m_59])] H := hP0
                  replace hD := as_D hP hD0 rfl
                  replace hS := hS0
                  clear hP0 hD0 hS0
                  refine lv_goto (tgt := 367) hx hb dX12_reckonAll_302 (by decide +kernel) (lv_goto (tgt := 10) hx hb dX12_reckonAll_367 (by decide +kernel) ?_)
                  have hz_2846 : (1 : Int32).toInt = 1 := rfl
                  exact ih_2716 x_2808 x_2824 1 f_2833 (by rw [hx_2808]; omega) (by rw [hx_2824]; omega) (by decide +kernel) (show (x_2824 : Int32).toInt = d (x_2808 : Int32).toInt by rw [hx_2808]; omega) (show x.toInt ≤ (x_2808 : Int32).toInt ∧ (x_2808 : Int32).toInt ≤ y.toInt by omega) (by omega) (hE.trans (by rw [hrec_2715])) _ _ (hP.sub [5, 0, 1, 2, 3, 4] rfl) (hD.sub [5, 0, 1, 2, 3, 4] (by decide +kernel) rfl) hS ls (lv_sub hl [1, 0, 4, 5] rfl)
          · have c_2809i := i_nle (x := 20) (y := x_2805.toInt) rfl rfl c_2809
            replace hE := hE.trans (if_neg c_2809)
            replace hst : 0 ≤ x_2805.toInt ∧ x_2805.toInt ≤ 9 ∧ d (v_2397.toInt + 1) = d v_2397.toInt + 1 := by omega
            refine lv_aload_n hx hb dX12_reckonAll_107 rfl (lv_at hl 4 rfl) (va_get (ci := 12) (v := .ref q0) (C := RX12) (T := TX12) (N := 60) hx hb hts hw12 hown hK hP 0 rfl rfl 37 (by decide +kernel) (hts _ mm_X12_reckonAll_867) (fun _ h9 => h9) rfl dX12_reckonAll_108 (lv_iload_n hx hb dX12_reckonAll_111 rfl (lv_at hl 3 rfl) (lv_iload hx hb dX12_reckonAll_112 (lv_at hl 2 rfl) (lv_if_ne (tgt := 123) hx hb dX12_reckonAll_114 (by decide +kernel) (fun c_2847 => ?_) (fun c_2847 => ?_)))))
            · have c_2847i := i_ne (x := x_2805.toInt) (y := 0) rfl rfl c_2847
              replace hE := hE.trans (if_neg c_2847)
              refine lv_aload_n hx hb dX12_reckonAll_123 rfl (lv_at hl 4 rfl) (va_get (ci := 12) (v := .int 1) (C := RX12) (T := TX12) (N := 60) hx hb hts hw12 hown hK hP 0 rfl rfl 20 (by decide +kernel) (hts _ mm_X12_reckonAll_850) (fun _ h9 => h9) rfl dX12_reckonAll_124 (lv_if_ne (tgt := 140) hx hb dX12_reckonAll_127 (by decide +kernel) (fun c_2848 => ?_) (fun c_2848 => absurd c_2848 (by decide +kernel))))
              refine lv_iload hx hb dX12_reckonAll_140 (lv_at hl 2 rfl) (lv_bipush (v := 6) hx hb dX12_reckonAll_142 (by decide +kernel) (lv_icmp_ge (tgt := 157) hx hb dX12_reckonAll_144 (by decide +kernel) (fun c_2849 => ?_) (fun c_2849 => ?_)))
              · have c_2849i := i_le (x := 6) (y := x_2805.toInt) rfl rfl c_2849
                replace hE := hE.trans (if_pos c_2849)
                refine lv_iload hx hb dX12_reckonAll_157 (lv_at hl 2 rfl) (lv_bipush (v := 8) hx hb dX12_reckonAll_159 (by decide +kernel) (lv_icmp_ne (tgt := 174) hx hb dX12_reckonAll_161 (by decide +kernel) (fun c_2850 => ?_) (fun c_2850 => ?_)))
                · have c_2850i := i_ne (x := x_2805.toInt) (y := 8) rfl rfl c_2850
                  replace hE := hE.trans (if_neg c_2850)
                  refine lv_aload_n hx hb dX12_reckonAll_174 rfl (lv_at hl 4 rfl) (lv_iload hx hb dX12_reckonAll_175 (lv_at hl 1 rfl) (pci (va_runV (As := [.int x_2807]) (rest := [.int v_2398, .ref q0]) ⟨hx, hb, hml, hown, hts⟩ (v_isHouse l D K x_2807.toInt m0 x_2807 m_0 m_1 m_2 w0 m_4 m_5 m_6 m_7 m_8 m_9 m_10 m_11 m_12 m_13 m_14 m_15 m_16 m_17 m_18 m_19 (.int 1) m_21 m_22 m_23 (.ref xo) (.ref xa) m_26 m_27 m_28 m_29 m_30 m_31 m_32 m_33 m_34 m_35 (.ref nw) (.ref q0) (.int v_2399) (.long val) m_40 m_41 m_42 m_43 m_44 m_45 m_46 m_47 m_48 m_49 m_50 m_51 m_52 m_53 m_54 m_55 m_56 m_57 m_58 m_59 fw H.size rfl zfw) (cwV 1 hts gX12_reckonAll_X12_isHouse rfl rfl rfl (by decide +kernel) ⟨Nat.le_of_ble_eq_true rfl, Nat.le_of_ble_eq_true rfl⟩) (mkV hK hN (hP.sub [0, 1] rfl) (hD.sub [0, 1] (by decide +kernel) rfl) (ci := 12) (q0 := 0) rfl rfl) rfl rfl hl.1 rfl (lv_room (Nat.le_of_ble_eq_true rfl)) dX12_reckonAll_177 ⟨Nat.le_of_ble_eq_true rfl, Nat.le_of_ble_eq_true rfl⟩) (fun r_2851 hw => ?_)))
                  obtain ⟨hw, k_2852, -⟩ := hw
                  replace hE := hE.trans (Lt_in k_2852)
                  rcases hw with ⟨rfl, h_2853, h_2854⟩ | rfl
                  · replace hE := (hE).trans (if_pos rfl)
                    refine lv_if_ne (tgt := 189) hx hb dX12_reckonAll_180 (by decide +kernel) (fun c_2855 => ?_) (fun c_2855 => absurd c_2855 (by decide +kernel))
                    refine lv_iload hx hb dX12_reckonAll_189 (lv_at hl 2 rfl) (lv_bipush (v := 6) hx hb dX12_reckonAll_191 (by decide +kernel) (lv_icmp_ne (tgt := 210) hx hb dX12_reckonAll_193 (by decide +kernel) (fun c_2856 => ?_) (fun c_2856 => ?_)))
                    · have c_2856i := i_ne (x := x_2805.toInt) (y := 6) rfl rfl c_2856
                      replace hE := hE.trans (if_neg c_2856)
                      refine lv_aload_n hx hb dX12_reckonAll_210 rfl (lv_at hl 4 rfl) (va_get (ci := 12) (v := .ref w0) (C := RX12) (T := TX12) (N := 60) hx hb hts hw12 hown hK hP 0 rfl rfl 3 (by decide +kernel) (hts _ mm_X12_reckonAll_833) (fun _ h9 => h9) rfl dX12_reckonAll_211 (lv_bipush (v := 19) hx hb dX12_reckonAll_214 (by decide +kernel) (lv_iload hx hb dX12_reckonAll_216 (lv_at hl 1 rfl) (lv_iadd hx hb dX12_reckonAll_218 (lv_topi (fun x_2857 ex_2857 => ?_))))))
                      replace hE := hE.trans (Lt_in ex_2857)
                      have hx_2857 : x_2857.toInt = (19 + x_2807.toInt) := by rw [ex_2857]; exact i_add (show (19 : Int32).toInt = 19 from rfl) rfl (by omega)
                      refine va_iald hx hb hK hP 1 0 rfl rfl (i_in hx_2857 (by omega)) dX12_reckonAll_219 (lv_topi (fun x_2858 ex_2858 => ?_))
                      replace hE := hE.trans (Lt_in ex_2858)
                      have px_2858 := RwOK.at zfw hx_2857 (show 0 ≤ (19 + x_2807.toInt) ∧ (19 + x_2807.toInt) < 100 by omega)
                      rw [← ex_2858] at px_2858
                      refine lv_i2l hx hb dX12_reckonAll_220 rfl (lv_topl (fun x_2859 ex_2859 => ?_))
                      replace hE := hE.trans (Lt_in ex_2859)
                      have hx_2859 : x_2859.toInt = x_2858.toInt := by rw [ex_2859]; exact i_wide rfl
                      have hbx_2859 := i_rng (a := x_2858) rfl
                      refine va_last hx hb hK hP hD hS 3 2 rfl rfl (i_in rfl (by omega)) dX12_reckonAll_221 (fun H locs hP0 hD0 hS0 => ?_)
                      replace hP := hP0
                      replace hD := hD0
                      replace hS := hS0
                      clear hP0 hD0 hS0
                      generalize hf_2860 : (vp_updL f_2400 (v_2398 : Int32).toNatClampNeg x_2859) = f_2860 at hP hD
                      replace hE := hE.trans (Lt_in hf_2860.symm)
                      replace hP : va_P D vwCl [(cc_O m0 12 [m_0, m_1, m_2, .ref w0, m_4, m_5, m_6, m_7, m_8, m_9, m_10, m_11, m_12, m_13, m_14, m_15, m_16, m_17, m_18, m_19, .int 1, m_21, m_22, m_23, .ref xo, .ref xa, m_26, m_27, m_28, m_29, m_30, m_31, m_32, m_33, m_34, m_35, .ref nw, .ref q0, .int v_2399, .long val, m_40, m_41, m_42, m_43, m_44, m_45, m_46, m_47, m_48, m_49, m_50, m_51, m_52, m_53, m_54, m_55, m_56, m_57, m_58, m_59]), (cc_l w0 (K 0) 5500 fw), (cc_rl nw (K 2) 13 fnw), (cc_rl q0 (K 2) 400 f_2860), (cc_l xo (K 0) 400 fo), (cc_l xa (K 0) 400 fa)] H := hP
                      replace hD := as_D hP hD rfl
                      obtain ⟨x_2861, ex_2861⟩ : ∃ y : Int32, y = v_2398 + Int32.ofInt 1 := ⟨_, rfl⟩
                      replace hE := hE.trans (Lt_in ex_2861)
                      have hx_2861 : x_2861.toInt = (v_2398.toInt + 1) := by rw [ex_2861]; exact i_add rfl (show (Int32.ofInt 1).toInt = 1 from rfl) (by omega)
                      refine lv_iinc (v := x_2861) (lv' := [(3, .int x_2861), (4, .int x_2808), (6, .int x_2807), (5, .int x_2805), (0, .ref m0), (2, .int y)]) hx hb dX12_reckonAll_222 hl (k := 3) rfl (by rw [ex_2861]) (by decide +kernel) rfl (fun ls hl => ?_)
                      refine lv_goto (tgt := 367) hx hb dX12_reckonAll_225 (by decide +kernel) (lv_goto (tgt := 10) hx hb dX12_reckonAll_367 (by decide +kernel) ?_)
                      exact ih_2716 x_2808 x_2861 v_2399 f_2860 (by rw [hx_2808]; omega) (by rw [hx_2861]; omega) (by omega) (show (x_2861 : Int32).toInt = d (x_2808 : Int32).toInt by rw [hx_2808]; omega) (show x.toInt ≤ (x_2808 : Int32).toInt ∧ (x_2808 : Int32).toInt ≤ y.toInt by omega) (by omega) (hE.trans (by rw [hrec_2715])) _ _ hP hD hS ls (lv_sub hl [1, 0, 4, 5] rfl)
                    · have c_2856i := i_eq (x := x_2805.toInt) (y := 6) rfl rfl c_2856
                      replace hE := hE.trans (if_pos c_2856)
                      refine lv_aload_n hx hb dX12_reckonAll_196 rfl (lv_at hl 4 rfl) (va_get (ci := 12) (v := .ref w0) (C := RX12) (T := TX12) (N := 60) hx hb hts hw12 hown hK hP 0 rfl rfl 3 (by decide +kernel) (hts _ mm_X12_reckonAll_833) (fun _ h9 => h9) rfl dX12_reckonAll_197 (lv_bipush (v := 11) hx hb dX12_reckonAll_200 (by decide +kernel) (lv_iload hx hb dX12_reckonAll_202 (lv_at hl 1 rfl) (lv_iadd hx hb dX12_reckonAll_204 (lv_topi (fun x_2862 ex_2862 => ?_))))))
                      replace hE := hE.trans (Lt_in ex_2862)
                      have hx_2862 : x_2862.toInt = (11 + x_2807.toInt) := by rw [ex_2862]; exact i_add (show (11 : Int32).toInt = 11 from rfl) rfl (by omega)
                      refine va_iald hx hb hK hP 1 0 rfl rfl (i_in hx_2862 (by omega)) dX12_reckonAll_205 (lv_topi (fun x_2863 ex_2863 => ?_))
                      replace hE := hE.trans (Lt_in ex_2863)
                      have px_2863 := RwOK.at zfw hx_2862 (show 0 ≤ (11 + x_2807.toInt) ∧ (11 + x_2807.toInt) < 100 by omega)
                      rw [← ex_2863] at px_2863
                      have hx_2863 := PR.r_11 px_2863 (by omega)
                      refine lv_i2l hx hb dX12_reckonAll_206 rfl (lv_topl (fun x_2864 ex_2864 => ?_))
                      replace hE := hE.trans (Lt_in ex_2864)
                      have hx_2864 : x_2864.toInt = x_2863.toInt := by rw [ex_2864]; exact i_wide rfl
                      refine lv_goto (tgt := 221) hx hb dX12_reckonAll_207 (by decide +kernel) (va_last hx hb hK hP hD hS 3 2 rfl rfl (i_in rfl (by omega)) dX12_reckonAll_221 (fun H locs hP0 hD0 hS0 => ?_))
                      replace hP := hP0
                      replace hD := hD0
                      replace hS := hS0
                      clear hP0 hD0 hS0
                      generalize hf_2865 : (vp_updL f_2400 (v_2398 : Int32).toNatClampNeg x_2864) = f_2865 at hP hD
                      replace hE := hE.trans (Lt_in hf_2865.symm)
                      replace hP : va_P D vwCl [(cc_O m0 12 [m_0, m_1, m_2, .ref w0, m_4, m_5, m_6, m_7, m_8, m_9, m_10, m_11, m_12, m_13, m_14, m_15, m_16, m_17, m_18, m_19, .int 1, m_21, m_22, m_23, .ref xo, .ref xa, m_26, m_27, m_28, m_29, m_30, m_31, m_32, m_33, m_34, m_35, .ref nw, .ref q0, .int v_2399, .long val, m_40, m_41, m_42, m_43, m_44, m_45, m_46, m_47, m_48, m_49, m_50, m_51, m_52, m_53, m_54, m_55, m_56, m_57, m_58, m_59]), (cc_l w0 (K 0) 5500 fw), (cc_rl nw (K 2) 13 fnw), (cc_rl q0 (K 2) 400 f_2865), (cc_l xo (K 0) 400 fo), (cc_l xa (K 0) 400 fa)] H := hP
                      replace hD := as_D hP hD rfl
                      obtain ⟨x_2866, ex_2866⟩ : ∃ y : Int32, y = v_2398 + Int32.ofInt 1 := ⟨_, rfl⟩
                      replace hE := hE.trans (Lt_in ex_2866)
                      have hx_2866 : x_2866.toInt = (v_2398.toInt + 1) := by rw [ex_2866]; exact i_add rfl (show (Int32.ofInt 1).toInt = 1 from rfl) (by omega)
                      refine lv_iinc (v := x_2866) (lv' := [(3, .int x_2866), (4, .int x_2808), (6, .int x_2807), (5, .int x_2805), (0, .ref m0), (2, .int y)]) hx hb dX12_reckonAll_222 hl (k := 3) rfl (by rw [ex_2866]) (by decide +kernel) rfl (fun ls hl => ?_)
                      refine lv_goto (tgt := 367) hx hb dX12_reckonAll_225 (by decide +kernel) (lv_goto (tgt := 10) hx hb dX12_reckonAll_367 (by decide +kernel) ?_)
                      exact ih_2716 x_2808 x_2866 v_2399 f_2865 (by rw [hx_2808]; omega) (by rw [hx_2866]; omega) (by omega) (show (x_2866 : Int32).toInt = d (x_2808 : Int32).toInt by rw [hx_2808]; omega) (show x.toInt ≤ (x_2808 : Int32).toInt ∧ (x_2808 : Int32).toInt ≤ y.toInt by omega) (by omega) (hE.trans (by rw [hrec_2715])) _ _ hP hD hS ls (lv_sub hl [1, 0, 4, 5] rfl)
                  · replace hE := (hE).trans (if_neg (by first | decide | (intro h9; have h8 := congrArg Int32.toInt h9; omega)))
                    refine lv_if_ne (tgt := 189) hx hb dX12_reckonAll_180 (by decide +kernel) (fun c_2867 => absurd (by decide +kernel) c_2867) (fun c_2867 => ?_)
                    refine lv_ldc2 (v := (-1)) hx hb hown (hts _ mm_X12_reckonAll_1008) dX12_reckonAll_183 (lv_goto (tgt := 221) hx hb dX12_reckonAll_186 (by decide +kernel) (va_last hx hb hK hP hD hS 3 2 rfl rfl (i_in rfl (by omega)) dX12_reckonAll_221 (fun H locs hP0 hD0 hS0 => ?_)))
                    replace hP := hP0
                    replace hD := hD0
                    replace hS := hS0
                    clear hP0 hD0 hS0
                    generalize hf_2868 : (vp_updL f_2400 (v_2398 : Int32).toNatClampNeg (-1)) = f_2868 at hP hD
                    replace hE := hE.trans (Lt_in hf_2868.symm)
                    replace hP : va_P D vwCl [(cc_O m0 12 [m_0, m_1, m_2, .ref w0, m_4, m_5, m_6, m_7, m_8, m_9, m_10, m_11, m_12, m_13, m_14, m_15, m_16, m_17, m_18, m_19, .int 1, m_21, m_22, m_23, .ref xo, .ref xa, m_26, m_27, m_28, m_29, m_30, m_31, m_32, m_33, m_34, m_35, .ref nw, .ref q0, .int v_2399, .long val, m_40, m_41, m_42, m_43, m_44, m_45, m_46, m_47, m_48, m_49, m_50, m_51, m_52, m_53, m_54, m_55, m_56, m_57, m_58, m_59]), (cc_l w0 (K 0) 5500 fw), (cc_rl nw (K 2) 13 fnw), (cc_rl q0 (K 2) 400 f_2868), (cc_l xo (K 0) 400 fo), (cc_l xa (K 0) 400 fa)] H := hP
                    replace hD := as_D hP hD rfl
                    obtain ⟨x_2869, ex_2869⟩ : ∃ y : Int32, y = v_2398 + Int32.ofInt 1 := ⟨_, rfl⟩
                    replace hE := hE.trans (Lt_in ex_2869)
                    have hx_2869 : x_2869.toInt = (v_2398.toInt + 1) := by rw [ex_2869]; exact i_add rfl (show (Int32.ofInt 1).toInt = 1 from rfl) (by omega)
                    refine lv_iinc (v := x_2869) (lv' := [(3, .int x_2869), (4, .int x_2808), (6, .int x_2807), (5, .int x_2805), (0, .ref m0), (2, .int y)]) hx hb dX12_reckonAll_222 hl (k := 3) rfl (by rw [ex_2869]) (by decide +kernel) rfl (fun ls hl => ?_)
                    refine lv_goto (tgt := 367) hx hb dX12_reckonAll_225 (by decide +kernel) (lv_goto (tgt := 10) hx hb dX12_reckonAll_367 (by decide +kernel) ?_)
                    exact ih_2716 x_2808 x_2869 v_2399 f_2868 (by rw [hx_2808]; omega) (by rw [hx_2869]; omega) (by omega) (show (x_2869 : Int32).toInt = d (x_2808 : Int32).toInt by rw [hx_2808]; omega) (show x.toInt ≤ (x_2808 : Int32).toInt ∧ (x_2808 : Int32).toInt ≤ y.toInt by omega) (by omega) (hE.trans (by rw [hrec_2715])) _ _ hP hD hS ls (lv_sub hl [1, 0, 4, 5] rfl)
                · have c_2850i := i_eq (x := x_2805.toInt) (y := 8) rfl rfl c_2850
                  replace hE := hE.trans (if_pos c_2850)
                  refine lv_aload_n hx hb dX12_reckonAll_164 rfl (lv_at hl 4 rfl) (lv_iload hx hb dX12_reckonAll_165 (lv_at hl 1 rfl) (pci (va_runV (As := [.int x_2807]) (rest := [.int v_2398, .ref q0]) ⟨hx, hb, hml, hown, hts⟩ (v_soundWith l D K m0 x_2807 m_0 m_1 m_2 w0 m_4 m_5 m_6 m_7 m_8 m_9 m_10 m_11 m_12 m_13 m_14 m_15 m_16 m_17 m_18 m_19 (.int 1) m_21 m_22 m_23 (.ref xo) (.ref xa) m_26 m_27 m_28 m_29 m_30 m_31 m_32 m_33 m_34 m_35 (.ref nw) (.ref q0) (.int v_2399) (.long val) m_40 m_41 m_42 m_43 m_44 m_45 m_46 m_47 m_48 m_49 m_50 m_51 m_52 m_53 m_54 m_55 m_56 m_57 m_58 m_59 fw H.size zfw) (cwV 1 hts gX12_reckonAll_X12_soundWith rfl rfl rfl (by decide +kernel) ⟨Nat.le_of_ble_eq_true rfl, Nat.le_of_ble_eq_true rfl⟩) (mkV hK hN (hP.sub [0, 1] rfl) (hD.sub [0, 1] (by decide +kernel) rfl) (ci := 12) (q0 := 0) rfl rfl) rfl rfl hl.1 rfl (lv_room (Nat.le_of_ble_eq_true rfl)) dX12_reckonAll_167 ⟨Nat.le_of_ble_eq_true rfl, Nat.le_of_ble_eq_true rfl⟩) (fun r_2870 hw => ?_)))
                  obtain ⟨h_2872, k_2871, -⟩ := hw
                  replace hE := hE.trans (Lt_in k_2871)
                  refine lv_i2l hx hb dX12_reckonAll_170 rfl (lv_topl (fun x_2873 ex_2873 => ?_))
                  replace hE := hE.trans (Lt_in ex_2873)
                  have hx_2873 : x_2873.toInt = r_2870.toInt := by rw [ex_2873]; exact i_wide rfl
                  refine lv_goto (tgt := 221) hx hb dX12_reckonAll_171 (by decide +kernel) (va_last hx hb hK hP hD hS 3 2 rfl rfl (i_in rfl (by omega)) dX12_reckonAll_221 (fun H locs hP0 hD0 hS0 => ?_))
                  replace hP := hP0
                  replace hD := hD0
                  replace hS := hS0
                  clear hP0 hD0 hS0
                  generalize hf_2874 : (vp_updL f_2400 (v_2398 : Int32).toNatClampNeg x_2873) = f_2874 at hP hD
                  replace hE := hE.trans (Lt_in hf_2874.symm)
                  replace hP : va_P D vwCl [(cc_O m0 12 [m_0, m_1, m_2, .ref w0, m_4, m_5, m_6, m_7, m_8, m_9, m_10, m_11, m_12, m_13, m_14, m_15, m_16, m_17, m_18, m_19, .int 1, m_21, m_22, m_23, .ref xo, .ref xa, m_26, m_27, m_28, m_29, m_30, m_31, m_32, m_33, m_34, m_35, .ref nw, .ref q0, .int v_2399, .long val, m_40, m_41, m_42, m_43, m_44, m_45, m_46, m_47, m_48, m_49, m_50, m_51, m_52, m_53, m_54, m_55, m_56, m_57, m_58, m_59]), (cc_l w0 (K 0) 5500 fw), (cc_rl nw (K 2) 13 fnw), (cc_rl q0 (K 2) 400 f_2874), (cc_l xo (K 0) 400 fo), (cc_l xa (K 0) 400 fa)] H := hP
                  replace hD := as_D hP hD rfl
                  obtain ⟨x_2875, ex_2875⟩ : ∃ y : Int32, y = v_2398 + Int32.ofInt 1 := ⟨_, rfl⟩
                  replace hE := hE.trans (Lt_in ex_2875)
                  have hx_2875 : x_2875.toInt = (v_2398.toInt + 1) := by rw [ex_2875]; exact i_add rfl (show (Int32.ofInt 1).toInt = 1 from rfl) (by omega)
                  refine lv_iinc (v := x_2875) (lv' := [(3, .int x_2875), (4, .int x_2808), (6, .int x_2807), (5, .int x_2805), (0, .ref m0), (2, .int y)]) hx hb dX12_reckonAll_222 hl (k := 3) rfl (by rw [ex_2875]) (by decide +kernel) rfl (fun ls hl => ?_)
                  refine lv_goto (tgt := 367) hx hb dX12_reckonAll_225 (by decide +kernel) (lv_goto (tgt := 10) hx hb dX12_reckonAll_367 (by decide +kernel) ?_)
                  exact ih_2716 x_2808 x_2875 v_2399 f_2874 (by rw [hx_2808]; omega) (by rw [hx_2875]; omega) (by omega) (show (x_2875 : Int32).toInt = d (x_2808 : Int32).toInt by rw [hx_2808]; omega) (show x.toInt ≤ (x_2808 : Int32).toInt ∧ (x_2808 : Int32).toInt ≤ y.toInt by omega) (by omega) (hE.trans (by rw [hrec_2715])) _ _ hP hD hS ls (lv_sub hl [1, 0, 4, 5] rfl)
              · have c_2849i := i_nle (x := 6) (y := x_2805.toInt) rfl rfl c_2849
                replace hE := hE.trans (if_neg c_2849)
                refine lv_aload_n hx hb dX12_reckonAll_147 rfl (lv_at hl 4 rfl) (va_get (ci := 12) (v := .ref nw) (C := RX12) (T := TX12) (N := 60) hx hb hts hw12 hown hK hP 0 rfl rfl 36 (by decide +kernel) (hts _ mm_X12_reckonAll_866) (fun _ h9 => h9) rfl dX12_reckonAll_148 (lv_iload hx hb dX12_reckonAll_151 (lv_at hl 2 rfl) (va_lald hx hb hK hP 2 2 rfl rfl (i_in rfl (by omega)) dX12_reckonAll_153 (lv_topl (fun x_2876 ex_2876 => ?_)))))
                replace hE := hE.trans (Lt_in ex_2876)
                refine lv_goto (tgt := 221) hx hb dX12_reckonAll_154 (by decide +kernel) (va_last hx hb hK hP hD hS 3 2 rfl rfl (i_in rfl (by omega)) dX12_reckonAll_221 (fun H locs hP0 hD0 hS0 => ?_))
                replace hP := hP0
                replace hD := hD0
                replace hS := hS0
                clear hP0 hD0 hS0
                generalize hf_2877 : (vp_updL f_2400 (v_2398 : Int32).toNatClampNeg x_2876) = f_2877 at hP hD
                replace hE := hE.trans (Lt_in hf_2877.symm)
                replace hP : va_P D vwCl [(cc_O m0 12 [m_0, m_1, m_2, .ref w0, m_4, m_5, m_6, m_7, m_8, m_9, m_10, m_11, m_12, m_13, m_14, m_15, m_16, m_17, m_18, m_19, .int 1, m_21, m_22, m_23, .ref xo, .ref xa, m_26, m_27, m_28, m_29, m_30, m_31, m_32, m_33, m_34, m_35, .ref nw, .ref q0, .int v_2399, .long val, m_40, m_41, m_42, m_43, m_44, m_45, m_46, m_47, m_48, m_49, m_50, m_51, m_52, m_53, m_54, m_55, m_56, m_57, m_58, m_59]), (cc_l w0 (K 0) 5500 fw), (cc_rl nw (K 2) 13 fnw), (cc_rl q0 (K 2) 400 f_2877), (cc_l xo (K 0) 400 fo), (cc_l xa (K 0) 400 fa)] H := hP
                replace hD := as_D hP hD rfl
                obtain ⟨x_2878, ex_2878⟩ : ∃ y : Int32, y = v_2398 + Int32.ofInt 1 := ⟨_, rfl⟩
                replace hE := hE.trans (Lt_in ex_2878)
                have hx_2878 : x_2878.toInt = (v_2398.toInt + 1) := by rw [ex_2878]; exact i_add rfl (show (Int32.ofInt 1).toInt = 1 from rfl) (by omega)
                refine lv_iinc (v := x_2878) (lv' := [(3, .int x_2878), (4, .int x_2808), (6, .int x_2807), (5, .int x_2805), (0, .ref m0), (2, .int y)]) hx hb dX12_reckonAll_222 hl (k := 3) rfl (by rw [ex_2878]) (by decide +kernel) rfl (fun ls hl => ?_)
                refine lv_goto (tgt := 367) hx hb dX12_reckonAll_225 (by decide +kernel) (lv_goto (tgt := 10) hx hb dX12_reckonAll_367 (by decide +kernel) ?_)
                exact ih_2716 x_2808 x_2878 v_2399 f_2877 (by rw [hx_2808]; omega) (by rw [hx_2878]; omega) (by omega) (show (x_2878 : Int32).toInt = d (x_2808 : Int32).toInt by rw [hx_2808]; omega) (show x.toInt ≤ (x_2808 : Int32).toInt ∧ (x_2808 : Int32).toInt ≤ y.toInt by omega) (by omega) (hE.trans (by rw [hrec_2715])) _ _ hP hD hS ls (lv_sub hl [1, 0, 4, 5] rfl)
            · have c_2847i := i_eq (x := x_2805.toInt) (y := 0) rfl rfl c_2847
              replace hE := hE.trans (if_pos c_2847)
              refine lv_iload hx hb dX12_reckonAll_117 (lv_at hl 1 rfl) (lv_i2l hx hb dX12_reckonAll_119 rfl (lv_topl (fun x_2879 ex_2879 => ?_)))
              replace hE := hE.trans (Lt_in ex_2879)
              have hx_2879 : x_2879.toInt = x_2807.toInt := by rw [ex_2879]; exact i_wide rfl
              have hbx_2879 := i_rng (a := x_2807) rfl
              refine lv_goto (tgt := 221) hx hb dX12_reckonAll_120 (by decide +kernel) (va_last hx hb hK hP hD hS 3 2 rfl rfl (i_in rfl (by omega)) dX12_reckonAll_221 (fun H locs hP0 hD0 hS0 => ?_))
              replace hP := hP0
              replace hD := hD0
              replace hS := hS0
              clear hP0 hD0 hS0
              generalize hf_2880 : (vp_updL f_2400 (v_2398 : Int32).toNatClampNeg x_2879) = f_2880 at hP hD
              replace hE := hE.trans (Lt_in hf_2880.symm)
              replace hP : va_P D vwCl [(cc_O m0 12 [m_0, m_1, m_2, .ref w0, m_4, m_5, m_6, m_7, m_8, m_9, m_10, m_11, m_12, m_13, m_14, m_15, m_16, m_17, m_18, m_19, .int 1, m_21, m_22, m_23, .ref xo, .ref xa, m_26, m_27, m_28, m_29, m_30, m_31, m_32, m_33, m_34, m_35, .ref nw, .ref q0, .int v_2399, .long val, m_40, m_41, m_42, m_43, m_44, m_45, m_46, m_47, m_48, m_49, m_50, m_51, m_52, m_53, m_54, m_55, m_56, m_57, m_58, m_59]), (cc_l w0 (K 0) 5500 fw), (cc_rl nw (K 2) 13 fnw), (cc_rl q0 (K 2) 400 f_2880), (cc_l xo (K 0) 400 fo), (cc_l xa (K 0) 400 fa)] H := hP
              replace hD := as_D hP hD rfl
              obtain ⟨x_2881, ex_2881⟩ : ∃ y : Int32, y = v_2398 + Int32.ofInt 1 := ⟨_, rfl⟩
              replace hE := hE.trans (Lt_in ex_2881)
              have hx_2881 : x_2881.toInt = (v_2398.toInt + 1) := by rw [ex_2881]; exact i_add rfl (show (Int32.ofInt 1).toInt = 1 from rfl) (by omega)
              refine lv_iinc (v := x_2881) (lv' := [(3, .int x_2881), (4, .int x_2808), (6, .int x_2807), (5, .int x_2805), (0, .ref m0), (2, .int y)]) hx hb dX12_reckonAll_222 hl (k := 3) rfl (by rw [ex_2881]) (by decide +kernel) rfl (fun ls hl => ?_)
              refine lv_goto (tgt := 367) hx hb dX12_reckonAll_225 (by decide +kernel) (lv_goto (tgt := 10) hx hb dX12_reckonAll_367 (by decide +kernel) ?_)
              exact ih_2716 x_2808 x_2881 v_2399 f_2880 (by rw [hx_2808]; omega) (by rw [hx_2881]; omega) (by omega) (show (x_2881 : Int32).toInt = d (x_2808 : Int32).toInt by rw [hx_2808]; omega) (show x.toInt ≤ (x_2808 : Int32).toInt ∧ (x_2808 : Int32).toInt ≤ y.toInt by omega) (by omega) (hE.trans (by rw [hrec_2715])) _ _ hP hD hS ls (lv_sub hl [1, 0, 4, 5] rfl)
  have hz_2882 : (0 : Int32).toInt = 0 := rfl
  have hz_2883 : (0 : Int32).toInt = 0 := rfl
  exact lp_2715 ((y.toInt - (x : Int32).toInt + 1 : Int).toNat + 1) x 0 0 frs (by omega) (by decide +kernel) (by decide +kernel) (show (0 : Int32).toInt = d (x : Int32).toInt by rw [d0]; rfl) (show x.toInt ≤ (x : Int32).toInt ∧ (x : Int32).toInt ≤ y.toInt by omega) (Nat.lt_succ_self _) hE _ _ hP hD hS ls (lv_sub hl [0, 1, 2, 4] rfl)
set_option maxRecDepth 100000 in
noncomputable def E_v_sumOf (x : Int32) (bro : Int32) (val : Int64) (ofm : Int32) (fw : Nat → Int32) (fnw : Nat → Int64) (frs : Nat → Int64) (fo : Nat → Int32) (fa : Nat → Int32) (fod : Nat → Int32) : Int32 × Int32 × Int64 × Int32 × (Nat → Int64) :=
  if ofm = 0 then (Lt (fod (x : Int32).toNatClampNeg : Int32) (fun x_88 => Lt (x + 1 : Int32) (fun x_89 => Lt (fod (x_89 : Int32).toNatClampNeg : Int32) (fun x_90 => if x_88 = x_90 then ((((-1), bro, val, ofm, frs) : Int32 × Int32 × Int64 × Int32 × (Nat → Int64))) else (Lt (fod (x : Int32).toNatClampNeg : Int32) (fun x_92 => Lt (x + 1 : Int32) (fun x_93 => Lt (fod (x_93 : Int32).toNatClampNeg : Int32) (fun x_94 => Lt2 (E_v_reckonOrd x_92 x_94 bro val fw fnw frs fo fa) (fun u_96_2_2_2_1_0 q0_u_96_2_2_2_1_0 => Lt2 q0_u_96_2_2_2_1_0 (fun u_96_2_2_2_2_1_0 u_96_2_2_1_0 => Lt ((u_96_2_2_2_2_1_0 : Int64).toInt32 : Int32) (fun x_99 => ((x_99, u_96_2_2_2_1_0, u_96_2_2_2_2_1_0, u_96_2_2_2_1_0, u_96_2_2_1_0) : Int32 × Int32 × Int64 × Int32 × (Nat → Int64))))))))))))) else ((((-1), bro, val, ofm, frs) : Int32 × Int32 × Int64 × Int32 × (Nat → Int64)))
set_option maxHeartbeats 4000000 in
set_option maxRecDepth 100000 in
theorem v_sumOf (l : Launch) (D : va_G) (K : Nat → ClassId) (m0 : Nat) (x : Int32) (m_0 : Value) (m_1 : Value) (m_2 : Value) (w0 : Nat) (m_4 : Value) (m_5 : Value) (m_6 : Value) (m_7 : Value) (m_8 : Value) (m_9 : Value) (m_10 : Value) (m_11 : Value) (m_12 : Value) (m_13 : Value) (m_14 : Value) (m_15 : Value) (m_16 : Value) (m_17 : Value) (m_18 : Value) (m_19 : Value) (m_21 : Value) (m_22 : Value) (m_23 : Value) (xo : Nat) (xa : Nat) (m_26 : Value) (m_27 : Value) (m_28 : Value) (m_29 : Value) (m_30 : Value) (m_31 : Value) (m_32 : Value) (m_33 : Value) (m_34 : Value) (m_35 : Value) (nw : Nat) (q0 : Nat) (bro : Int32) (val : Int64) (m_40 : Value) (m_41 : Value) (m_42 : Value) (m_43 : Value) (m_44 : Value) (m_45 : Value) (m_46 : Value) (m_47 : Value) (m_48 : Value) (m_49 : Value) (m_50 : Value) (od : Nat) (m_52 : Value) (m_53 : Value) (m_54 : Value) (ofm : Int32) (m_56 : Value) (m_57 : Value) (m_58 : Value) (m_59 : Value) (fw : Nat → Int32) (gr : Nat → Int32) (fnw : Nat → Int64) (frs : Nat → Int64) (fo : Nat → Int32) (fa : Nat → Int32) (fod : Nat → Int32) (sz : Nat) (zbro : 0 ≤ bro.toInt ∧ bro.toInt ≤ 1) (zofm : 0 ≤ ofm.toInt ∧ ofm.toInt ≤ 1) (zx : 0 ≤ x.toInt ∧ x.toInt ≤ 94) (hsg : sg fo fa (fod (x.toInt).toNat) (fod (x.toInt + 1).toNat)) (zfw : RwOK fw) (zgr : FzM gr fw) : Met l yX12_sumOf wsX12_sumOf ({ frames := 4, cells := 0, slots := 0, locals := 95 }) (va_Pc [.ref m0, .int x] (Pre D K [(cc_O m0 12 [m_0, m_1, m_2, .ref w0, m_4, m_5, m_6, m_7, m_8, m_9, m_10, m_11, m_12, m_13, m_14, m_15, m_16, m_17, m_18, m_19, .int 0, m_21, m_22, m_23, .ref xo, .ref xa, m_26, m_27, m_28, m_29, m_30, m_31, m_32, m_33, m_34, m_35, .ref nw, .ref q0, .int bro, .long val, m_40, m_41, m_42, m_43, m_44, m_45, m_46, m_47, m_48, m_49, m_50, .ref od, m_52, m_53, m_54, .int ofm, m_56, m_57, m_58, m_59]), (cc_l w0 (K 0) 5500 fw), (cc_rl nw (K 2) 13 fnw), (cc_rl q0 (K 2) 400 frs), (cc_l xo (K 0) 400 fo), (cc_l xa (K 0) 400 fa), (cc_l od (K 0) 96 fod)] sz)) (va_Qi (S := Su) (fun (r : Int32) (u : Su) => (0 ≤ (u.2.2.2.1 0).toInt ∧ (u.2.2.2.1 0).toInt ≤ 1) ∧ (0 ≤ (u.2.2.2.1 1).toInt ∧ (u.2.2.2.1 1).toInt ≤ 1) ∧ ((r, (u.2.2.2.1 0), (u.2.2.2.2.1 0), (u.2.2.2.1 1), (u.2.2.1 0)) = E_v_sumOf x bro val ofm fw fnw frs fo fa fod) ∧ True) (fun u t => Wd D (va_A [(cc_O m0 12 [m_0, m_1, m_2, .ref w0, m_4, m_5, m_6, m_7, m_8, m_9, m_10, m_11, m_12, m_13, m_14, m_15, m_16, m_17, m_18, m_19, .int 0, m_21, m_22, m_23, .ref xo, .ref xa, m_26, m_27, m_28, m_29, m_30, m_31, m_32, m_33, m_34, m_35, .ref nw, .ref q0, .int bro, .long val, m_40, m_41, m_42, m_43, m_44, m_45, m_46, m_47, m_48, m_49, m_50, .ref od, m_52, m_53, m_54, .int ofm, m_56, m_57, m_58, m_59]), (cc_l w0 (K 0) 5500 fw), (cc_rl nw (K 2) 13 fnw), (cc_rl q0 (K 2) 400 frs), (cc_l xo (K 0) 400 fo), (cc_l xa (K 0) 400 fa), (cc_l od (K 0) 96 fod)] sz) ((fun u => [(cc_O m0 12 [m_0, m_1, m_2, .ref w0, m_4, m_5, m_6, m_7, m_8, m_9, m_10, m_11, m_12, m_13, m_14, m_15, m_16, m_17, m_18, m_19, .int 0, m_21, m_22, m_23, .ref xo, .ref xa, m_26, m_27, m_28, m_29, m_30, m_31, m_32, m_33, m_34, m_35, .ref nw, .ref q0, .int (u.2.2.2.1 0), .long (u.2.2.2.2.1 0), m_40, m_41, m_42, m_43, m_44, m_45, m_46, m_47, m_48, m_49, m_50, .ref od, m_52, m_53, m_54, .int (u.2.2.2.1 1), m_56, m_57, m_58, m_59]), (cc_l w0 (K 0) 5500 fw), (cc_rl nw (K 2) 13 fnw), (cc_rl q0 (K 2) 400 (u.2.2.1 0)), (cc_l xo (K 0) 400 fo), (cc_l xa (K 0) 400 fa), (cc_l od (K 0) 96 fod)]) u) t) (va_A [(cc_O m0 12 [m_0, m_1, m_2, .ref w0, m_4, m_5, m_6, m_7, m_8, m_9, m_10, m_11, m_12, m_13, m_14, m_15, m_16, m_17, m_18, m_19, .int 0, m_21, m_22, m_23, .ref xo, .ref xa, m_26, m_27, m_28, m_29, m_30, m_31, m_32, m_33, m_34, m_35, .ref nw, .ref q0, .int bro, .long val, m_40, m_41, m_42, m_43, m_44, m_45, m_46, m_47, m_48, m_49, m_50, .ref od, m_52, m_53, m_54, .int ofm, m_56, m_57, m_58, m_59]), (cc_l w0 (K 0) 5500 fw), (cc_rl nw (K 2) 13 fnw), (cc_rl q0 (K 2) 400 frs), (cc_l xo (K 0) 400 fo), (cc_l xa (K 0) 400 fa), (cc_l od (K 0) 96 fod)] sz)) 0 0 (va_A [(cc_O m0 12 [m_0, m_1, m_2, .ref w0, m_4, m_5, m_6, m_7, m_8, m_9, m_10, m_11, m_12, m_13, m_14, m_15, m_16, m_17, m_18, m_19, .int 0, m_21, m_22, m_23, .ref xo, .ref xa, m_26, m_27, m_28, m_29, m_30, m_31, m_32, m_33, m_34, m_35, .ref nw, .ref q0, .int bro, .long val, m_40, m_41, m_42, m_43, m_44, m_45, m_46, m_47, m_48, m_49, m_50, .ref od, m_52, m_53, m_54, .int ofm, m_56, m_57, m_58, m_59]), (cc_l w0 (K 0) 5500 fw), (cc_rl nw (K 2) 13 fnw), (cc_rl q0 (K 2) 400 frs), (cc_l xo (K 0) 400 fo), (cc_l xa (K 0) 400 fa), (cc_l od (K 0) 96 fod)] sz) := by
  refine Met.ofW (cc := cX12_sumOf) (maxL := 2) (ret := (some .int)) (by decide +kernel) rfl ?_
  intro p e s m args below meth c s₁ B hml hv
  obtain ⟨rfl, hsz, hP, hK, hD0, hN⟩ := hv
  have hx := B.exec
  have hb := B.bytes
  have hr := B.returns
  have hts := atoms_spec (ws := wsX12_sumOf) B.pre
  have hown : s.vm.findClass RX12 = some m.cls := findClass_of_methodNamed B.named
  have hlocks := B.notSynchronized
  subst hsz
  have hD := hD0.self (sz := s.heap.size)
  generalize hAe : va_A [(cc_O m0 12 [m_0, m_1, m_2, .ref w0, m_4, m_5, m_6, m_7, m_8, m_9, m_10, m_11, m_12, m_13, m_14, m_15, m_16, m_17, m_18, m_19, .int 0, m_21, m_22, m_23, .ref xo, .ref xa, m_26, m_27, m_28, m_29, m_30, m_31, m_32, m_33, m_34, m_35, .ref nw, .ref q0, .int bro, .long val, m_40, m_41, m_42, m_43, m_44, m_45, m_46, m_47, m_48, m_49, m_50, .ref od, m_52, m_53, m_54, .int ofm, m_56, m_57, m_58, m_59]), (cc_l w0 (K 0) 5500 fw), (cc_rl nw (K 2) 13 fnw), (cc_rl q0 (K 2) 400 frs), (cc_l xo (K 0) 400 fo), (cc_l xa (K 0) 400 fa), (cc_l od (K 0) 96 fod)] s.heap.size = A at hD ⊢
  have hA : ∀ q : Nat, s.heap.size ≤ q → A q := fun q h => by rw [← hAe]; exact Or.inr h
  clear hAe
  have hS : va_S A s.heap s.heap [] := va_S.rf
  replace hP : va_P D vwCl [(cc_O m0 12 [m_0, m_1, m_2, .ref w0, m_4, m_5, m_6, m_7, m_8, m_9, m_10, m_11, m_12, m_13, m_14, m_15, m_16, m_17, m_18, m_19, .int 0, m_21, m_22, m_23, .ref xo, .ref xa, m_26, m_27, m_28, m_29, m_30, m_31, m_32, m_33, m_34, m_35, .ref nw, .ref q0, .int bro, .long val, m_40, m_41, m_42, m_43, m_44, m_45, m_46, m_47, m_48, m_49, m_50, .ref od, m_52, m_53, m_54, .int ofm, m_56, m_57, m_58, m_59]), (cc_l w0 (K 0) 5500 fw), (cc_rl nw (K 2) 13 fnw), (cc_rl q0 (K 2) 400 frs), (cc_l xo (K 0) 400 fo), (cc_l xa (K 0) 400 fa), (cc_l od (K 0) 96 fod)] s.heap := hP
  have hl := lv_entry [.ref m0, .int x] (n := 2) (Nat.le_of_ble_eq_true rfl)
  rw [lg_entry_eq]
  generalize (lg_sl [.ref m0, .int x] ++ List.replicate (2 - (lg_sl [.ref m0, .int x]).length) Slot.unset).toArray = ls at hl ⊢
  have hl : lv_has ls 2 [(0, .ref m0), (1, .int x)] := hl
  have hw12 : ∀ w ∈ wsX120, w ∈ wsX12_sumOf := fun w h => (List.mem_cons_of_mem _ (List.mem_append_right _ h))
  generalize hQ : MQ below _ _ s _ _ _ = Q
  have hE := E_v_sumOf.eq_def x bro val ofm fw fnw frs fo fa fod
  refine lv_aload_n hx hb dX12_sumOf_0 rfl (lv_at hl 0 rfl) (va_get (ci := 12) (v := .int ofm) (C := RX12) (T := TX12) (N := 60) hx hb hts hw12 hown hK hP 0 rfl rfl 55 (by decide +kernel) (hts _ mm_X12_sumOf_885) (fun _ h9 => h9) rfl dX12_sumOf_1 (lv_if_ne (tgt := 24) hx hb dX12_sumOf_4 (by decide +kernel) (fun c_87 => ?_) (fun c_87 => ?_)))
  · have c_87i := i_ne (x := ofm.toInt) (y := 0) rfl rfl c_87
    replace hE := hE.trans (if_neg c_87)
    refine lv_iconst (v := (-1)) hx hb dX12_sumOf_24 (by decide +kernel) ?_
    rw [← hQ]
    have hP9 := hP.sub (ws' := [(cc_O m0 12 [m_0, m_1, m_2, .ref w0, m_4, m_5, m_6, m_7, m_8, m_9, m_10, m_11, m_12, m_13, m_14, m_15, m_16, m_17, m_18, m_19, .int 0, m_21, m_22, m_23, .ref xo, .ref xa, m_26, m_27, m_28, m_29, m_30, m_31, m_32, m_33, m_34, m_35, .ref nw, .ref q0, .int bro, .long val, m_40, m_41, m_42, m_43, m_44, m_45, m_46, m_47, m_48, m_49, m_50, .ref od, m_52, m_53, m_54, .int ofm, m_56, m_57, m_58, m_59]), (cc_l w0 (K 0) 5500 fw), (cc_rl nw (K 2) 13 fnw), (cc_rl q0 (K 2) 400 frs), (cc_l xo (K 0) 400 fo), (cc_l xa (K 0) 400 fa), (cc_l od (K 0) 96 fod)]) [0, 1, 2, 3, 4, 5, 6] rfl
    have hD9 := sub_D hP9 hD [0, 1, 2, 3, 4, 5, 6] (by decide +kernel) rfl
    exact W.iret (v := (-1)) hx hb hr (fun t ht hW => ⟨⟨(-1), ((fun _ => 0, fun _ => fun _ => 0, fun i => match i with | _ => frs, fun i => match i with | 0 => bro | _ => ofm, fun i => match i with | _ => val, fun _ => fun _ => none) : Su), rfl, ⟨(show 0 ≤ (bro : Int32).toInt ∧ (bro : Int32).toInt ≤ 1 by omega), (show 0 ≤ (ofm : Int32).toInt ∧ (ofm : Int32).toInt ≤ 1 by omega), hE.symm, trivial⟩, (⟨by rw [ht]; exact hP9, hD9⟩ : Wd D A _ t)⟩, hS.F ht⟩) hS.2.2 dX12_sumOf_25
  · have c_87i := i_eq (x := ofm.toInt) (y := 0) rfl rfl c_87
    replace hE := hE.trans (if_pos c_87)
    refine lv_aload_n hx hb dX12_sumOf_7 rfl (lv_at hl 0 rfl) (va_get (ci := 12) (v := .ref od) (C := RX12) (T := TX12) (N := 60) hx hb hts hw12 hown hK hP 0 rfl rfl 51 (by decide +kernel) (hts _ mm_X12_sumOf_881) (fun _ h9 => h9) rfl dX12_sumOf_8 (lv_iload_n hx hb dX12_sumOf_11 rfl (lv_at hl 1 rfl) (va_iald hx hb hK hP 6 0 rfl rfl (i_in rfl (by omega)) dX12_sumOf_12 (lv_topi (fun x_88 ex_88 => ?_)))))
    replace hE := hE.trans (Lt_in ex_88)
    refine lv_aload_n hx hb dX12_sumOf_13 rfl (lv_at hl 0 rfl) (va_get (ci := 12) (v := .ref od) (C := RX12) (T := TX12) (N := 60) hx hb hts hw12 hown hK hP 0 rfl rfl 51 (by decide +kernel) (hts _ mm_X12_sumOf_881) (fun _ h9 => h9) rfl dX12_sumOf_14 (lv_iload_n hx hb dX12_sumOf_17 rfl (lv_at hl 1 rfl) (lv_iconst (v := 1) hx hb dX12_sumOf_18 (by decide +kernel) (lv_iadd hx hb dX12_sumOf_19 (lv_topi (fun x_89 ex_89 => ?_))))))
    replace hE := hE.trans (Lt_in ex_89)
    have hx_89 : x_89.toInt = (x.toInt + 1) := by rw [ex_89]; exact i_add rfl (show (1 : Int32).toInt = 1 from rfl) (by omega)
    refine va_iald hx hb hK hP 6 0 rfl rfl (i_in hx_89 (by omega)) dX12_sumOf_20 (lv_topi (fun x_90 ex_90 => ?_))
    replace hE := hE.trans (Lt_in ex_90)
    refine lv_icmp_ne (tgt := 26) hx hb dX12_sumOf_21 (by decide +kernel) (fun c_91 => ?_) (fun c_91 => ?_)
    · have c_91i := i_ne (x := x_88.toInt) (y := x_90.toInt) rfl rfl c_91
      replace hE := hE.trans (if_neg c_91)
      refine lv_aload_n hx hb dX12_sumOf_26 rfl (lv_at hl 0 rfl) (lv_iconst (v := 1) hx hb dX12_sumOf_27 (by decide +kernel) (va_put (ci := 12) (v := .int 1) (ty := .boolean) (C := RX12) (T := TX12) (N := 60) hx hb hts hw12 tyX12 tyX12_ok nmX12 hown hK hP hD hS 0 rfl rfl 20 (by decide +kernel) (hts _ mm_X12_sumOf_850) (fun _ h9 => h9) rfl (by decide +kernel) (by first | rfl | decide) (by first | rfl | decide) (Nat.le_of_ble_eq_true rfl) dX12_sumOf_28 (fun H locs hP0 hD0 hS0 => ?_)))
      replace hP : va_P D vwCl [(cc_O m0 12 [m_0, m_1, m_2, .ref w0, m_4, m_5, m_6, m_7, m_8, m_9, m_10, m_11, m_12, m_13, m_14, m_15, m_16, m_17, m_18, m_19, .int 1, m_21, m_22, m_23, .ref xo, .ref xa, m_26, m_27, m_28, m_29, m_30, m_31, m_32, m_33, m_34, m_35, .ref nw, .ref q0, .int bro, .long val, m_40, m_41, m_42, m_43, m_44, m_45, m_46, m_47, m_48, m_49, m_50, .ref od, m_52, m_53, m_54, .int ofm, m_56, m_57, m_58, m_59]), (cc_l w0 (K 0) 5500 fw), (cc_rl nw (K 2) 13 fnw), (cc_rl q0 (K 2) 400 frs), (cc_l xo (K 0) 400 fo), (cc_l xa (K 0) 400 fa), (cc_l od (K 0) 96 fod)] H := hP0
      replace hD := as_D hP hD0 rfl
      replace hS := hS0
      clear hP0 hD0 hS0
      refine lv_aload_n hx hb dX12_sumOf_31 rfl (lv_at hl 0 rfl) (lv_aload_n hx hb dX12_sumOf_32 rfl (lv_at hl 0 rfl) (va_get (ci := 12) (v := .ref od) (C := RX12) (T := TX12) (N := 60) hx hb hts hw12 hown hK hP 0 rfl rfl 51 (by decide +kernel) (hts _ mm_X12_sumOf_881) (fun _ h9 => h9) rfl dX12_sumOf_33 (lv_iload_n hx hb dX12_sumOf_36 rfl (lv_at hl 1 rfl) (va_iald hx hb hK hP 6 0 rfl rfl (i_in rfl (by omega)) dX12_sumOf_37 (lv_topi (fun x_92 ex_92 => ?_))))))
      replace hE := hE.trans (Lt_in ex_92)
      have ox_92 : x_92 = fod (x.toInt).toNat := by rw [ex_92, i_clamp rfl]
      refine lv_aload_n hx hb dX12_sumOf_38 rfl (lv_at hl 0 rfl) (va_get (ci := 12) (v := .ref od) (C := RX12) (T := TX12) (N := 60) hx hb hts hw12 hown hK hP 0 rfl rfl 51 (by decide +kernel) (hts _ mm_X12_sumOf_881) (fun _ h9 => h9) rfl dX12_sumOf_39 (lv_iload_n hx hb dX12_sumOf_42 rfl (lv_at hl 1 rfl) (lv_iconst (v := 1) hx hb dX12_sumOf_43 (by decide +kernel) (lv_iadd hx hb dX12_sumOf_44 (lv_topi (fun x_93 ex_93 => ?_))))))
      replace hE := hE.trans (Lt_in ex_93)
      have hx_93 : x_93.toInt = (x.toInt + 1) := by rw [ex_93]; exact i_add rfl (show (1 : Int32).toInt = 1 from rfl) (by omega)
      refine va_iald hx hb hK hP 6 0 rfl rfl (i_in hx_93 (by omega)) dX12_sumOf_45 (lv_topi (fun x_94 ex_94 => ?_))
      replace hE := hE.trans (Lt_in ex_94)
      have ox_94 : x_94 = fod ((x.toInt + 1)).toNat := by rw [ex_94, i_clamp hx_93]
      refine kcv (S := Su) (wr := [(cc_l od (K 0) 96 fod)]) (va_runV (As := [.int x_92, .int x_94]) (rest := []) ⟨hx, hb, hml, hown, hts⟩ (v_reckonOrd l D K m0 x_92 x_94 m_0 m_1 m_2 w0 m_4 m_5 m_6 m_7 m_8 m_9 m_10 m_11 m_12 m_13 m_14 m_15 m_16 m_17 m_18 m_19 m_21 m_22 m_23 xo xa m_26 m_27 m_28 m_29 m_30 m_31 m_32 m_33 m_34 m_35 nw q0 bro val m_40 m_41 m_42 m_43 m_44 m_45 m_46 m_47 m_48 m_49 m_50 (.ref od) m_52 m_53 m_54 (.int ofm) m_56 m_57 m_58 m_59 fw gr fnw frs fo fa H.size (by first | omega | decide) (by rw [ox_92, ox_94]; exact hsg) zfw zgr) (cwV 2 hts gX12_sumOf_X12_reckonAll rfl rfl rfl (by decide +kernel) ⟨Nat.le_of_ble_eq_true rfl, Nat.le_of_ble_eq_true rfl⟩) (mkV hK hN (hP.sub [0, 1, 2, 3, 4, 5] rfl) (hD.sub [0, 1, 2, 3, 4, 5] (by decide +kernel) rfl) (ci := 12) (q0 := 0) rfl rfl) rfl rfl hl.1 rfl (lv_room (Nat.le_of_ble_eq_true rfl)) dX12_sumOf_46 ⟨Nat.le_of_ble_eq_true rfl, Nat.le_of_ble_eq_true rfl⟩) hP hD hS hA [0, 1, 2, 3, 4, 5] [6] rfl rfl (by decide +kernel) (by decide +kernel) (fun u_96 H locs hw hP0 hD0 hS0 => ?_)
      replace hP : va_P D vwCl [(cc_l od (K 0) 96 fod), (cc_O m0 12 [m_0, m_1, m_2, .ref w0, m_4, m_5, m_6, m_7, m_8, m_9, m_10, m_11, m_12, m_13, m_14, m_15, m_16, m_17, m_18, m_19, .int 1, m_21, m_22, m_23, .ref xo, .ref xa, m_26, m_27, m_28, m_29, m_30, m_31, m_32, m_33, m_34, m_35, .ref nw, .ref q0, .int (u_96.2.2.2.1 0), .long (u_96.2.2.2.2.1 0), m_40, m_41, m_42, m_43, m_44, m_45, m_46, m_47, m_48, m_49, m_50, .ref od, m_52, m_53, m_54, .int ofm, m_56, m_57, m_58, m_59]), (cc_l w0 (K 0) 5500 fw), (cc_rl nw (K 2) 13 fnw), (cc_rl q0 (K 2) 400 (u_96.2.2.1 0)), (cc_l xo (K 0) 400 fo), (cc_l xa (K 0) 400 fa)] H := hP0
      replace hD := as_D hP hD0 rfl
      replace hS := hS0
      clear hP0 hD0 hS0
      obtain ⟨k_97, k_98, -⟩ := hw
      replace hE := (hE.trans (Lt2_in k_98)).trans (Lt2_in rfl)
      refine lv_aload_n hx hb dX12_sumOf_49 rfl (lv_at hl 0 rfl) (lv_iconst (v := 0) hx hb dX12_sumOf_50 (by decide +kernel) (va_put (ci := 12) (v := .int 0) (ty := .boolean) (C := RX12) (T := TX12) (N := 60) hx hb hts hw12 tyX12 tyX12_ok nmX12 hown hK hP hD hS 1 rfl rfl 20 (by decide +kernel) (hts _ mm_X12_sumOf_850) (fun _ h9 => h9) rfl (by decide +kernel) (by first | rfl | decide) (by first | rfl | decide) (Nat.le_of_ble_eq_true rfl) dX12_sumOf_51 (fun H locs hP0 hD0 hS0 => ?_)))
      replace hP : va_P D vwCl [(cc_l od (K 0) 96 fod), (cc_O m0 12 [m_0, m_1, m_2, .ref w0, m_4, m_5, m_6, m_7, m_8, m_9, m_10, m_11, m_12, m_13, m_14, m_15, m_16, m_17, m_18, m_19, .int 0, m_21, m_22, m_23, .ref xo, .ref xa, m_26, m_27, m_28, m_29, m_30, m_31, m_32, m_33, m_34, m_35, .ref nw, .ref q0, .int (u_96.2.2.2.1 0), .long (u_96.2.2.2.2.1 0), m_40, m_41, m_42, m_43, m_44, m_45, m_46, m_47, m_48, m_49, m_50, .ref od, m_52, m_53, m_54, .int ofm, m_56, m_57, m_58, m_59]), (cc_l w0 (K 0) 5500 fw), (cc_rl nw (K 2) 13 fnw), (cc_rl q0 (K 2) 400 (u_96.2.2.1 0)), (cc_l xo (K 0) 400 fo), (cc_l xa (K 0) 400 fa)] H := hP0
      replace hD := as_D hP hD0 rfl
      replace hS := hS0
      clear hP0 hD0 hS0
      refine lv_aload_n hx hb dX12_sumOf_54 rfl (lv_at hl 0 rfl) (lv_aload_n hx hb dX12_sumOf_55 rfl (lv_at hl 0 rfl) (va_get (ci := 12) (v := .int (u_96.2.2.2.1 0)) (C := RX12) (T := TX12) (N := 60) hx hb hts hw12 hown hK hP 1 rfl rfl 38 (by decide +kernel) (hts _ mm_X12_sumOf_868) (fun _ h9 => h9) rfl dX12_sumOf_56 (va_put (ci := 12) (v := .int (u_96.2.2.2.1 0)) (ty := .boolean) (C := RX12) (T := TX12) (N := 60) hx hb hts hw12 tyX12 tyX12_ok nmX12 hown hK hP hD hS 1 rfl rfl 55 (by decide +kernel) (hts _ mm_X12_sumOf_885) (fun _ h9 => h9) rfl (by decide +kernel) (zb rfl (by omega)) (zb_f rfl (by omega)) (Nat.le_of_ble_eq_true rfl) dX12_sumOf_59 (fun H locs hP0 hD0 hS0 => ?_))))
      replace hP : va_P D vwCl [(cc_l od (K 0) 96 fod), (cc_O m0 12 [m_0, m_1, m_2, .ref w0, m_4, m_5, m_6, m_7, m_8, m_9, m_10, m_11, m_12, m_13, m_14, m_15, m_16, m_17, m_18, m_19, .int 0, m_21, m_22, m_23, .ref xo, .ref xa, m_26, m_27, m_28, m_29, m_30, m_31, m_32, m_33, m_34, m_35, .ref nw, .ref q0, .int (u_96.2.2.2.1 0), .long (u_96.2.2.2.2.1 0), m_40, m_41, m_42, m_43, m_44, m_45, m_46, m_47, m_48, m_49, m_50, .ref od, m_52, m_53, m_54, .int (u_96.2.2.2.1 0), m_56, m_57, m_58, m_59]), (cc_l w0 (K 0) 5500 fw), (cc_rl nw (K 2) 13 fnw), (cc_rl q0 (K 2) 400 (u_96.2.2.1 0)), (cc_l xo (K 0) 400 fo), (cc_l xa (K 0) 400 fa)] H := hP0
      replace hD := as_D hP hD0 rfl
      replace hS := hS0
      clear hP0 hD0 hS0
      refine lv_aload_n hx hb dX12_sumOf_62 rfl (lv_at hl 0 rfl) (va_get (ci := 12) (v := .long (u_96.2.2.2.2.1 0)) (C := RX12) (T := TX12) (N := 60) hx hb hts hw12 hown hK hP 1 rfl rfl 39 (by decide +kernel) (hts _ mm_X12_sumOf_869) (fun _ h9 => h9) rfl dX12_sumOf_63 (lv_l2i hx hb dX12_sumOf_66 rfl (lv_topi (fun x_99 ex_99 => ?_))))
      replace hE := hE.trans (Lt_in ex_99)
      rw [← hQ]
      have hP9 := hP.sub (ws' := [(cc_O m0 12 [m_0, m_1, m_2, .ref w0, m_4, m_5, m_6, m_7, m_8, m_9, m_10, m_11, m_12, m_13, m_14, m_15, m_16, m_17, m_18, m_19, .int 0, m_21, m_22, m_23, .ref xo, .ref xa, m_26, m_27, m_28, m_29, m_30, m_31, m_32, m_33, m_34, m_35, .ref nw, .ref q0, .int (u_96.2.2.2.1 0), .long (u_96.2.2.2.2.1 0), m_40, m_41, m_42, m_43, m_44, m_45, m_46, m_47, m_48, m_49, m_50, .ref od, m_52, m_53, m_54, .int (u_96.2.2.2.1 0), m_56, m_57, m_58, m_59]), (cc_l w0 (K 0) 5500 fw), (cc_rl nw (K 2) 13 fnw), (cc_rl q0 (K 2) 400 (u_96.2.2.1 0)), (cc_l xo (K 0) 400 fo), (cc_l xa (K 0) 400 fa), (cc_l od (K 0) 96 fod)]) [1, 2, 3, 4, 5, 6, 0] rfl
      have hD9 := sub_D hP9 hD [1, 2, 3, 4, 5, 6, 0] (by decide +kernel) rfl
      exact W.iret (v := x_99) hx hb hr (fun t ht hW => ⟨⟨x_99, ((fun _ => 0, fun _ => fun _ => 0, fun i => match i with | _ => (u_96.2.2.1 0), fun i => match i with | 0 => (u_96.2.2.2.1 0) | _ => (u_96.2.2.2.1 0), fun i => match i with | _ => (u_96.2.2.2.2.1 0), fun _ => fun _ => none) : Su), rfl, ⟨(show 0 ≤ ((u_96.2.2.2.1 0) : Int32).toInt ∧ ((u_96.2.2.2.1 0) : Int32).toInt ≤ 1 by omega), (show 0 ≤ ((u_96.2.2.2.1 0) : Int32).toInt ∧ ((u_96.2.2.2.1 0) : Int32).toInt ≤ 1 by omega), hE.symm, trivial⟩, (⟨by rw [ht]; exact hP9, hD9⟩ : Wd D A _ t)⟩, hS.F ht⟩) hS.2.2 dX12_sumOf_67
    · have c_91i := i_eq (x := x_88.toInt) (y := x_90.toInt) rfl rfl c_91
      replace hE := hE.trans (if_pos c_91)
      refine lv_iconst (v := (-1)) hx hb dX12_sumOf_24 (by decide +kernel) ?_
      rw [← hQ]
      have hP9 := hP.sub (ws' := [(cc_O m0 12 [m_0, m_1, m_2, .ref w0, m_4, m_5, m_6, m_7, m_8, m_9, m_10, m_11, m_12, m_13, m_14, m_15, m_16, m_17, m_18, m_19, .int 0, m_21, m_22, m_23, .ref xo, .ref xa, m_26, m_27, m_28, m_29, m_30, m_31, m_32, m_33, m_34, m_35, .ref nw, .ref q0, .int bro, .long val, m_40, m_41, m_42, m_43, m_44, m_45, m_46, m_47, m_48, m_49, m_50, .ref od, m_52, m_53, m_54, .int ofm, m_56, m_57, m_58, m_59]), (cc_l w0 (K 0) 5500 fw), (cc_rl nw (K 2) 13 fnw), (cc_rl q0 (K 2) 400 frs), (cc_l xo (K 0) 400 fo), (cc_l xa (K 0) 400 fa), (cc_l od (K 0) 96 fod)]) [0, 1, 2, 3, 4, 5, 6] rfl
      have hD9 := sub_D hP9 hD [0, 1, 2, 3, 4, 5, 6] (by decide +kernel) rfl
      exact W.iret (v := (-1)) hx hb hr (fun t ht hW => ⟨⟨(-1), ((fun _ => 0, fun _ => fun _ => 0, fun i => match i with | _ => frs, fun i => match i with | 0 => bro | _ => ofm, fun i => match i with | _ => val, fun _ => fun _ => none) : Su), rfl, ⟨(show 0 ≤ (bro : Int32).toInt ∧ (bro : Int32).toInt ≤ 1 by omega), (show 0 ≤ (ofm : Int32).toInt ∧ (ofm : Int32).toInt ≤ 1 by omega), hE.symm, trivial⟩, (⟨by rw [ht]; exact hP9, hD9⟩ : Wd D A _ t)⟩, hS.F ht⟩) hS.2.2 dX12_sumOf_25
set_option maxRecDepth 100000 in
noncomputable def E_v_act (x : Int32) (y : Int32) (z : Int32) (nu : Int32) (lw : Int32) (bro : Int32) (val : Int64) (sm : Int64) (fw : Nat → Int32) (fe : Nat → Int64) (frs : Nat → Int64) (fu : Nat → Int32) (fs : Nat → Int32) (fb : Nat → Int32) : Int32 × Int32 × Int32 × Int32 × Int64 × Int64 × (Nat → Int32) × (Nat → Int64) × (Nat → Int64) × (Nat → Int32) × (Nat → Int32) × (Nat → Int32) :=
  if (x : Int32).toInt = 0 then (Lt2 (E_v_stokeNow y nu lw bro val sm fw fe frs fu fs) (fun r_140 q0_r_140 => Lt2 q0_r_140 (fun u_141_2_2_2_1_0 q1_u_141_2_2_2_1_0 => Lt2 q1_u_141_2_2_2_1_0 (fun u_141_2_2_2_1_1 q2_u_141_2_2_2_1_1 => Lt2 q2_u_141_2_2_2_1_1 (fun u_141_2_2_2_1_2 q3_u_141_2_2_2_1_2 => Lt2 q3_u_141_2_2_2_1_2 (fun u_141_2_2_2_2_1_0 q4_u_141_2_2_2_2_1_0 => Lt2 q4_u_141_2_2_2_2_1_0 (fun u_141_2_2_2_2_1_1 q5_u_141_2_2_2_2_1_1 => Lt2 q5_u_141_2_2_2_2_1_1 (fun u_141_2_1_0 q6_u_141_2_1_0 => Lt2 q6_u_141_2_1_0 (fun u_141_2_2_1_0 q7_u_141_2_2_1_0 => Lt2 q7_u_141_2_2_1_0 (fun u_141_2_2_1_1 q8_u_141_2_2_1_1 => Lt2 q8_u_141_2_2_1_1 (fun u_141_2_1_1 u_141_2_1_2 => ((r_140, u_141_2_2_2_1_0, u_141_2_2_2_1_1, u_141_2_2_2_1_2, u_141_2_2_2_2_1_0, u_141_2_2_2_2_1_1, u_141_2_1_0, u_141_2_2_1_0, u_141_2_2_1_1, u_141_2_1_1, u_141_2_1_2, fb) : Int32 × Int32 × Int32 × Int32 × Int64 × Int64 × (Nat → Int32) × (Nat → Int64) × (Nat → Int64) × (Nat → Int32) × (Nat → Int32) × (Nat → Int32))))))))))))) else (if (x : Int32).toInt = 1 then (Lt2 (E_v_dampNow y z nu fw fu fs) (fun r_150 q0_r_150 => Lt2 q0_r_150 (fun u_151_2_2_2_1_0 q1_u_151_2_2_2_1_0 => Lt2 q1_u_151_2_2_2_1_0 (fun u_151_2_1_0 q2_u_151_2_1_0 => Lt2 q2_u_151_2_1_0 (fun u_151_2_1_1 u_151_2_1_2 => ((r_150, u_151_2_2_2_1_0, lw, bro, val, sm, u_151_2_1_0, fe, frs, u_151_2_1_1, u_151_2_1_2, fb) : Int32 × Int32 × Int32 × Int32 × Int64 × Int64 × (Nat → Int32) × (Nat → Int64) × (Nat → Int64) × (Nat → Int32) × (Nat → Int32) × (Nat → Int32))))))) else (if (x : Int32).toInt = 2 then (Lt2 (E_v_buyNow y z nu fw fu fs) (fun r_159 q0_r_159 => Lt2 q0_r_159 (fun u_160_2_2_2_1_0 q1_u_160_2_2_2_1_0 => Lt2 q1_u_160_2_2_2_1_0 (fun u_160_2_1_0 q2_u_160_2_1_0 => Lt2 q2_u_160_2_1_0 (fun u_160_2_1_1 u_160_2_1_2 => ((r_159, u_160_2_2_2_1_0, lw, bro, val, sm, u_160_2_1_0, fe, frs, u_160_2_1_1, u_160_2_1_2, fb) : Int32 × Int32 × Int32 × Int32 × Int64 × Int64 × (Nat → Int32) × (Nat → Int64) × (Nat → Int64) × (Nat → Int32) × (Nat → Int32) × (Nat → Int32))))))) else (Lt2 (E_v_passNow nu lw bro val sm fw fe frs fu fs fb) (fun r_168 q0_r_168 => Lt2 q0_r_168 (fun u_169_2_2_2_1_0 q1_u_169_2_2_2_1_0 => Lt2 q1_u_169_2_2_2_1_0 (fun u_169_2_2_2_1_1 q2_u_169_2_2_2_1_1 => Lt2 q2_u_169_2_2_2_1_1 (fun u_169_2_2_2_1_2 q3_u_169_2_2_2_1_2 => Lt2 q3_u_169_2_2_2_1_2 (fun u_169_2_2_2_2_1_0 q4_u_169_2_2_2_2_1_0 => Lt2 q4_u_169_2_2_2_2_1_0 (fun u_169_2_2_2_2_1_1 q5_u_169_2_2_2_2_1_1 => Lt2 q5_u_169_2_2_2_2_1_1 (fun u_169_2_1_0 q6_u_169_2_1_0 => Lt2 q6_u_169_2_1_0 (fun u_169_2_2_1_0 q7_u_169_2_2_1_0 => Lt2 q7_u_169_2_2_1_0 (fun u_169_2_2_1_1 q8_u_169_2_2_1_1 => Lt2 q8_u_169_2_2_1_1 (fun u_169_2_1_1 q9_u_169_2_1_1 => Lt2 q9_u_169_2_1_1 (fun u_169_2_1_2 u_169_2_1_3 => ((r_168, u_169_2_2_2_1_0, u_169_2_2_2_1_1, u_169_2_2_2_1_2, u_169_2_2_2_2_1_0, u_169_2_2_2_2_1_1, u_169_2_1_0, u_169_2_2_1_0, u_169_2_2_1_1, u_169_2_1_1, u_169_2_1_2, u_169_2_1_3) : Int32 × Int32 × Int32 × Int32 × Int64 × Int64 × (Nat → Int32) × (Nat → Int64) × (Nat → Int64) × (Nat → Int32) × (Nat → Int32) × (Nat → Int32))))))))))))))))
set_option maxHeartbeats 4000000 in
set_option maxRecDepth 100000 in
theorem v_act (l : Launch) (D : va_G) (K : Nat → ClassId) (m0 : Nat) (x : Int32) (y : Int32) (z : Int32) (m_0 : Value) (m_1 : Value) (m_2 : Value) (w0 : Nat) (m_4 : Value) (m_5 : Value) (u0 : Nat) (s0 : Nat) (nu : Int32) (m_9 : Value) (m_10 : Value) (m_11 : Value) (m_12 : Value) (m_13 : Value) (m_14 : Value) (m_15 : Value) (m_16 : Value) (m_17 : Value) (m_18 : Value) (m_19 : Value) (m_21 : Value) (m_22 : Value) (m_23 : Value) (m_24 : Value) (m_25 : Value) (m_26 : Value) (m_27 : Value) (m_28 : Value) (m_29 : Value) (m_30 : Value) (m_31 : Value) (m_32 : Value) (m_33 : Value) (lw : Int32) (e0 : Nat) (m_36 : Value) (q0 : Nat) (bro : Int32) (val : Int64) (sm : Int64) (b0 : Nat) (m_42 : Value) (m_43 : Value) (m_44 : Value) (m_45 : Value) (m_46 : Value) (m_47 : Value) (m_48 : Value) (m_49 : Value) (m_50 : Value) (m_51 : Value) (m_52 : Value) (m_53 : Value) (m_54 : Value) (m_55 : Value) (m_56 : Value) (m_57 : Value) (m_58 : Value) (m_59 : Value) (fw : Nat → Int32) (gr : Nat → Int32) (fe : Nat → Int64) (frs : Nat → Int64) (fu : Nat → Int32) (fs : Nat → Int32) (fb : Nat → Int32) (sz : Nat) (zbro : 0 ≤ bro.toInt ∧ bro.toInt ≤ 1) (znu : 0 ≤ nu.toInt ∧ nu.toInt ≤ 16) (zfw : RwOK fw) (zgr : FzM gr fw) (zfu : Pu 558 fu) (zfs : Rg 16 0 3 fs) : Met l yX12_act wsX12_act ({ frames := 8, cells := 0, slots := 0, locals := 188 }) (va_Pc [.ref m0, .int x, .int y, .int z] (Pre D K [(cc_O m0 12 [m_0, m_1, m_2, .ref w0, m_4, m_5, .ref u0, .ref s0, .int nu, m_9, m_10, m_11, m_12, m_13, m_14, m_15, m_16, m_17, m_18, m_19, .int 0, m_21, m_22, m_23, m_24, m_25, m_26, m_27, m_28, m_29, m_30, m_31, m_32, m_33, .int lw, .ref e0, m_36, .ref q0, .int bro, .long val, .long sm, .ref b0, m_42, m_43, m_44, m_45, m_46, m_47, m_48, m_49, m_50, m_51, m_52, m_53, m_54, m_55, m_56, m_57, m_58, m_59]), (cc_l w0 (K 0) 5500 fw), (cc_rl e0 (K 2) 13 fe), (cc_rl q0 (K 2) 400 frs), (cc_l u0 (K 0) 558 fu), (cc_l s0 (K 0) 16 fs), (cc_l b0 (K 0) 8 fb)] sz)) (va_Qi (S := Su) (fun (r : Int32) (u : Su) => ((-3) ≤ r.toInt ∧ r.toInt ≤ 999) ∧ (0 ≤ (u.2.2.2.1 0).toInt ∧ (u.2.2.2.1 0).toInt ≤ 16) ∧ (0 ≤ (u.2.2.2.1 2).toInt ∧ (u.2.2.2.1 2).toInt ≤ 1) ∧ (RwOK (u.2.1 0)) ∧ (FzM gr (u.2.1 0)) ∧ (Pu 558 (u.2.1 1)) ∧ (Rg 16 0 3 (u.2.1 2)) ∧ ((r, (u.2.2.2.1 0), (u.2.2.2.1 1), (u.2.2.2.1 2), (u.2.2.2.2.1 0), (u.2.2.2.2.1 1), (u.2.1 0), (u.2.2.1 0), (u.2.2.1 1), (u.2.1 1), (u.2.1 2), (u.2.1 3)) = E_v_act x y z nu lw bro val sm fw fe frs fu fs fb) ∧ True) (fun u t => Wd D (va_A [(cc_O m0 12 [m_0, m_1, m_2, .ref w0, m_4, m_5, .ref u0, .ref s0, .int nu, m_9, m_10, m_11, m_12, m_13, m_14, m_15, m_16, m_17, m_18, m_19, .int 0, m_21, m_22, m_23, m_24, m_25, m_26, m_27, m_28, m_29, m_30, m_31, m_32, m_33, .int lw, .ref e0, m_36, .ref q0, .int bro, .long val, .long sm, .ref b0, m_42, m_43, m_44, m_45, m_46, m_47, m_48, m_49, m_50, m_51, m_52, m_53, m_54, m_55, m_56, m_57, m_58, m_59]), (cc_l w0 (K 0) 5500 fw), (cc_rl e0 (K 2) 13 fe), (cc_rl q0 (K 2) 400 frs), (cc_l u0 (K 0) 558 fu), (cc_l s0 (K 0) 16 fs), (cc_l b0 (K 0) 8 fb)] sz) ((fun u => [(cc_O m0 12 [m_0, m_1, m_2, .ref w0, m_4, m_5, .ref u0, .ref s0, .int (u.2.2.2.1 0), m_9, m_10, m_11, m_12, m_13, m_14, m_15, m_16, m_17, m_18, m_19, .int 0, m_21, m_22, m_23, m_24, m_25, m_26, m_27, m_28, m_29, m_30, m_31, m_32, m_33, .int (u.2.2.2.1 1), .ref e0, m_36, .ref q0, .int (u.2.2.2.1 2), .long (u.2.2.2.2.1 0), .long (u.2.2.2.2.1 1), .ref b0, m_42, m_43, m_44, m_45, m_46, m_47, m_48, m_49, m_50, m_51, m_52, m_53, m_54, m_55, m_56, m_57, m_58, m_59]), (cc_l w0 (K 0) 5500 (u.2.1 0)), (cc_rl e0 (K 2) 13 (u.2.2.1 0)), (cc_rl q0 (K 2) 400 (u.2.2.1 1)), (cc_l u0 (K 0) 558 (u.2.1 1)), (cc_l s0 (K 0) 16 (u.2.1 2)), (cc_l b0 (K 0) 8 (u.2.1 3))]) u) t) (va_A [(cc_O m0 12 [m_0, m_1, m_2, .ref w0, m_4, m_5, .ref u0, .ref s0, .int nu, m_9, m_10, m_11, m_12, m_13, m_14, m_15, m_16, m_17, m_18, m_19, .int 0, m_21, m_22, m_23, m_24, m_25, m_26, m_27, m_28, m_29, m_30, m_31, m_32, m_33, .int lw, .ref e0, m_36, .ref q0, .int bro, .long val, .long sm, .ref b0, m_42, m_43, m_44, m_45, m_46, m_47, m_48, m_49, m_50, m_51, m_52, m_53, m_54, m_55, m_56, m_57, m_58, m_59]), (cc_l w0 (K 0) 5500 fw), (cc_rl e0 (K 2) 13 fe), (cc_rl q0 (K 2) 400 frs), (cc_l u0 (K 0) 558 fu), (cc_l s0 (K 0) 16 fs), (cc_l b0 (K 0) 8 fb)] sz)) 0 0 (va_A [(cc_O m0 12 [m_0, m_1, m_2, .ref w0, m_4, m_5, .ref u0, .ref s0, .int nu, m_9, m_10, m_11, m_12, m_13, m_14, m_15, m_16, m_17, m_18, m_19, .int 0, m_21, m_22, m_23, m_24, m_25, m_26, m_27, m_28, m_29, m_30, m_31, m_32, m_33, .int lw, .ref e0, m_36, .ref q0, .int bro, .long val, .long sm, .ref b0, m_42, m_43, m_44, m_45, m_46, m_47, m_48, m_49, m_50, m_51, m_52, m_53, m_54, m_55, m_56, m_57, m_58, m_59]), (cc_l w0 (K 0) 5500 fw), (cc_rl e0 (K 2) 13 fe), (cc_rl q0 (K 2) 400 frs), (cc_l u0 (K 0) 558 fu), (cc_l s0 (K 0) 16 fs), (cc_l b0 (K 0) 8 fb)] sz) := by
  refine Met.ofW (cc := cX12_act) (maxL := 4) (ret := (some .int)) (by decide +kernel) rfl ?_
  intro p e s m args below meth c s₁ B hml hv
  obtain ⟨rfl, hsz, hP, hK, hD0, hN⟩ := hv
  have hx := B.exec
  have hb := B.bytes
  have hr := B.returns
  have hts := atoms_spec (ws := wsX12_act) B.pre
  have hown : s.vm.findClass RX12 = some m.cls := findClass_of_methodNamed B.named
  have hlocks := B.notSynchronized
  subst hsz
  have hD := hD0.self (sz := s.heap.size)
  generalize hAe : va_A [(cc_O m0 12 [m_0, m_1, m_2, .ref w0, m_4, m_5, .ref u0, .ref s0, .int nu, m_9, m_10, m_11, m_12, m_13, m_14, m_15, m_16, m_17, m_18, m_19, .int 0, m_21, m_22, m_23, m_24, m_25, m_26, m_27, m_28, m_29, m_30, m_31, m_32, m_33, .int lw, .ref e0, m_36, .ref q0, .int bro, .long val, .long sm, .ref b0, m_42, m_43, m_44, m_45, m_46, m_47, m_48, m_49, m_50, m_51, m_52, m_53, m_54, m_55, m_56, m_57, m_58, m_59]), (cc_l w0 (K 0) 5500 fw), (cc_rl e0 (K 2) 13 fe), (cc_rl q0 (K 2) 400 frs), (cc_l u0 (K 0) 558 fu), (cc_l s0 (K 0) 16 fs), (cc_l b0 (K 0) 8 fb)] s.heap.size = A at hD ⊢
  have hA : ∀ q : Nat, s.heap.size ≤ q → A q := fun q h => by rw [← hAe]; exact Or.inr h
  clear hAe
  have hS : va_S A s.heap s.heap [] := va_S.rf
  replace hP : va_P D vwCl [(cc_O m0 12 [m_0, m_1, m_2, .ref w0, m_4, m_5, .ref u0, .ref s0, .int nu, m_9, m_10, m_11, m_12, m_13, m_14, m_15, m_16, m_17, m_18, m_19, .int 0, m_21, m_22, m_23, m_24, m_25, m_26, m_27, m_28, m_29, m_30, m_31, m_32, m_33, .int lw, .ref e0, m_36, .ref q0, .int bro, .long val, .long sm, .ref b0, m_42, m_43, m_44, m_45, m_46, m_47, m_48, m_49, m_50, m_51, m_52, m_53, m_54, m_55, m_56, m_57, m_58, m_59]), (cc_l w0 (K 0) 5500 fw), (cc_rl e0 (K 2) 13 fe), (cc_rl q0 (K 2) 400 frs), (cc_l u0 (K 0) 558 fu), (cc_l s0 (K 0) 16 fs), (cc_l b0 (K 0) 8 fb)] s.heap := hP
  have hl := lv_entry [.ref m0, .int x, .int y, .int z] (n := 4) (Nat.le_of_ble_eq_true rfl)
  rw [lg_entry_eq]
  generalize (lg_sl [.ref m0, .int x, .int y, .int z] ++ List.replicate (4 - (lg_sl [.ref m0, .int x, .int y, .int z]).length) Slot.unset).toArray = ls at hl ⊢
  have hl : lv_has ls 4 [(0, .ref m0), (1, .int x), (2, .int y), (3, .int z)] := hl
  have hw12 : ∀ w ∈ wsX120, w ∈ wsX12_act := fun w h => (List.mem_cons_of_mem _ (List.mem_append_right _ h))
  generalize hQ : MQ below _ _ s _ _ _ = Q
  have hE := E_v_act.eq_def x y z nu lw bro val sm fw fe frs fu fs fb
  refine lv_iload_n hx hb dX12_act_0 rfl (lv_at hl 1 rfl) ?_
  have w_139 : x.toInt = 0 ∨ x.toInt = 1 ∨ x.toInt = 2 ∨ (x.toInt < 0 ∨ 2 < x.toInt) := by omega
  rcases w_139 with w_139 | w_139 | w_139 | w_139
  · replace hE := (hE).trans (if_pos (by first | omega | (rw [rfl]; omega)))
    refine lv_tableIn (tgt := 28) hx hb dX12_act_1 (by omega) (by omega) (by rw [w_139]; rfl) (by decide +kernel) (lv_aload_n hx hb dX12_act_28 rfl (lv_at hl 0 rfl) (lv_iload_n hx hb dX12_act_29 rfl (lv_at hl 2 rfl) (kci (S := Su) (wr := [(cc_l b0 (K 0) 8 fb)]) (va_runV (As := [.int y]) (rest := []) ⟨hx, hb, hml, hown, hts⟩ (v_stokeNow l D K m0 y m_0 m_1 m_2 w0 m_4 m_5 u0 s0 nu m_9 m_10 m_11 m_12 m_13 m_14 m_15 m_16 m_17 m_18 m_19 m_21 m_22 m_23 m_24 m_25 m_26 m_27 m_28 m_29 m_30 m_31 m_32 m_33 lw e0 m_36 q0 bro val sm (.ref b0) m_42 m_43 m_44 m_45 m_46 m_47 m_48 m_49 m_50 m_51 m_52 m_53 m_54 m_55 m_56 m_57 m_58 m_59 fw gr fe frs fu fs s.heap.size (by first | omega | decide) (by first | omega | decide) zfw zgr zfu zfs) (cwV 1 hts gX12_act_X12_stokeNow rfl rfl rfl (by decide +kernel) ⟨Nat.le_of_ble_eq_true rfl, Nat.le_of_ble_eq_true rfl⟩) (mkV hK hN (hP.sub [0, 1, 2, 3, 4, 5] rfl) (hD.sub [0, 1, 2, 3, 4, 5] (by decide +kernel) rfl) (ci := 12) (q0 := 0) rfl rfl) rfl rfl hl.1 rfl (lv_room (Nat.le_of_ble_eq_true rfl)) dX12_act_30 ⟨Nat.le_of_ble_eq_true rfl, Nat.le_of_ble_eq_true rfl⟩) hP hD hS hA [0, 1, 2, 3, 4, 5] [6] rfl rfl (by decide +kernel) (by decide +kernel) (fun r_140 u_141 H locs hw hP0 hD0 hS0 => ?_))))
    replace hP : va_P D vwCl [(cc_l b0 (K 0) 8 fb), (cc_O m0 12 [m_0, m_1, m_2, .ref w0, m_4, m_5, .ref u0, .ref s0, .int (u_141.2.2.2.1 0), m_9, m_10, m_11, m_12, m_13, m_14, m_15, m_16, m_17, m_18, m_19, .int 0, m_21, m_22, m_23, m_24, m_25, m_26, m_27, m_28, m_29, m_30, m_31, m_32, m_33, .int (u_141.2.2.2.1 1), .ref e0, m_36, .ref q0, .int (u_141.2.2.2.1 2), .long (u_141.2.2.2.2.1 0), .long (u_141.2.2.2.2.1 1), .ref b0, m_42, m_43, m_44, m_45, m_46, m_47, m_48, m_49, m_50, m_51, m_52, m_53, m_54, m_55, m_56, m_57, m_58, m_59]), (cc_l w0 (K 0) 5500 (u_141.2.1 0)), (cc_rl e0 (K 2) 13 (u_141.2.2.1 0)), (cc_rl q0 (K 2) 400 (u_141.2.2.1 1)), (cc_l u0 (K 0) 558 (u_141.2.1 1)), (cc_l s0 (K 0) 16 (u_141.2.1 2))] H := hP0
    replace hD := as_D hP hD0 rfl
    replace hS := hS0
    clear hP0 hD0 hS0
    obtain ⟨h_149, k_142, k_143, k_144, k_145, k_146, k_147, k_148, -⟩ := hw
    replace hE := (((((((((hE.trans (Lt2_in k_148)).trans (Lt2_in rfl)).trans (Lt2_in rfl)).trans (Lt2_in rfl)).trans (Lt2_in rfl)).trans (Lt2_in rfl)).trans (Lt2_in rfl)).trans (Lt2_in rfl)).trans (Lt2_in rfl)).trans (Lt2_in rfl)
    rw [← hQ]
    have hP9 := hP.sub (ws' := [(cc_O m0 12 [m_0, m_1, m_2, .ref w0, m_4, m_5, .ref u0, .ref s0, .int (u_141.2.2.2.1 0), m_9, m_10, m_11, m_12, m_13, m_14, m_15, m_16, m_17, m_18, m_19, .int 0, m_21, m_22, m_23, m_24, m_25, m_26, m_27, m_28, m_29, m_30, m_31, m_32, m_33, .int (u_141.2.2.2.1 1), .ref e0, m_36, .ref q0, .int (u_141.2.2.2.1 2), .long (u_141.2.2.2.2.1 0), .long (u_141.2.2.2.2.1 1), .ref b0, m_42, m_43, m_44, m_45, m_46, m_47, m_48, m_49, m_50, m_51, m_52, m_53, m_54, m_55, m_56, m_57, m_58, m_59]), (cc_l w0 (K 0) 5500 (u_141.2.1 0)), (cc_rl e0 (K 2) 13 (u_141.2.2.1 0)), (cc_rl q0 (K 2) 400 (u_141.2.2.1 1)), (cc_l u0 (K 0) 558 (u_141.2.1 1)), (cc_l s0 (K 0) 16 (u_141.2.1 2)), (cc_l b0 (K 0) 8 fb)]) [1, 2, 3, 4, 5, 6, 0] rfl
    have hD9 := sub_D hP9 hD [1, 2, 3, 4, 5, 6, 0] (by decide +kernel) rfl
    exact W.iret (v := r_140) hx hb hr (fun t ht hW => ⟨⟨r_140, ((fun _ => 0, fun i => match i with | 0 => (u_141.2.1 0) | 1 => (u_141.2.1 1) | 2 => (u_141.2.1 2) | _ => fb, fun i => match i with | 0 => (u_141.2.2.1 0) | _ => (u_141.2.2.1 1), fun i => match i with | 0 => (u_141.2.2.2.1 0) | 1 => (u_141.2.2.2.1 1) | _ => (u_141.2.2.2.1 2), fun i => match i with | 0 => (u_141.2.2.2.2.1 0) | _ => (u_141.2.2.2.2.1 1), fun _ => fun _ => none) : Su), rfl, ⟨(show (-3) ≤ r_140.toInt ∧ r_140.toInt ≤ 999 by omega), (show 0 ≤ ((u_141.2.2.2.1 0) : Int32).toInt ∧ ((u_141.2.2.2.1 0) : Int32).toInt ≤ 16 by omega), (show 0 ≤ ((u_141.2.2.2.1 2) : Int32).toInt ∧ ((u_141.2.2.2.1 2) : Int32).toInt ≤ 1 by omega), k_144, k_145, k_146, k_147, hE.symm, trivial⟩, (⟨by rw [ht]; exact hP9, hD9⟩ : Wd D A _ t)⟩, hS.F ht⟩) hS.2.2 dX12_act_33
  · replace hE := ((hE).trans (if_neg (by first | omega | (rw [rfl]; omega)))).trans (if_pos (by first | omega | (rw [rfl]; omega)))
    refine lv_tableIn (tgt := 34) hx hb dX12_act_1 (by omega) (by omega) (by rw [w_139]; rfl) (by decide +kernel) (lv_aload_n hx hb dX12_act_34 rfl (lv_at hl 0 rfl) (lv_iload_n hx hb dX12_act_35 rfl (lv_at hl 2 rfl) (lv_iload_n hx hb dX12_act_36 rfl (lv_at hl 3 rfl) (kci (S := Su) (wr := [(cc_rl e0 (K 2) 13 fe), (cc_rl q0 (K 2) 400 frs), (cc_l b0 (K 0) 8 fb)]) (va_runV (As := [.int y, .int z]) (rest := []) ⟨hx, hb, hml, hown, hts⟩ (v_dampNow l D K m0 y z m_0 m_1 m_2 w0 m_4 m_5 u0 s0 nu m_9 m_10 m_11 m_12 m_13 m_14 m_15 m_16 m_17 m_18 m_19 (.int 0) m_21 m_22 m_23 m_24 m_25 m_26 m_27 m_28 m_29 m_30 m_31 m_32 m_33 (.int lw) (.ref e0) m_36 (.ref q0) (.int bro) (.long val) (.long sm) (.ref b0) m_42 m_43 m_44 m_45 m_46 m_47 m_48 m_49 m_50 m_51 m_52 m_53 m_54 m_55 m_56 m_57 m_58 m_59 fw gr fu fs s.heap.size (by first | omega | decide) zfw zgr zfu zfs) (cwV 2 hts gX12_act_X12_dampNow rfl rfl rfl (by decide +kernel) ⟨Nat.le_of_ble_eq_true rfl, Nat.le_of_ble_eq_true rfl⟩) (mkV hK hN (hP.sub [0, 1, 4, 5] rfl) (hD.sub [0, 1, 4, 5] (by decide +kernel) rfl) (ci := 12) (q0 := 0) rfl rfl) rfl rfl hl.1 rfl (lv_room (Nat.le_of_ble_eq_true rfl)) dX12_act_37 ⟨Nat.le_of_ble_eq_true rfl, Nat.le_of_ble_eq_true rfl⟩) hP hD hS hA [0, 1, 4, 5] [2, 3, 6] rfl rfl (by decide +kernel) (by decide +kernel) (fun r_150 u_151 H locs hw hP0 hD0 hS0 => ?_)))))
    replace hP : va_P D vwCl [(cc_rl e0 (K 2) 13 fe), (cc_rl q0 (K 2) 400 frs), (cc_l b0 (K 0) 8 fb), (cc_O m0 12 [m_0, m_1, m_2, .ref w0, m_4, m_5, .ref u0, .ref s0, .int (u_151.2.2.2.1 0), m_9, m_10, m_11, m_12, m_13, m_14, m_15, m_16, m_17, m_18, m_19, .int 0, m_21, m_22, m_23, m_24, m_25, m_26, m_27, m_28, m_29, m_30, m_31, m_32, m_33, .int lw, .ref e0, m_36, .ref q0, .int bro, .long val, .long sm, .ref b0, m_42, m_43, m_44, m_45, m_46, m_47, m_48, m_49, m_50, m_51, m_52, m_53, m_54, m_55, m_56, m_57, m_58, m_59]), (cc_l w0 (K 0) 5500 (u_151.2.1 0)), (cc_l u0 (K 0) 558 (u_151.2.1 1)), (cc_l s0 (K 0) 16 (u_151.2.1 2))] H := hP0
    replace hD := as_D hP hD0 rfl
    replace hS := hS0
    clear hP0 hD0 hS0
    obtain ⟨h_158, k_152, k_153, k_154, k_155, k_156, k_157, -⟩ := hw
    replace hE := (((hE.trans (Lt2_in k_157)).trans (Lt2_in rfl)).trans (Lt2_in rfl)).trans (Lt2_in rfl)
    rw [← hQ]
    have hP9 := hP.sub (ws' := [(cc_O m0 12 [m_0, m_1, m_2, .ref w0, m_4, m_5, .ref u0, .ref s0, .int (u_151.2.2.2.1 0), m_9, m_10, m_11, m_12, m_13, m_14, m_15, m_16, m_17, m_18, m_19, .int 0, m_21, m_22, m_23, m_24, m_25, m_26, m_27, m_28, m_29, m_30, m_31, m_32, m_33, .int lw, .ref e0, m_36, .ref q0, .int bro, .long val, .long sm, .ref b0, m_42, m_43, m_44, m_45, m_46, m_47, m_48, m_49, m_50, m_51, m_52, m_53, m_54, m_55, m_56, m_57, m_58, m_59]), (cc_l w0 (K 0) 5500 (u_151.2.1 0)), (cc_rl e0 (K 2) 13 fe), (cc_rl q0 (K 2) 400 frs), (cc_l u0 (K 0) 558 (u_151.2.1 1)), (cc_l s0 (K 0) 16 (u_151.2.1 2)), (cc_l b0 (K 0) 8 fb)]) [3, 4, 0, 1, 5, 6, 2] rfl
    have hD9 := sub_D hP9 hD [3, 4, 0, 1, 5, 6, 2] (by decide +kernel) rfl
    exact W.iret (v := r_150) hx hb hr (fun t ht hW => ⟨⟨r_150, ((fun _ => 0, fun i => match i with | 0 => (u_151.2.1 0) | 1 => (u_151.2.1 1) | 2 => (u_151.2.1 2) | _ => fb, fun i => match i with | 0 => fe | _ => frs, fun i => match i with | 0 => (u_151.2.2.2.1 0) | 1 => lw | _ => bro, fun i => match i with | 0 => val | _ => sm, fun _ => fun _ => none) : Su), rfl, ⟨(show (-3) ≤ r_150.toInt ∧ r_150.toInt ≤ 999 by omega), (show 0 ≤ ((u_151.2.2.2.1 0) : Int32).toInt ∧ ((u_151.2.2.2.1 0) : Int32).toInt ≤ 16 by omega), (show 0 ≤ (bro : Int32).toInt ∧ (bro : Int32).toInt ≤ 1 by omega), k_153, k_154, k_155, k_156, hE.symm, trivial⟩, (⟨by rw [ht]; exact hP9, hD9⟩ : Wd D A _ t)⟩, hS.F ht⟩) hS.2.2 dX12_act_40
  · replace hE := (((hE).trans (if_neg (by first | omega | (rw [rfl]; omega)))).trans (if_neg (by first | omega | (rw [rfl]; omega)))).trans (if_pos (by first | omega | (rw [rfl]; omega)))
    refine lv_tableIn (tgt := 41) hx hb dX12_act_1 (by omega) (by omega) (by rw [w_139]; rfl) (by decide +kernel) (lv_aload_n hx hb dX12_act_41 rfl (lv_at hl 0 rfl) (lv_iload_n hx hb dX12_act_42 rfl (lv_at hl 2 rfl) (lv_iload_n hx hb dX12_act_43 rfl (lv_at hl 3 rfl) (kci (S := Su) (wr := [(cc_rl e0 (K 2) 13 fe), (cc_rl q0 (K 2) 400 frs), (cc_l b0 (K 0) 8 fb)]) (va_runV (As := [.int y, .int z]) (rest := []) ⟨hx, hb, hml, hown, hts⟩ (v_buyNow l D K m0 y z m_0 m_1 m_2 w0 m_4 m_5 u0 s0 nu m_9 m_10 m_11 m_12 m_13 m_14 m_15 m_16 m_17 m_18 m_19 (.int 0) m_21 m_22 m_23 m_24 m_25 m_26 m_27 m_28 m_29 m_30 m_31 m_32 m_33 (.int lw) (.ref e0) m_36 (.ref q0) (.int bro) (.long val) (.long sm) (.ref b0) m_42 m_43 m_44 m_45 m_46 m_47 m_48 m_49 m_50 m_51 m_52 m_53 m_54 m_55 m_56 m_57 m_58 m_59 fw gr fu fs s.heap.size (by first | omega | decide) zfw zgr zfu zfs) (cwV 2 hts gX12_act_X12_buyNow rfl rfl rfl (by decide +kernel) ⟨Nat.le_of_ble_eq_true rfl, Nat.le_of_ble_eq_true rfl⟩) (mkV hK hN (hP.sub [0, 1, 4, 5] rfl) (hD.sub [0, 1, 4, 5] (by decide +kernel) rfl) (ci := 12) (q0 := 0) rfl rfl) rfl rfl hl.1 rfl (lv_room (Nat.le_of_ble_eq_true rfl)) dX12_act_44 ⟨Nat.le_of_ble_eq_true rfl, Nat.le_of_ble_eq_true rfl⟩) hP hD hS hA [0, 1, 4, 5] [2, 3, 6] rfl rfl (by decide +kernel) (by decide +kernel) (fun r_159 u_160 H locs hw hP0 hD0 hS0 => ?_)))))
    replace hP : va_P D vwCl [(cc_rl e0 (K 2) 13 fe), (cc_rl q0 (K 2) 400 frs), (cc_l b0 (K 0) 8 fb), (cc_O m0 12 [m_0, m_1, m_2, .ref w0, m_4, m_5, .ref u0, .ref s0, .int (u_160.2.2.2.1 0), m_9, m_10, m_11, m_12, m_13, m_14, m_15, m_16, m_17, m_18, m_19, .int 0, m_21, m_22, m_23, m_24, m_25, m_26, m_27, m_28, m_29, m_30, m_31, m_32, m_33, .int lw, .ref e0, m_36, .ref q0, .int bro, .long val, .long sm, .ref b0, m_42, m_43, m_44, m_45, m_46, m_47, m_48, m_49, m_50, m_51, m_52, m_53, m_54, m_55, m_56, m_57, m_58, m_59]), (cc_l w0 (K 0) 5500 (u_160.2.1 0)), (cc_l u0 (K 0) 558 (u_160.2.1 1)), (cc_l s0 (K 0) 16 (u_160.2.1 2))] H := hP0
    replace hD := as_D hP hD0 rfl
    replace hS := hS0
    clear hP0 hD0 hS0
    obtain ⟨h_167, k_161, k_162, k_163, k_164, k_165, k_166, -⟩ := hw
    replace hE := (((hE.trans (Lt2_in k_166)).trans (Lt2_in rfl)).trans (Lt2_in rfl)).trans (Lt2_in rfl)
    rw [← hQ]
    have hP9 := hP.sub (ws' := [(cc_O m0 12 [m_0, m_1, m_2, .ref w0, m_4, m_5, .ref u0, .ref s0, .int (u_160.2.2.2.1 0), m_9, m_10, m_11, m_12, m_13, m_14, m_15, m_16, m_17, m_18, m_19, .int 0, m_21, m_22, m_23, m_24, m_25, m_26, m_27, m_28, m_29, m_30, m_31, m_32, m_33, .int lw, .ref e0, m_36, .ref q0, .int bro, .long val, .long sm, .ref b0, m_42, m_43, m_44, m_45, m_46, m_47, m_48, m_49, m_50, m_51, m_52, m_53, m_54, m_55, m_56, m_57, m_58, m_59]), (cc_l w0 (K 0) 5500 (u_160.2.1 0)), (cc_rl e0 (K 2) 13 fe), (cc_rl q0 (K 2) 400 frs), (cc_l u0 (K 0) 558 (u_160.2.1 1)), (cc_l s0 (K 0) 16 (u_160.2.1 2)), (cc_l b0 (K 0) 8 fb)]) [3, 4, 0, 1, 5, 6, 2] rfl
    have hD9 := sub_D hP9 hD [3, 4, 0, 1, 5, 6, 2] (by decide +kernel) rfl
    exact W.iret (v := r_159) hx hb hr (fun t ht hW => ⟨⟨r_159, ((fun _ => 0, fun i => match i with | 0 => (u_160.2.1 0) | 1 => (u_160.2.1 1) | 2 => (u_160.2.1 2) | _ => fb, fun i => match i with | 0 => fe | _ => frs, fun i => match i with | 0 => (u_160.2.2.2.1 0) | 1 => lw | _ => bro, fun i => match i with | 0 => val | _ => sm, fun _ => fun _ => none) : Su), rfl, ⟨(show (-3) ≤ r_159.toInt ∧ r_159.toInt ≤ 999 by omega), (show 0 ≤ ((u_160.2.2.2.1 0) : Int32).toInt ∧ ((u_160.2.2.2.1 0) : Int32).toInt ≤ 16 by omega), (show 0 ≤ (bro : Int32).toInt ∧ (bro : Int32).toInt ≤ 1 by omega), k_162, k_163, k_164, k_165, hE.symm, trivial⟩, (⟨by rw [ht]; exact hP9, hD9⟩ : Wd D A _ t)⟩, hS.F ht⟩) hS.2.2 dX12_act_47
  · replace hE := (((hE).trans (if_neg (by first | omega | (rw [rfl]; omega)))).trans (if_neg (by first | omega | (rw [rfl]; omega)))).trans (if_neg (by first | omega | (rw [rfl]; omega)))
    refine lv_tableOut (tgt := 48) hx hb dX12_act_1 (by omega) (by decide +kernel) (lv_aload_n hx hb dX12_act_48 rfl (lv_at hl 0 rfl) (kci (S := Su) (wr := []) (va_runV (As := []) (rest := []) ⟨hx, hb, hml, hown, hts⟩ (v_passNow l D K m0 m_0 m_1 m_2 w0 m_4 m_5 u0 s0 nu m_9 m_10 m_11 m_12 m_13 m_14 m_15 m_16 m_17 m_18 m_19 m_21 m_22 m_23 m_24 m_25 m_26 m_27 m_28 m_29 m_30 m_31 m_32 m_33 lw e0 m_36 q0 bro val sm b0 m_42 m_43 m_44 m_45 m_46 m_47 m_48 m_49 m_50 m_51 m_52 m_53 m_54 m_55 m_56 m_57 m_58 m_59 fw gr fe frs fu fs fb s.heap.size (by first | omega | decide) (by first | omega | decide) zfw zgr zfu zfs) (cwV 0 hts gX12_act_X12_passNow rfl rfl rfl (by decide +kernel) ⟨Nat.le_of_ble_eq_true rfl, Nat.le_of_ble_eq_true rfl⟩) (mkV hK hN (hP.sub [0, 1, 2, 3, 4, 5, 6] rfl) (hD.sub [0, 1, 2, 3, 4, 5, 6] (by decide +kernel) rfl) (ci := 12) (q0 := 0) rfl rfl) rfl rfl hl.1 rfl (lv_room (Nat.le_of_ble_eq_true rfl)) dX12_act_49 ⟨Nat.le_of_ble_eq_true rfl, Nat.le_of_ble_eq_true rfl⟩) hP hD hS hA [0, 1, 2, 3, 4, 5, 6] [] rfl rfl (by decide +kernel) (by decide +kernel) (fun r_168 u_169 H locs hw hP0 hD0 hS0 => ?_)))
    replace hP : va_P D vwCl [(cc_O m0 12 [m_0, m_1, m_2, .ref w0, m_4, m_5, .ref u0, .ref s0, .int (u_169.2.2.2.1 0), m_9, m_10, m_11, m_12, m_13, m_14, m_15, m_16, m_17, m_18, m_19, .int 0, m_21, m_22, m_23, m_24, m_25, m_26, m_27, m_28, m_29, m_30, m_31, m_32, m_33, .int (u_169.2.2.2.1 1), .ref e0, m_36, .ref q0, .int (u_169.2.2.2.1 2), .long (u_169.2.2.2.2.1 0), .long (u_169.2.2.2.2.1 1), .ref b0, m_42, m_43, m_44, m_45, m_46, m_47, m_48, m_49, m_50, m_51, m_52, m_53, m_54, m_55, m_56, m_57, m_58, m_59]), (cc_l w0 (K 0) 5500 (u_169.2.1 0)), (cc_rl e0 (K 2) 13 (u_169.2.2.1 0)), (cc_rl q0 (K 2) 400 (u_169.2.2.1 1)), (cc_l u0 (K 0) 558 (u_169.2.1 1)), (cc_l s0 (K 0) 16 (u_169.2.1 2)), (cc_l b0 (K 0) 8 (u_169.2.1 3))] H := hP0
    replace hD := as_D hP hD0 rfl
    replace hS := hS0
    clear hP0 hD0 hS0
    obtain ⟨h_177, k_170, k_171, k_172, k_173, k_174, k_175, k_176, -⟩ := hw
    replace hE := ((((((((((hE.trans (Lt2_in k_176)).trans (Lt2_in rfl)).trans (Lt2_in rfl)).trans (Lt2_in rfl)).trans (Lt2_in rfl)).trans (Lt2_in rfl)).trans (Lt2_in rfl)).trans (Lt2_in rfl)).trans (Lt2_in rfl)).trans (Lt2_in rfl)).trans (Lt2_in rfl)
    rw [← hQ]
    have hP9 := hP.sub (ws' := [(cc_O m0 12 [m_0, m_1, m_2, .ref w0, m_4, m_5, .ref u0, .ref s0, .int (u_169.2.2.2.1 0), m_9, m_10, m_11, m_12, m_13, m_14, m_15, m_16, m_17, m_18, m_19, .int 0, m_21, m_22, m_23, m_24, m_25, m_26, m_27, m_28, m_29, m_30, m_31, m_32, m_33, .int (u_169.2.2.2.1 1), .ref e0, m_36, .ref q0, .int (u_169.2.2.2.1 2), .long (u_169.2.2.2.2.1 0), .long (u_169.2.2.2.2.1 1), .ref b0, m_42, m_43, m_44, m_45, m_46, m_47, m_48, m_49, m_50, m_51, m_52, m_53, m_54, m_55, m_56, m_57, m_58, m_59]), (cc_l w0 (K 0) 5500 (u_169.2.1 0)), (cc_rl e0 (K 2) 13 (u_169.2.2.1 0)), (cc_rl q0 (K 2) 400 (u_169.2.2.1 1)), (cc_l u0 (K 0) 558 (u_169.2.1 1)), (cc_l s0 (K 0) 16 (u_169.2.1 2)), (cc_l b0 (K 0) 8 (u_169.2.1 3))]) [0, 1, 2, 3, 4, 5, 6] rfl
    have hD9 := sub_D hP9 hD [0, 1, 2, 3, 4, 5, 6] (by decide +kernel) rfl
    exact W.iret (v := r_168) hx hb hr (fun t ht hW => ⟨⟨r_168, ((fun _ => 0, fun i => match i with | 0 => (u_169.2.1 0) | 1 => (u_169.2.1 1) | 2 => (u_169.2.1 2) | _ => (u_169.2.1 3), fun i => match i with | 0 => (u_169.2.2.1 0) | _ => (u_169.2.2.1 1), fun i => match i with | 0 => (u_169.2.2.2.1 0) | 1 => (u_169.2.2.2.1 1) | _ => (u_169.2.2.2.1 2), fun i => match i with | 0 => (u_169.2.2.2.2.1 0) | _ => (u_169.2.2.2.2.1 1), fun _ => fun _ => none) : Su), rfl, ⟨(show (-3) ≤ r_168.toInt ∧ r_168.toInt ≤ 999 by omega), (show 0 ≤ ((u_169.2.2.2.1 0) : Int32).toInt ∧ ((u_169.2.2.2.1 0) : Int32).toInt ≤ 16 by omega), (show 0 ≤ ((u_169.2.2.2.1 2) : Int32).toInt ∧ ((u_169.2.2.2.1 2) : Int32).toInt ≤ 1 by omega), k_172, k_173, k_174, k_175, hE.symm, trivial⟩, (⟨by rw [ht]; exact hP9, hD9⟩ : Wd D A _ t)⟩, hS.F ht⟩) hS.2.2 dX12_act_52
set_option maxRecDepth 100000 in
noncomputable def E_v_run_j106 (x : Int32) (nu : Int32) (lw : Int32) (sm : Int64) (dn : Int32) (me : Int32) (fw : Nat → Int32) (fe : Nat → Int64) (fu : Nat → Int32) (fs : Nat → Int32) (fb : Nat → Int32) (fo : Nat → Int32) (fa : Nat → Int32) (fod : Nat → Int32) (f_290 : Nat → Int64) (v_307 : Int32) (v_308 : Int64) (v_309 : Int32) (f_310 : Nat → Int64) : Int32 × Int32 × Int32 × Int32 × Int64 × Int64 × Int32 × Int32 × Int32 × (Nat → Int32) × (Nat → Int64) × (Nat → Int64) × (Nat → Int32) × (Nat → Int32) × (Nat → Int32) × (Nat → Int64) :=
  Lt (x + 1 : Int32) (fun x_341 => Lt2 (E_v_sumOf x_341 v_307 v_308 v_309 fw f_290 f_310 fo fa fod) (fun r_342 q0_r_342 => Lt2 q0_r_342 (fun u_343_2_2_2_1_0 q1_u_343_2_2_2_1_0 => Lt2 q1_u_343_2_2_2_1_0 (fun u_343_2_2_2_2_1_0 q2_u_343_2_2_2_2_1_0 => Lt2 q2_u_343_2_2_2_2_1_0 (fun u_343_2_2_2_1_1 u_343_2_2_1_0 => Lt (x + 3 : Int32) (fun x_347 => Lt2 (E_v_sumOf x_347 u_343_2_2_2_1_0 u_343_2_2_2_2_1_0 u_343_2_2_2_1_1 fw f_290 u_343_2_2_1_0 fo fa fod) (fun r_348 q0_r_348 => Lt2 q0_r_348 (fun u_349_2_2_2_1_0 q1_u_349_2_2_2_1_0 => Lt2 q1_u_349_2_2_2_1_0 (fun u_349_2_2_2_2_1_0 q2_u_349_2_2_2_2_1_0 => Lt2 q2_u_349_2_2_2_2_1_0 (fun u_349_2_2_2_1_1 u_349_2_2_1_0 => if u_349_2_2_2_1_1 = 0 then (Lt (fod (x : Int32).toNatClampNeg : Int32) (fun x_354 => Lt2 (E_v_act x_354 r_342 r_348 nu lw u_349_2_2_2_1_0 u_349_2_2_2_2_1_0 sm fw fe u_349_2_2_1_0 fu fs fb) (fun r_355 q0_r_355 => Lt2 q0_r_355 (fun u_356_2_2_2_1_0 q1_u_356_2_2_2_1_0 => Lt2 q1_u_356_2_2_2_1_0 (fun u_356_2_2_2_1_1 q2_u_356_2_2_2_1_1 => Lt2 q2_u_356_2_2_2_1_1 (fun u_356_2_2_2_1_2 q3_u_356_2_2_2_1_2 => Lt2 q3_u_356_2_2_2_1_2 (fun u_356_2_2_2_2_1_0 q4_u_356_2_2_2_2_1_0 => Lt2 q4_u_356_2_2_2_2_1_0 (fun u_356_2_2_2_2_1_1 q5_u_356_2_2_2_2_1_1 => Lt2 q5_u_356_2_2_2_2_1_1 (fun u_356_2_1_0 q6_u_356_2_1_0 => Lt2 q6_u_356_2_1_0 (fun u_356_2_2_1_0 q7_u_356_2_2_1_0 => Lt2 q7_u_356_2_2_1_0 (fun u_356_2_2_1_1 q8_u_356_2_2_1_1 => Lt2 q8_u_356_2_2_1_1 (fun u_356_2_1_1 q9_u_356_2_1_1 => Lt2 q9_u_356_2_1_1 (fun u_356_2_1_2 u_356_2_1_3 => if 0 ≤ r_355 then (Lt (fod (x : Int32).toNatClampNeg : Int32) (fun x_366 => if x_366 = 3 then (Lt (dn + 1 : Int32) (fun x_369 => ((0, u_356_2_2_2_1_0, u_356_2_2_2_1_1, u_356_2_2_2_1_2, u_356_2_2_2_2_1_0, u_356_2_2_2_2_1_1, x_369, r_355, u_349_2_2_2_1_1, u_356_2_1_0, u_356_2_2_1_0, u_356_2_2_1_1, u_356_2_1_1, u_356_2_1_2, u_356_2_1_3, f_290) : Int32 × Int32 × Int32 × Int32 × Int64 × Int64 × Int32 × Int32 × Int32 × (Nat → Int32) × (Nat → Int64) × (Nat → Int64) × (Nat → Int32) × (Nat → Int32) × (Nat → Int32) × (Nat → Int64)))) else (Lt (dn + 1 : Int32) (fun x_368 => ((0, u_356_2_2_2_1_0, u_356_2_2_2_1_1, u_356_2_2_2_1_2, u_356_2_2_2_2_1_0, u_356_2_2_2_2_1_1, x_368, me, u_349_2_2_2_1_1, u_356_2_1_0, u_356_2_2_1_0, u_356_2_2_1_1, u_356_2_1_1, u_356_2_1_2, u_356_2_1_3, f_290) : Int32 × Int32 × Int32 × Int32 × Int64 × Int64 × Int32 × Int32 × Int32 × (Nat → Int32) × (Nat → Int64) × (Nat → Int64) × (Nat → Int32) × (Nat → Int32) × (Nat → Int32) × (Nat → Int64)))))) else ((((-3), u_356_2_2_2_1_0, u_356_2_2_2_1_1, u_356_2_2_2_1_2, u_356_2_2_2_2_1_0, u_356_2_2_2_2_1_1, dn, me, u_349_2_2_2_1_1, u_356_2_1_0, u_356_2_2_1_0, u_356_2_2_1_1, u_356_2_1_1, u_356_2_1_2, u_356_2_1_3, f_290) : Int32 × Int32 × Int32 × Int32 × Int64 × Int64 × Int32 × Int32 × Int32 × (Nat → Int32) × (Nat → Int64) × (Nat → Int64) × (Nat → Int32) × (Nat → Int32) × (Nat → Int32) × (Nat → Int64)))))))))))))))) else ((((-3), nu, lw, u_349_2_2_2_1_0, u_349_2_2_2_2_1_0, sm, dn, me, u_349_2_2_2_1_1, fw, fe, u_349_2_2_1_0, fu, fs, fb, f_290) : Int32 × Int32 × Int32 × Int32 × Int64 × Int64 × Int32 × Int32 × Int32 × (Nat → Int32) × (Nat → Int64) × (Nat → Int64) × (Nat → Int32) × (Nat → Int32) × (Nat → Int32) × (Nat → Int64)))))))))))))
set_option maxRecDepth 100000 in
noncomputable def E_v_run_j104 (nu : Int32) (lw : Int32) (sm : Int64) (dn : Int32) (me : Int32) (fw : Nat → Int32) (fe : Nat → Int64) (fu : Nat → Int32) (fs : Nat → Int32) (fb : Nat → Int32) (f_290 : Nat → Int64) (u_373_2_2_2_1_0 : Int32) (u_373_2_2_2_2_1_0 : Int64) (u_373_2_2_2_1_1 : Int32) (u_373_2_2_1_0 : Nat → Int64) : Int32 × Int32 × Int32 × Int32 × Int64 × Int64 × Int32 × Int32 × Int32 × (Nat → Int32) × (Nat → Int64) × (Nat → Int64) × (Nat → Int32) × (Nat → Int32) × (Nat → Int32) × (Nat → Int64) :=
  ((0, nu, lw, u_373_2_2_2_1_0, u_373_2_2_2_2_1_0, sm, dn, me, u_373_2_2_2_1_1, fw, fe, u_373_2_2_1_0, fu, fs, fb, f_290) : Int32 × Int32 × Int32 × Int32 × Int64 × Int64 × Int32 × Int32 × Int32 × (Nat → Int32) × (Nat → Int64) × (Nat → Int64) × (Nat → Int32) × (Nat → Int32) × (Nat → Int32) × (Nat → Int64))
set_option maxRecDepth 100000 in
noncomputable def E_v_run (x : Int32) (nu : Int32) (lw : Int32) (bro : Int32) (val : Int64) (sm : Int64) (dn : Int32) (me : Int32) (ofm : Int32) (fw : Nat → Int32) (fe : Nat → Int64) (frs : Nat → Int64) (fu : Nat → Int32) (fs : Nat → Int32) (fb : Nat → Int32) (fnw : Nat → Int64) (fo : Nat → Int32) (fa : Nat → Int32) (fod : Nat → Int32) : Int32 × Int32 × Int32 × Int32 × Int64 × Int64 × Int32 × Int32 × Int32 × (Nat → Int32) × (Nat → Int64) × (Nat → Int64) × (Nat → Int32) × (Nat → Int32) × (Nat → Int32) × (Nat → Int64) :=
  Lt (E_v_term_0 fw) (fun r_275 => Lt ((r_275 : Int32).toInt64 : Int64) (fun x_278 => Lt (vp_updL fnw (1 : Int32).toNatClampNeg x_278 : Nat → Int64) (fun f_279 => Lt (E_v_term 1 fw) (fun r_280 => Lt ((r_280 : Int32).toInt64 : Int64) (fun x_282 => Lt (vp_updL f_279 (2 : Int32).toNatClampNeg x_282 : Nat → Int64) (fun f_283 => Lt (fw (10 : Int32).toNatClampNeg : Int32) (fun x_284 => Lt ((x_284 : Int32).toInt64 : Int64) (fun x_285 => Lt (vp_updL f_283 (3 : Int32).toNatClampNeg x_285 : Nat → Int64) (fun f_286 => Lt ((dn : Int32).toInt64 : Int64) (fun x_287 => Lt (vp_updL f_286 (4 : Int32).toNatClampNeg x_287 : Nat → Int64) (fun f_288 => Lt ((me : Int32).toInt64 : Int64) (fun x_289 => Lt (vp_updL f_288 (5 : Int32).toNatClampNeg x_289 : Nat → Int64) (fun f_290 => Lt (x + 5 : Int32) (fun x_291 => Lt (fod (x_291 : Int32).toNatClampNeg : Int32) (fun x_292 => Lt (x + 6 : Int32) (fun x_293 => Lt (fod (x_293 : Int32).toNatClampNeg : Int32) (fun x_294 => if x_294 ≤ x_292 then (E_v_run_j106 x nu lw sm dn me fw fe fu fs fb fo fa fod f_290 bro val 0 frs) else (Lt (x + 5 : Int32) (fun x_371 => Lt2 (E_v_sumOf x_371 bro val 0 fw f_290 frs fo fa fod) (fun r_372 q0_r_372 => Lt2 q0_r_372 (fun u_373_2_2_2_1_0 q1_u_373_2_2_2_1_0 => Lt2 q1_u_373_2_2_2_1_0 (fun u_373_2_2_2_2_1_0 q2_u_373_2_2_2_2_1_0 => Lt2 q2_u_373_2_2_2_2_1_0 (fun u_373_2_2_2_1_1 u_373_2_2_1_0 => if u_373_2_2_2_1_1 = 0 then (if r_372 = 0 then (E_v_run_j104 nu lw sm dn me fw fe fu fs fb f_290 u_373_2_2_2_1_0 u_373_2_2_2_2_1_0 u_373_2_2_2_1_1 u_373_2_2_1_0) else (E_v_run_j106 x nu lw sm dn me fw fe fu fs fb fo fa fod f_290 u_373_2_2_2_1_0 u_373_2_2_2_2_1_0 u_373_2_2_2_1_1 u_373_2_2_1_0)) else (E_v_run_j104 nu lw sm dn me fw fe fu fs fb f_290 u_373_2_2_2_1_0 u_373_2_2_2_2_1_0 u_373_2_2_2_1_1 u_373_2_2_1_0))))))))))))))))))))))))
set_option maxHeartbeats 4000000 in
set_option maxRecDepth 100000 in
theorem v_run (l : Launch) (D : va_G) (K : Nat → ClassId) (c_ : Nat) (n_ : Int) (nC_ : Int) (m0 : Nat) (x : Int32) (m_0 : Value) (m_1 : Value) (m_2 : Value) (w0 : Nat) (m_4 : Value) (m_5 : Value) (u0 : Nat) (s0 : Nat) (nu : Int32) (m_9 : Value) (m_10 : Value) (m_11 : Value) (m_12 : Value) (m_13 : Value) (m_14 : Value) (m_15 : Value) (m_16 : Value) (m_17 : Value) (m_18 : Value) (m_19 : Value) (m_21 : Value) (m_22 : Value) (m_23 : Value) (xo : Nat) (xa : Nat) (m_26 : Value) (m_27 : Value) (m_28 : Value) (m_29 : Value) (m_30 : Value) (m_31 : Value) (m_32 : Value) (m_33 : Value) (lw : Int32) (e0 : Nat) (nw : Nat) (q0 : Nat) (bro : Int32) (val : Int64) (sm : Int64) (b0 : Nat) (m_42 : Value) (m_43 : Value) (m_44 : Value) (m_45 : Value) (m_46 : Value) (m_47 : Value) (m_48 : Value) (m_49 : Value) (m_50 : Value) (od : Nat) (dn : Int32) (me : Int32) (m_54 : Value) (ofm : Int32) (m_56 : Value) (m_57 : Value) (m_58 : Value) (m_59 : Value) (fw : Nat → Int32) (gr : Nat → Int32) (fe : Nat → Int64) (frs : Nat → Int64) (fu : Nat → Int32) (fs : Nat → Int32) (fb : Nat → Int32) (fnw : Nat → Int64) (fo : Nat → Int32) (fa : Nat → Int32) (fod : Nat → Int32) (sz : Nat) (zbro : 0 ≤ bro.toInt ∧ bro.toInt ≤ 1) (znu : 0 ≤ nu.toInt ∧ nu.toInt ≤ 16) (zofm : 0 ≤ ofm.toInt ∧ ofm.toInt ≤ 1) (zdn : 0 ≤ dn.toInt ∧ dn.toInt ≤ 100000) (zx : 0 ≤ x.toInt ∧ x.toInt ≤ 88) (hor : OrOK fod fo fa n_ nC_) (hxk : x.toInt = 8 * ((c_ : Nat) : Int)) (hc_ : ((c_ : Nat) : Int) < n_) (zfw : RwOK fw) (zgr : FzM gr fw) (zfu : Pu 558 fu) (zfs : Rg 16 0 3 fs) : Met l yX12_run wsX12_run ({ frames := 9, cells := 0, slots := 0, locals := 211 }) (va_Pc [.ref m0, .int x] (Pre D K [(cc_O m0 12 [m_0, m_1, m_2, .ref w0, m_4, m_5, .ref u0, .ref s0, .int nu, m_9, m_10, m_11, m_12, m_13, m_14, m_15, m_16, m_17, m_18, m_19, .int 0, m_21, m_22, m_23, .ref xo, .ref xa, m_26, m_27, m_28, m_29, m_30, m_31, m_32, m_33, .int lw, .ref e0, .ref nw, .ref q0, .int bro, .long val, .long sm, .ref b0, m_42, m_43, m_44, m_45, m_46, m_47, m_48, m_49, m_50, .ref od, .int dn, .int me, m_54, .int ofm, m_56, m_57, m_58, m_59]), (cc_l w0 (K 0) 5500 fw), (cc_rl e0 (K 2) 13 fe), (cc_rl q0 (K 2) 400 frs), (cc_l u0 (K 0) 558 fu), (cc_l s0 (K 0) 16 fs), (cc_l b0 (K 0) 8 fb), (cc_rl nw (K 2) 13 fnw), (cc_l xo (K 0) 400 fo), (cc_l xa (K 0) 400 fa), (cc_l od (K 0) 96 fod)] sz)) (va_Qi (S := Su) (fun (r : Int32) (u : Su) => ((-3) ≤ r.toInt ∧ r.toInt ≤ 0) ∧ (0 ≤ (u.2.2.2.1 0).toInt ∧ (u.2.2.2.1 0).toInt ≤ 16) ∧ (0 ≤ (u.2.2.2.1 2).toInt ∧ (u.2.2.2.1 2).toInt ≤ 1) ∧ (0 ≤ (u.2.2.2.1 3).toInt ∧ (u.2.2.2.1 3).toInt ≤ 100001) ∧ (0 ≤ (u.2.2.2.1 5).toInt ∧ (u.2.2.2.1 5).toInt ≤ 1) ∧ (RwOK (u.2.1 0)) ∧ (FzM gr (u.2.1 0)) ∧ (Pu 558 (u.2.1 1)) ∧ (Rg 16 0 3 (u.2.1 2)) ∧ ((r, (u.2.2.2.1 0), (u.2.2.2.1 1), (u.2.2.2.1 2), (u.2.2.2.2.1 0), (u.2.2.2.2.1 1), (u.2.2.2.1 3), (u.2.2.2.1 4), (u.2.2.2.1 5), (u.2.1 0), (u.2.2.1 0), (u.2.2.1 1), (u.2.1 1), (u.2.1 2), (u.2.1 3), (u.2.2.1 2)) = E_v_run x nu lw bro val sm dn me ofm fw fe frs fu fs fb fnw fo fa fod) ∧ (dn.toInt ≤ (u.2.2.2.1 3).toInt ∧ (u.2.2.2.1 3).toInt ≤ dn.toInt + 1) ∧ True) (fun u t => Wd D (va_A [(cc_O m0 12 [m_0, m_1, m_2, .ref w0, m_4, m_5, .ref u0, .ref s0, .int nu, m_9, m_10, m_11, m_12, m_13, m_14, m_15, m_16, m_17, m_18, m_19, .int 0, m_21, m_22, m_23, .ref xo, .ref xa, m_26, m_27, m_28, m_29, m_30, m_31, m_32, m_33, .int lw, .ref e0, .ref nw, .ref q0, .int bro, .long val, .long sm, .ref b0, m_42, m_43, m_44, m_45, m_46, m_47, m_48, m_49, m_50, .ref od, .int dn, .int me, m_54, .int ofm, m_56, m_57, m_58, m_59]), (cc_l w0 (K 0) 5500 fw), (cc_rl e0 (K 2) 13 fe), (cc_rl q0 (K 2) 400 frs), (cc_l u0 (K 0) 558 fu), (cc_l s0 (K 0) 16 fs), (cc_l b0 (K 0) 8 fb), (cc_rl nw (K 2) 13 fnw), (cc_l xo (K 0) 400 fo), (cc_l xa (K 0) 400 fa), (cc_l od (K 0) 96 fod)] sz) ((fun u => [(cc_O m0 12 [m_0, m_1, m_2, .ref w0, m_4, m_5, .ref u0, .ref s0, .int (u.2.2.2.1 0), m_9, m_10, m_11, m_12, m_13, m_14, m_15, m_16, m_17, m_18, m_19, .int 0, m_21, m_22, m_23, .ref xo, .ref xa, m_26, m_27, m_28, m_29, m_30, m_31, m_32, m_33, .int (u.2.2.2.1 1), .ref e0, .ref nw, .ref q0, .int (u.2.2.2.1 2), .long (u.2.2.2.2.1 0), .long (u.2.2.2.2.1 1), .ref b0, m_42, m_43, m_44, m_45, m_46, m_47, m_48, m_49, m_50, .ref od, .int (u.2.2.2.1 3), .int (u.2.2.2.1 4), m_54, .int (u.2.2.2.1 5), m_56, m_57, m_58, m_59]), (cc_l w0 (K 0) 5500 (u.2.1 0)), (cc_rl e0 (K 2) 13 (u.2.2.1 0)), (cc_rl q0 (K 2) 400 (u.2.2.1 1)), (cc_l u0 (K 0) 558 (u.2.1 1)), (cc_l s0 (K 0) 16 (u.2.1 2)), (cc_l b0 (K 0) 8 (u.2.1 3)), (cc_rl nw (K 2) 13 (u.2.2.1 2)), (cc_l xo (K 0) 400 fo), (cc_l xa (K 0) 400 fa), (cc_l od (K 0) 96 fod)]) u) t) (va_A [(cc_O m0 12 [m_0, m_1, m_2, .ref w0, m_4, m_5, .ref u0, .ref s0, .int nu, m_9, m_10, m_11, m_12, m_13, m_14, m_15, m_16, m_17, m_18, m_19, .int 0, m_21, m_22, m_23, .ref xo, .ref xa, m_26, m_27, m_28, m_29, m_30, m_31, m_32, m_33, .int lw, .ref e0, .ref nw, .ref q0, .int bro, .long val, .long sm, .ref b0, m_42, m_43, m_44, m_45, m_46, m_47, m_48, m_49, m_50, .ref od, .int dn, .int me, m_54, .int ofm, m_56, m_57, m_58, m_59]), (cc_l w0 (K 0) 5500 fw), (cc_rl e0 (K 2) 13 fe), (cc_rl q0 (K 2) 400 frs), (cc_l u0 (K 0) 558 fu), (cc_l s0 (K 0) 16 fs), (cc_l b0 (K 0) 8 fb), (cc_rl nw (K 2) 13 fnw), (cc_l xo (K 0) 400 fo), (cc_l xa (K 0) 400 fa), (cc_l od (K 0) 96 fod)] sz)) 0 0 (va_A [(cc_O m0 12 [m_0, m_1, m_2, .ref w0, m_4, m_5, .ref u0, .ref s0, .int nu, m_9, m_10, m_11, m_12, m_13, m_14, m_15, m_16, m_17, m_18, m_19, .int 0, m_21, m_22, m_23, .ref xo, .ref xa, m_26, m_27, m_28, m_29, m_30, m_31, m_32, m_33, .int lw, .ref e0, .ref nw, .ref q0, .int bro, .long val, .long sm, .ref b0, m_42, m_43, m_44, m_45, m_46, m_47, m_48, m_49, m_50, .ref od, .int dn, .int me, m_54, .int ofm, m_56, m_57, m_58, m_59]), (cc_l w0 (K 0) 5500 fw), (cc_rl e0 (K 2) 13 fe), (cc_rl q0 (K 2) 400 frs), (cc_l u0 (K 0) 558 fu), (cc_l s0 (K 0) 16 fs), (cc_l b0 (K 0) 8 fb), (cc_rl nw (K 2) 13 fnw), (cc_l xo (K 0) 400 fo), (cc_l xa (K 0) 400 fa), (cc_l od (K 0) 96 fod)] sz) := by
  refine Met.ofW (cc := cX12_run) (maxL := 5) (ret := (some .int)) (by decide +kernel) rfl ?_
  intro p e s m args below meth c s₁ B hml hv
  obtain ⟨rfl, hsz, hP, hK, hD0, hN⟩ := hv
  have hx := B.exec
  have hb := B.bytes
  have hr := B.returns
  have hts := atoms_spec (ws := wsX12_run) B.pre
  have hown : s.vm.findClass RX12 = some m.cls := findClass_of_methodNamed B.named
  have hlocks := B.notSynchronized
  subst hsz
  have hD := hD0.self (sz := s.heap.size)
  generalize hAe : va_A [(cc_O m0 12 [m_0, m_1, m_2, .ref w0, m_4, m_5, .ref u0, .ref s0, .int nu, m_9, m_10, m_11, m_12, m_13, m_14, m_15, m_16, m_17, m_18, m_19, .int 0, m_21, m_22, m_23, .ref xo, .ref xa, m_26, m_27, m_28, m_29, m_30, m_31, m_32, m_33, .int lw, .ref e0, .ref nw, .ref q0, .int bro, .long val, .long sm, .ref b0, m_42, m_43, m_44, m_45, m_46, m_47, m_48, m_49, m_50, .ref od, .int dn, .int me, m_54, .int ofm, m_56, m_57, m_58, m_59]), (cc_l w0 (K 0) 5500 fw), (cc_rl e0 (K 2) 13 fe), (cc_rl q0 (K 2) 400 frs), (cc_l u0 (K 0) 558 fu), (cc_l s0 (K 0) 16 fs), (cc_l b0 (K 0) 8 fb), (cc_rl nw (K 2) 13 fnw), (cc_l xo (K 0) 400 fo), (cc_l xa (K 0) 400 fa), (cc_l od (K 0) 96 fod)] s.heap.size = A at hD ⊢
  have hA : ∀ q : Nat, s.heap.size ≤ q → A q := fun q h => by rw [← hAe]; exact Or.inr h
  clear hAe
  have hS : va_S A s.heap s.heap [] := va_S.rf
  replace hP : va_P D vwCl [(cc_O m0 12 [m_0, m_1, m_2, .ref w0, m_4, m_5, .ref u0, .ref s0, .int nu, m_9, m_10, m_11, m_12, m_13, m_14, m_15, m_16, m_17, m_18, m_19, .int 0, m_21, m_22, m_23, .ref xo, .ref xa, m_26, m_27, m_28, m_29, m_30, m_31, m_32, m_33, .int lw, .ref e0, .ref nw, .ref q0, .int bro, .long val, .long sm, .ref b0, m_42, m_43, m_44, m_45, m_46, m_47, m_48, m_49, m_50, .ref od, .int dn, .int me, m_54, .int ofm, m_56, m_57, m_58, m_59]), (cc_l w0 (K 0) 5500 fw), (cc_rl e0 (K 2) 13 fe), (cc_rl q0 (K 2) 400 frs), (cc_l u0 (K 0) 558 fu), (cc_l s0 (K 0) 16 fs), (cc_l b0 (K 0) 8 fb), (cc_rl nw (K 2) 13 fnw), (cc_l xo (K 0) 400 fo), (cc_l xa (K 0) 400 fa), (cc_l od (K 0) 96 fod)] s.heap := hP
  have hl := lv_entry [.ref m0, .int x] (n := 5) (Nat.le_of_ble_eq_true rfl)
  rw [lg_entry_eq]
  generalize (lg_sl [.ref m0, .int x] ++ List.replicate (5 - (lg_sl [.ref m0, .int x]).length) Slot.unset).toArray = ls at hl ⊢
  have hl : lv_has ls 5 [(0, .ref m0), (1, .int x)] := hl
  have hw12 : ∀ w ∈ wsX120, w ∈ wsX12_run := fun w h => (List.mem_cons_of_mem _ (List.mem_append_right _ h))
  generalize hQ : MQ below _ _ s _ _ _ = Q
  have hE := E_v_run.eq_def x nu lw bro val sm dn me ofm fw fe frs fu fs fb fnw fo fa fod
  refine lv_aload_n hx hb dX12_run_0 rfl (lv_at hl 0 rfl) (va_get (ci := 12) (v := .ref nw) (C := RX12) (T := TX12) (N := 60) hx hb hts hw12 hown hK hP 0 rfl rfl 36 (by decide +kernel) (hts _ mm_X12_run_866) (fun _ h9 => h9) rfl dX12_run_1 (lv_iconst (v := 1) hx hb dX12_run_4 (by decide +kernel) (lv_aload_n hx hb dX12_run_5 rfl (lv_at hl 0 rfl) (lv_iconst (v := 0) hx hb dX12_run_6 (by decide +kernel) (pci (va_runV (As := [.int 0]) (rest := [.int 1, .ref nw]) ⟨hx, hb, hml, hown, hts⟩ (v_term_0 l D K m0 m_0 m_1 m_2 w0 m_4 m_5 (.ref u0) (.ref s0) (.int nu) m_9 m_10 m_11 m_12 m_13 m_14 m_15 m_16 m_17 m_18 m_19 (.int 0) m_21 m_22 m_23 (.ref xo) (.ref xa) m_26 m_27 m_28 m_29 m_30 m_31 m_32 m_33 (.int lw) (.ref e0) (.ref nw) (.ref q0) (.int bro) (.long val) (.long sm) (.ref b0) m_42 m_43 m_44 m_45 m_46 m_47 m_48 m_49 m_50 (.ref od) (.int dn) (.int me) m_54 (.int ofm) m_56 m_57 m_58 m_59 fw s.heap.size zfw) (cwV 1 hts gX12_run_X12_term rfl rfl rfl (by decide +kernel) ⟨Nat.le_of_ble_eq_true rfl, Nat.le_of_ble_eq_true rfl⟩) (mkV hK hN (hP.sub [0, 1] rfl) (hD.sub [0, 1] (by decide +kernel) rfl) (ci := 12) (q0 := 0) rfl rfl) rfl rfl hl.1 rfl (lv_room (Nat.le_of_ble_eq_true rfl)) dX12_run_7 ⟨Nat.le_of_ble_eq_true rfl, Nat.le_of_ble_eq_true rfl⟩) (fun r_275 hw => ?_))))))
  obtain ⟨h_277, k_276, -⟩ := hw
  replace hE := hE.trans (Lt_in k_276)
  refine lv_i2l hx hb dX12_run_10 rfl (lv_topl (fun x_278 ex_278 => ?_))
  replace hE := hE.trans (Lt_in ex_278)
  have hx_278 : x_278.toInt = r_275.toInt := by rw [ex_278]; exact i_wide rfl
  refine va_last hx hb hK hP hD hS 7 2 rfl rfl (i_in (x := 1) rfl (by omega)) dX12_run_11 (fun H locs hP0 hD0 hS0 => ?_)
  replace hP := hP0
  replace hD := hD0
  replace hS := hS0
  clear hP0 hD0 hS0
  generalize hf_279 : (vp_updL fnw (1 : Int32).toNatClampNeg x_278) = f_279 at hP hD
  replace hE := hE.trans (Lt_in hf_279.symm)
  replace hP : va_P D vwCl [(cc_O m0 12 [m_0, m_1, m_2, .ref w0, m_4, m_5, .ref u0, .ref s0, .int nu, m_9, m_10, m_11, m_12, m_13, m_14, m_15, m_16, m_17, m_18, m_19, .int 0, m_21, m_22, m_23, .ref xo, .ref xa, m_26, m_27, m_28, m_29, m_30, m_31, m_32, m_33, .int lw, .ref e0, .ref nw, .ref q0, .int bro, .long val, .long sm, .ref b0, m_42, m_43, m_44, m_45, m_46, m_47, m_48, m_49, m_50, .ref od, .int dn, .int me, m_54, .int ofm, m_56, m_57, m_58, m_59]), (cc_l w0 (K 0) 5500 fw), (cc_rl e0 (K 2) 13 fe), (cc_rl q0 (K 2) 400 frs), (cc_l u0 (K 0) 558 fu), (cc_l s0 (K 0) 16 fs), (cc_l b0 (K 0) 8 fb), (cc_rl nw (K 2) 13 f_279), (cc_l xo (K 0) 400 fo), (cc_l xa (K 0) 400 fa), (cc_l od (K 0) 96 fod)] H := hP
  replace hD := as_D hP hD rfl
  refine lv_aload_n hx hb dX12_run_12 rfl (lv_at hl 0 rfl) (va_get (ci := 12) (v := .ref nw) (C := RX12) (T := TX12) (N := 60) hx hb hts hw12 hown hK hP 0 rfl rfl 36 (by decide +kernel) (hts _ mm_X12_run_866) (fun _ h9 => h9) rfl dX12_run_13 (lv_iconst (v := 2) hx hb dX12_run_16 (by decide +kernel) (lv_aload_n hx hb dX12_run_17 rfl (lv_at hl 0 rfl) (lv_iconst (v := 1) hx hb dX12_run_18 (by decide +kernel) (pci (va_runV (As := [.int 1]) (rest := [.int 2, .ref nw]) ⟨hx, hb, hml, hown, hts⟩ (v_term l D K m0 1 m_0 m_1 m_2 w0 m_4 m_5 (.ref u0) (.ref s0) (.int nu) m_9 m_10 m_11 m_12 m_13 m_14 m_15 m_16 m_17 m_18 m_19 (.int 0) m_21 m_22 m_23 (.ref xo) (.ref xa) m_26 m_27 m_28 m_29 m_30 m_31 m_32 m_33 (.int lw) (.ref e0) (.ref nw) (.ref q0) (.int bro) (.long val) (.long sm) (.ref b0) m_42 m_43 m_44 m_45 m_46 m_47 m_48 m_49 m_50 (.ref od) (.int dn) (.int me) m_54 (.int ofm) m_56 m_57 m_58 m_59 fw H.size (by first | omega | decide) zfw) (cwV 1 hts gX12_run_X12_term rfl rfl rfl (by decide +kernel) ⟨Nat.le_of_ble_eq_true rfl, Nat.le_of_ble_eq_true rfl⟩) (mkV hK hN (hP.sub [0, 1] rfl) (hD.sub [0, 1] (by decide +kernel) rfl) (ci := 12) (q0 := 0) rfl rfl) rfl rfl hl.1 rfl (lv_room (Nat.le_of_ble_eq_true rfl)) dX12_run_19 ⟨Nat.le_of_ble_eq_true rfl, Nat.le_of_ble_eq_true rfl⟩) (fun r_280 hw => ?_))))))
  obtain ⟨k_281, -⟩ := hw
  replace hE := hE.trans (Lt_in k_281)
  refine lv_i2l hx hb dX12_run_22 rfl (lv_topl (fun x_282 ex_282 => ?_))
  replace hE := hE.trans (Lt_in ex_282)
  have hx_282 : x_282.toInt = r_280.toInt := by rw [ex_282]; exact i_wide rfl
  refine va_last hx hb hK hP hD hS 7 2 rfl rfl (i_in (x := 2) rfl (by omega)) dX12_run_23 (fun H locs hP0 hD0 hS0 => ?_)
  replace hP := hP0
  replace hD := hD0
  replace hS := hS0
  clear hP0 hD0 hS0
  generalize hf_283 : (vp_updL f_279 (2 : Int32).toNatClampNeg x_282) = f_283 at hP hD
  replace hE := hE.trans (Lt_in hf_283.symm)
  replace hP : va_P D vwCl [(cc_O m0 12 [m_0, m_1, m_2, .ref w0, m_4, m_5, .ref u0, .ref s0, .int nu, m_9, m_10, m_11, m_12, m_13, m_14, m_15, m_16, m_17, m_18, m_19, .int 0, m_21, m_22, m_23, .ref xo, .ref xa, m_26, m_27, m_28, m_29, m_30, m_31, m_32, m_33, .int lw, .ref e0, .ref nw, .ref q0, .int bro, .long val, .long sm, .ref b0, m_42, m_43, m_44, m_45, m_46, m_47, m_48, m_49, m_50, .ref od, .int dn, .int me, m_54, .int ofm, m_56, m_57, m_58, m_59]), (cc_l w0 (K 0) 5500 fw), (cc_rl e0 (K 2) 13 fe), (cc_rl q0 (K 2) 400 frs), (cc_l u0 (K 0) 558 fu), (cc_l s0 (K 0) 16 fs), (cc_l b0 (K 0) 8 fb), (cc_rl nw (K 2) 13 f_283), (cc_l xo (K 0) 400 fo), (cc_l xa (K 0) 400 fa), (cc_l od (K 0) 96 fod)] H := hP
  replace hD := as_D hP hD rfl
  refine lv_aload_n hx hb dX12_run_24 rfl (lv_at hl 0 rfl) (va_get (ci := 12) (v := .ref nw) (C := RX12) (T := TX12) (N := 60) hx hb hts hw12 hown hK hP 0 rfl rfl 36 (by decide +kernel) (hts _ mm_X12_run_866) (fun _ h9 => h9) rfl dX12_run_25 (lv_iconst (v := 3) hx hb dX12_run_28 (by decide +kernel) (lv_aload_n hx hb dX12_run_29 rfl (lv_at hl 0 rfl) (va_get (ci := 12) (v := .ref w0) (C := RX12) (T := TX12) (N := 60) hx hb hts hw12 hown hK hP 0 rfl rfl 3 (by decide +kernel) (hts _ mm_X12_run_833) (fun _ h9 => h9) rfl dX12_run_30 (lv_bipush (v := 10) hx hb dX12_run_33 (by decide +kernel) (va_iald hx hb hK hP 1 0 rfl rfl (i_in (x := 10) rfl (by omega)) dX12_run_35 (lv_topi (fun x_284 ex_284 => ?_))))))))
  replace hE := hE.trans (Lt_in ex_284)
  have px_284 := RwOK.at zfw (show (10 : Int32).toInt = 10 from rfl) (show 0 ≤ 10 ∧ 10 < 100 by omega)
  rw [← ex_284] at px_284
  refine lv_i2l hx hb dX12_run_36 rfl (lv_topl (fun x_285 ex_285 => ?_))
  replace hE := hE.trans (Lt_in ex_285)
  have hx_285 : x_285.toInt = x_284.toInt := by rw [ex_285]; exact i_wide rfl
  have hbx_285 := i_rng (a := x_284) rfl
  refine va_last hx hb hK hP hD hS 7 2 rfl rfl (i_in (x := 3) rfl (by omega)) dX12_run_37 (fun H locs hP0 hD0 hS0 => ?_)
  replace hP := hP0
  replace hD := hD0
  replace hS := hS0
  clear hP0 hD0 hS0
  generalize hf_286 : (vp_updL f_283 (3 : Int32).toNatClampNeg x_285) = f_286 at hP hD
  replace hE := hE.trans (Lt_in hf_286.symm)
  replace hP : va_P D vwCl [(cc_O m0 12 [m_0, m_1, m_2, .ref w0, m_4, m_5, .ref u0, .ref s0, .int nu, m_9, m_10, m_11, m_12, m_13, m_14, m_15, m_16, m_17, m_18, m_19, .int 0, m_21, m_22, m_23, .ref xo, .ref xa, m_26, m_27, m_28, m_29, m_30, m_31, m_32, m_33, .int lw, .ref e0, .ref nw, .ref q0, .int bro, .long val, .long sm, .ref b0, m_42, m_43, m_44, m_45, m_46, m_47, m_48, m_49, m_50, .ref od, .int dn, .int me, m_54, .int ofm, m_56, m_57, m_58, m_59]), (cc_l w0 (K 0) 5500 fw), (cc_rl e0 (K 2) 13 fe), (cc_rl q0 (K 2) 400 frs), (cc_l u0 (K 0) 558 fu), (cc_l s0 (K 0) 16 fs), (cc_l b0 (K 0) 8 fb), (cc_rl nw (K 2) 13 f_286), (cc_l xo (K 0) 400 fo), (cc_l xa (K 0) 400 fa), (cc_l od (K 0) 96 fod)] H := hP
  replace hD := as_D hP hD rfl
  refine lv_aload_n hx hb dX12_run_38 rfl (lv_at hl 0 rfl) (va_get (ci := 12) (v := .ref nw) (C := RX12) (T := TX12) (N := 60) hx hb hts hw12 hown hK hP 0 rfl rfl 36 (by decide +kernel) (hts _ mm_X12_run_866) (fun _ h9 => h9) rfl dX12_run_39 (lv_iconst (v := 4) hx hb dX12_run_42 (by decide +kernel) (lv_aload_n hx hb dX12_run_43 rfl (lv_at hl 0 rfl) (va_get (ci := 12) (v := .int dn) (C := RX12) (T := TX12) (N := 60) hx hb hts hw12 hown hK hP 0 rfl rfl 52 (by decide +kernel) (hts _ mm_X12_run_882) (fun _ h9 => h9) rfl dX12_run_44 (lv_i2l hx hb dX12_run_47 rfl (lv_topl (fun x_287 ex_287 => ?_)))))))
  replace hE := hE.trans (Lt_in ex_287)
  have hx_287 : x_287.toInt = dn.toInt := by rw [ex_287]; exact i_wide rfl
  refine va_last hx hb hK hP hD hS 7 2 rfl rfl (i_in (x := 4) rfl (by omega)) dX12_run_48 (fun H locs hP0 hD0 hS0 => ?_)
  replace hP := hP0
  replace hD := hD0
  replace hS := hS0
  clear hP0 hD0 hS0
  generalize hf_288 : (vp_updL f_286 (4 : Int32).toNatClampNeg x_287) = f_288 at hP hD
  replace hE := hE.trans (Lt_in hf_288.symm)
  replace hP : va_P D vwCl [(cc_O m0 12 [m_0, m_1, m_2, .ref w0, m_4, m_5, .ref u0, .ref s0, .int nu, m_9, m_10, m_11, m_12, m_13, m_14, m_15, m_16, m_17, m_18, m_19, .int 0, m_21, m_22, m_23, .ref xo, .ref xa, m_26, m_27, m_28, m_29, m_30, m_31, m_32, m_33, .int lw, .ref e0, .ref nw, .ref q0, .int bro, .long val, .long sm, .ref b0, m_42, m_43, m_44, m_45, m_46, m_47, m_48, m_49, m_50, .ref od, .int dn, .int me, m_54, .int ofm, m_56, m_57, m_58, m_59]), (cc_l w0 (K 0) 5500 fw), (cc_rl e0 (K 2) 13 fe), (cc_rl q0 (K 2) 400 frs), (cc_l u0 (K 0) 558 fu), (cc_l s0 (K 0) 16 fs), (cc_l b0 (K 0) 8 fb), (cc_rl nw (K 2) 13 f_288), (cc_l xo (K 0) 400 fo), (cc_l xa (K 0) 400 fa), (cc_l od (K 0) 96 fod)] H := hP
  replace hD := as_D hP hD rfl
  refine lv_aload_n hx hb dX12_run_49 rfl (lv_at hl 0 rfl) (va_get (ci := 12) (v := .ref nw) (C := RX12) (T := TX12) (N := 60) hx hb hts hw12 hown hK hP 0 rfl rfl 36 (by decide +kernel) (hts _ mm_X12_run_866) (fun _ h9 => h9) rfl dX12_run_50 (lv_iconst (v := 5) hx hb dX12_run_53 (by decide +kernel) (lv_aload_n hx hb dX12_run_54 rfl (lv_at hl 0 rfl) (va_get (ci := 12) (v := .int me) (C := RX12) (T := TX12) (N := 60) hx hb hts hw12 hown hK hP 0 rfl rfl 53 (by decide +kernel) (hts _ mm_X12_run_883) (fun _ h9 => h9) rfl dX12_run_55 (lv_i2l hx hb dX12_run_58 rfl (lv_topl (fun x_289 ex_289 => ?_)))))))
  replace hE := hE.trans (Lt_in ex_289)
  have hx_289 : x_289.toInt = me.toInt := by rw [ex_289]; exact i_wide rfl
  have hbx_289 := i_rng (a := me) rfl
  refine va_last hx hb hK hP hD hS 7 2 rfl rfl (i_in (x := 5) rfl (by omega)) dX12_run_59 (fun H locs hP0 hD0 hS0 => ?_)
  replace hP := hP0
  replace hD := hD0
  replace hS := hS0
  clear hP0 hD0 hS0
  generalize hf_290 : (vp_updL f_288 (5 : Int32).toNatClampNeg x_289) = f_290 at hP hD
  replace hE := hE.trans (Lt_in hf_290.symm)
  replace hP : va_P D vwCl [(cc_O m0 12 [m_0, m_1, m_2, .ref w0, m_4, m_5, .ref u0, .ref s0, .int nu, m_9, m_10, m_11, m_12, m_13, m_14, m_15, m_16, m_17, m_18, m_19, .int 0, m_21, m_22, m_23, .ref xo, .ref xa, m_26, m_27, m_28, m_29, m_30, m_31, m_32, m_33, .int lw, .ref e0, .ref nw, .ref q0, .int bro, .long val, .long sm, .ref b0, m_42, m_43, m_44, m_45, m_46, m_47, m_48, m_49, m_50, .ref od, .int dn, .int me, m_54, .int ofm, m_56, m_57, m_58, m_59]), (cc_l w0 (K 0) 5500 fw), (cc_rl e0 (K 2) 13 fe), (cc_rl q0 (K 2) 400 frs), (cc_l u0 (K 0) 558 fu), (cc_l s0 (K 0) 16 fs), (cc_l b0 (K 0) 8 fb), (cc_rl nw (K 2) 13 f_290), (cc_l xo (K 0) 400 fo), (cc_l xa (K 0) 400 fa), (cc_l od (K 0) 96 fod)] H := hP
  replace hD := as_D hP hD rfl
  refine lv_aload_n hx hb dX12_run_60 rfl (lv_at hl 0 rfl) (lv_iconst (v := 0) hx hb dX12_run_61 (by decide +kernel) (va_put (ci := 12) (v := .int 0) (ty := .boolean) (C := RX12) (T := TX12) (N := 60) hx hb hts hw12 tyX12 tyX12_ok nmX12 hown hK hP hD hS 0 rfl rfl 55 (by decide +kernel) (hts _ mm_X12_run_885) (fun _ h9 => h9) rfl (by decide +kernel) (by first | rfl | decide) (by first | rfl | decide) (Nat.le_of_ble_eq_true rfl) dX12_run_62 (fun H locs hP0 hD0 hS0 => ?_)))
  replace hP : va_P D vwCl [(cc_O m0 12 [m_0, m_1, m_2, .ref w0, m_4, m_5, .ref u0, .ref s0, .int nu, m_9, m_10, m_11, m_12, m_13, m_14, m_15, m_16, m_17, m_18, m_19, .int 0, m_21, m_22, m_23, .ref xo, .ref xa, m_26, m_27, m_28, m_29, m_30, m_31, m_32, m_33, .int lw, .ref e0, .ref nw, .ref q0, .int bro, .long val, .long sm, .ref b0, m_42, m_43, m_44, m_45, m_46, m_47, m_48, m_49, m_50, .ref od, .int dn, .int me, m_54, .int 0, m_56, m_57, m_58, m_59]), (cc_l w0 (K 0) 5500 fw), (cc_rl e0 (K 2) 13 fe), (cc_rl q0 (K 2) 400 frs), (cc_l u0 (K 0) 558 fu), (cc_l s0 (K 0) 16 fs), (cc_l b0 (K 0) 8 fb), (cc_rl nw (K 2) 13 f_290), (cc_l xo (K 0) 400 fo), (cc_l xa (K 0) 400 fa), (cc_l od (K 0) 96 fod)] H := hP0
  replace hD := as_D hP hD0 rfl
  replace hS := hS0
  clear hP0 hD0 hS0
  refine lv_aload_n hx hb dX12_run_65 rfl (lv_at hl 0 rfl) (va_get (ci := 12) (v := .ref od) (C := RX12) (T := TX12) (N := 60) hx hb hts hw12 hown hK hP 0 rfl rfl 51 (by decide +kernel) (hts _ mm_X12_run_881) (fun _ h9 => h9) rfl dX12_run_66 (lv_iload_n hx hb dX12_run_69 rfl (lv_at hl 1 rfl) (lv_iconst (v := 5) hx hb dX12_run_70 (by decide +kernel) (lv_iadd hx hb dX12_run_71 (lv_topi (fun x_291 ex_291 => ?_))))))
  replace hE := hE.trans (Lt_in ex_291)
  have hx_291 : x_291.toInt = (x.toInt + 5) := by rw [ex_291]; exact i_add rfl (show (5 : Int32).toInt = 5 from rfl) (by omega)
  refine va_iald hx hb hK hP 10 0 rfl rfl (i_in hx_291 (by omega)) dX12_run_72 (lv_topi (fun x_292 ex_292 => ?_))
  replace hE := hE.trans (Lt_in ex_292)
  refine lv_aload_n hx hb dX12_run_73 rfl (lv_at hl 0 rfl) (va_get (ci := 12) (v := .ref od) (C := RX12) (T := TX12) (N := 60) hx hb hts hw12 hown hK hP 0 rfl rfl 51 (by decide +kernel) (hts _ mm_X12_run_881) (fun _ h9 => h9) rfl dX12_run_74 (lv_iload_n hx hb dX12_run_77 rfl (lv_at hl 1 rfl) (lv_bipush (v := 6) hx hb dX12_run_78 (by decide +kernel) (lv_iadd hx hb dX12_run_80 (lv_topi (fun x_293 ex_293 => ?_))))))
  replace hE := hE.trans (Lt_in ex_293)
  have hx_293 : x_293.toInt = (x.toInt + 6) := by rw [ex_293]; exact i_add rfl (show (6 : Int32).toInt = 6 from rfl) (by omega)
  refine va_iald hx hb hK hP 10 0 rfl rfl (i_in hx_293 (by omega)) dX12_run_81 (lv_topi (fun x_294 ex_294 => ?_))
  replace hE := hE.trans (Lt_in ex_294)
  have j_340 : ∀ (v_307 : Int32) (v_308 : Int64) (v_309 : Int32) (f_310 : Nat → Int64) (hv_307 : 0 ≤ v_307.toInt ∧ v_307.toInt ≤ 1) (hv_309 : 0 ≤ v_309.toInt ∧ v_309.toInt ≤ 0) (hE : E_v_run x nu lw bro val sm dn me ofm fw fe frs fu fs fb fnw fo fa fod = E_v_run_j106 x nu lw sm dn me fw fe fu fs fb fo fa fod f_290 v_307 v_308 v_309 f_310) (H : Heap) (locs : List Loc) (hP : va_P D vwCl [(cc_O m0 12 [m_0, m_1, m_2, .ref w0, m_4, m_5, .ref u0, .ref s0, .int nu, m_9, m_10, m_11, m_12, m_13, m_14, m_15, m_16, m_17, m_18, m_19, .int 0, m_21, m_22, m_23, .ref xo, .ref xa, m_26, m_27, m_28, m_29, m_30, m_31, m_32, m_33, .int lw, .ref e0, .ref nw, .ref q0, .int v_307, .long v_308, .long sm, .ref b0, m_42, m_43, m_44, m_45, m_46, m_47, m_48, m_49, m_50, .ref od, .int dn, .int me, m_54, .int v_309, m_56, m_57, m_58, m_59]), (cc_l w0 (K 0) 5500 fw), (cc_rl e0 (K 2) 13 fe), (cc_rl q0 (K 2) 400 f_310), (cc_l u0 (K 0) 558 fu), (cc_l s0 (K 0) 16 fs), (cc_l b0 (K 0) 8 fb), (cc_rl nw (K 2) 13 f_290), (cc_l xo (K 0) 400 fo), (cc_l xa (K 0) 400 fa), (cc_l od (K 0) 96 fod)] H) (hD : va_D A [(cc_O m0 12 [m_0, m_1, m_2, .ref w0, m_4, m_5, .ref u0, .ref s0, .int nu, m_9, m_10, m_11, m_12, m_13, m_14, m_15, m_16, m_17, m_18, m_19, .int 0, m_21, m_22, m_23, .ref xo, .ref xa, m_26, m_27, m_28, m_29, m_30, m_31, m_32, m_33, .int lw, .ref e0, .ref nw, .ref q0, .int v_307, .long v_308, .long sm, .ref b0, m_42, m_43, m_44, m_45, m_46, m_47, m_48, m_49, m_50, .ref od, .int dn, .int me, m_54, .int v_309, m_56, m_57, m_58, m_59]), (cc_l w0 (K 0) 5500 fw), (cc_rl e0 (K 2) 13 fe), (cc_rl q0 (K 2) 400 f_310), (cc_l u0 (K 0) 558 fu), (cc_l s0 (K 0) 16 fs), (cc_l b0 (K 0) 8 fb), (cc_rl nw (K 2) 13 f_290), (cc_l xo (K 0) 400 fo), (cc_l xa (K 0) 400 fa), (cc_l od (K 0) 96 fod)]) (hS : va_S A s.heap H locs) (ls : Array Slot) (hl : lv_has ls 5 [(0, .ref m0), (1, .int x)]), W p l e ({ frames := 9, cells := 0, slots := 0, locals := 211 }) s m (([.ref m0, .int x] : List Value).toArray) below meth c H locs 0 0 Q (F0 m 106 ls []) := by
    clear hE hP hD hS hl
    intro v_307 v_308 v_309 f_310 hv_307 hv_309 hE H locs hP hD hS ls hl
    replace hE := hE.trans (E_v_run_j106.eq_def _ _ _ _ _ _ _ _ _ _ _ _ _ _ _ _ _ _ _)
    refine lv_aload_n hx hb dX12_run_106 rfl (lv_at hl 0 rfl) (lv_iload_n hx hb dX12_run_107 rfl (lv_at hl 1 rfl) (lv_iconst (v := 1) hx hb dX12_run_108 (by decide +kernel) (lv_iadd hx hb dX12_run_109 (lv_topi (fun x_341 ex_341 => ?_)))))
    replace hE := hE.trans (Lt_in ex_341)
    have hx_341 : x_341.toInt = (x.toInt + 1) := by rw [ex_341]; exact i_add rfl (show (1 : Int32).toInt = 1 from rfl) (by omega)
    refine kci (S := Su) (wr := [(cc_rl e0 (K 2) 13 fe), (cc_l u0 (K 0) 558 fu), (cc_l s0 (K 0) 16 fs), (cc_l b0 (K 0) 8 fb)]) (va_runV (As := [.int x_341]) (rest := []) ⟨hx, hb, hml, hown, hts⟩ (v_sumOf l D K m0 x_341 m_0 m_1 m_2 w0 m_4 m_5 (.ref u0) (.ref s0) (.int nu) m_9 m_10 m_11 m_12 m_13 m_14 m_15 m_16 m_17 m_18 m_19 m_21 m_22 m_23 xo xa m_26 m_27 m_28 m_29 m_30 m_31 m_32 m_33 (.int lw) (.ref e0) nw q0 v_307 v_308 (.long sm) (.ref b0) m_42 m_43 m_44 m_45 m_46 m_47 m_48 m_49 m_50 od (.int dn) (.int me) m_54 v_309 m_56 m_57 m_58 m_59 fw gr f_290 f_310 fo fa fod H.size (by first | omega | decide) (by first | omega | decide) (by first | omega | decide) (by rw [hx_341]; have q := (hor c_ hc_).1.1.1; rw [show 8 * c_ + 1 = ((x.toInt + 1)).toNat by omega, show 8 * c_ + 2 = ((x.toInt + 1) + 1).toNat by omega] at q; exact q) zfw zgr) (cwV 1 hts gX12_run_X12_sumOf rfl rfl rfl (by decide +kernel) ⟨Nat.le_of_ble_eq_true rfl, Nat.le_of_ble_eq_true rfl⟩) (mkV hK hN (hP.sub [0, 1, 7, 3, 8, 9, 10] rfl) (hD.sub [0, 1, 7, 3, 8, 9, 10] (by decide +kernel) rfl) (ci := 12) (q0 := 0) rfl rfl) rfl rfl hl.1 rfl (lv_room (Nat.le_of_ble_eq_true rfl)) dX12_run_110 ⟨Nat.le_of_ble_eq_true rfl, Nat.le_of_ble_eq_true rfl⟩) hP hD hS hA [0, 1, 7, 3, 8, 9, 10] [2, 4, 5, 6] rfl rfl (by decide +kernel) (by decide +kernel) (fun r_342 u_343 H locs hw hP0 hD0 hS0 => ?_)
    replace hP : va_P D vwCl [(cc_rl e0 (K 2) 13 fe), (cc_l u0 (K 0) 558 fu), (cc_l s0 (K 0) 16 fs), (cc_l b0 (K 0) 8 fb), (cc_O m0 12 [m_0, m_1, m_2, .ref w0, m_4, m_5, .ref u0, .ref s0, .int nu, m_9, m_10, m_11, m_12, m_13, m_14, m_15, m_16, m_17, m_18, m_19, .int 0, m_21, m_22, m_23, .ref xo, .ref xa, m_26, m_27, m_28, m_29, m_30, m_31, m_32, m_33, .int lw, .ref e0, .ref nw, .ref q0, .int (u_343.2.2.2.1 0), .long (u_343.2.2.2.2.1 0), .long sm, .ref b0, m_42, m_43, m_44, m_45, m_46, m_47, m_48, m_49, m_50, .ref od, .int dn, .int me, m_54, .int (u_343.2.2.2.1 1), m_56, m_57, m_58, m_59]), (cc_l w0 (K 0) 5500 fw), (cc_rl nw (K 2) 13 f_290), (cc_rl q0 (K 2) 400 (u_343.2.2.1 0)), (cc_l xo (K 0) 400 fo), (cc_l xa (K 0) 400 fa), (cc_l od (K 0) 96 fod)] H := hP0
    replace hD := as_D hP hD0 rfl
    replace hS := hS0
    clear hP0 hD0 hS0
    obtain ⟨k_344, k_345, k_346, -⟩ := hw
    replace hE := (((hE.trans (Lt2_in k_346)).trans (Lt2_in rfl)).trans (Lt2_in rfl)).trans (Lt2_in rfl)
    refine lv_istore_n (lv' := [(2, .int r_342), (0, .ref m0), (1, .int x)]) hx hb dX12_run_113 rfl hl (by decide +kernel) rfl (fun ls hl => ?_)
    refine lv_aload_n hx hb dX12_run_114 rfl (lv_at hl 1 rfl) (lv_iload_n hx hb dX12_run_115 rfl (lv_at hl 2 rfl) (lv_iconst (v := 3) hx hb dX12_run_116 (by decide +kernel) (lv_iadd hx hb dX12_run_117 (lv_topi (fun x_347 ex_347 => ?_)))))
    replace hE := hE.trans (Lt_in ex_347)
    have hx_347 : x_347.toInt = (x.toInt + 3) := by rw [ex_347]; exact i_add rfl (show (3 : Int32).toInt = 3 from rfl) (by omega)
    refine kci (S := Su) (wr := [(cc_rl e0 (K 2) 13 fe), (cc_l u0 (K 0) 558 fu), (cc_l s0 (K 0) 16 fs), (cc_l b0 (K 0) 8 fb)]) (va_runV (As := [.int x_347]) (rest := []) ⟨hx, hb, hml, hown, hts⟩ (v_sumOf l D K m0 x_347 m_0 m_1 m_2 w0 m_4 m_5 (.ref u0) (.ref s0) (.int nu) m_9 m_10 m_11 m_12 m_13 m_14 m_15 m_16 m_17 m_18 m_19 m_21 m_22 m_23 xo xa m_26 m_27 m_28 m_29 m_30 m_31 m_32 m_33 (.int lw) (.ref e0) nw q0 (u_343.2.2.2.1 0) (u_343.2.2.2.2.1 0) (.long sm) (.ref b0) m_42 m_43 m_44 m_45 m_46 m_47 m_48 m_49 m_50 od (.int dn) (.int me) m_54 (u_343.2.2.2.1 1) m_56 m_57 m_58 m_59 fw gr f_290 (u_343.2.2.1 0) fo fa fod H.size (by first | omega | decide) (by first | omega | decide) (by first | omega | decide) (by rw [hx_347]; have q := (hor c_ hc_).1.2.1.1; rw [show 8 * c_ + 3 = ((x.toInt + 3)).toNat by omega, show 8 * c_ + 4 = ((x.toInt + 3) + 1).toNat by omega] at q; exact q) zfw zgr) (cwV 1 hts gX12_run_X12_sumOf rfl rfl rfl (by decide +kernel) ⟨Nat.le_of_ble_eq_true rfl, Nat.le_of_ble_eq_true rfl⟩) (mkV hK hN (hP.sub [4, 5, 6, 7, 8, 9, 10] rfl) (hD.sub [4, 5, 6, 7, 8, 9, 10] (by decide +kernel) rfl) (ci := 12) (q0 := 0) rfl rfl) rfl rfl hl.1 rfl (lv_room (Nat.le_of_ble_eq_true rfl)) dX12_run_118 ⟨Nat.le_of_ble_eq_true rfl, Nat.le_of_ble_eq_true rfl⟩) hP hD hS hA [4, 5, 6, 7, 8, 9, 10] [0, 1, 2, 3] rfl rfl (by decide +kernel) (by decide +kernel) (fun r_348 u_349 H locs hw hP0 hD0 hS0 => ?_)
    replace hP : va_P D vwCl [(cc_rl e0 (K 2) 13 fe), (cc_l u0 (K 0) 558 fu), (cc_l s0 (K 0) 16 fs), (cc_l b0 (K 0) 8 fb), (cc_O m0 12 [m_0, m_1, m_2, .ref w0, m_4, m_5, .ref u0, .ref s0, .int nu, m_9, m_10, m_11, m_12, m_13, m_14, m_15, m_16, m_17, m_18, m_19, .int 0, m_21, m_22, m_23, .ref xo, .ref xa, m_26, m_27, m_28, m_29, m_30, m_31, m_32, m_33, .int lw, .ref e0, .ref nw, .ref q0, .int (u_349.2.2.2.1 0), .long (u_349.2.2.2.2.1 0), .long sm, .ref b0, m_42, m_43, m_44, m_45, m_46, m_47, m_48, m_49, m_50, .ref od, .int dn, .int me, m_54, .int (u_349.2.2.2.1 1), m_56, m_57, m_58, m_59]), (cc_l w0 (K 0) 5500 fw), (cc_rl nw (K 2) 13 f_290), (cc_rl q0 (K 2) 400 (u_349.2.2.1 0)), (cc_l xo (K 0) 400 fo), (cc_l xa (K 0) 400 fa), (cc_l od (K 0) 96 fod)] H := hP0
    replace hD := as_D hP hD0 rfl
    replace hS := hS0
    clear hP0 hD0 hS0
    obtain ⟨k_350, k_351, k_352, -⟩ := hw
    replace hE := (((hE.trans (Lt2_in k_352)).trans (Lt2_in rfl)).trans (Lt2_in rfl)).trans (Lt2_in rfl)
    refine lv_istore_n (lv' := [(3, .int r_348), (2, .int r_342), (0, .ref m0), (1, .int x)]) hx hb dX12_run_121 rfl hl (by decide +kernel) rfl (fun ls hl => ?_)
    refine lv_aload_n hx hb dX12_run_122 rfl (lv_at hl 2 rfl) (va_get (ci := 12) (v := .int (u_349.2.2.2.1 1)) (C := RX12) (T := TX12) (N := 60) hx hb hts hw12 hown hK hP 4 rfl rfl 55 (by decide +kernel) (hts _ mm_X12_run_885) (fun _ h9 => h9) rfl dX12_run_123 (lv_if_eq (tgt := 132) hx hb dX12_run_126 (by decide +kernel) (fun c_353 => ?_) (fun c_353 => ?_)))
    · have c_353i := i_eq (x := (u_349.2.2.2.1 1).toInt) (y := 0) rfl rfl c_353
      replace hE := hE.trans (if_pos c_353)
      refine lv_aload_n hx hb dX12_run_132 rfl (lv_at hl 2 rfl) (lv_aload_n hx hb dX12_run_133 rfl (lv_at hl 2 rfl) (va_get (ci := 12) (v := .ref od) (C := RX12) (T := TX12) (N := 60) hx hb hts hw12 hown hK hP 4 rfl rfl 51 (by decide +kernel) (hts _ mm_X12_run_881) (fun _ h9 => h9) rfl dX12_run_134 (lv_iload_n hx hb dX12_run_137 rfl (lv_at hl 3 rfl) (va_iald hx hb hK hP 10 0 rfl rfl (i_in rfl (by omega)) dX12_run_138 (lv_topi (fun x_354 ex_354 => ?_))))))
      replace hE := hE.trans (Lt_in ex_354)
      refine lv_iload_n hx hb dX12_run_139 rfl (lv_at hl 1 rfl) (lv_iload_n hx hb dX12_run_140 rfl (lv_at hl 0 rfl) (kci (S := Su) (wr := [(cc_rl nw (K 2) 13 f_290), (cc_l xo (K 0) 400 fo), (cc_l xa (K 0) 400 fa), (cc_l od (K 0) 96 fod)]) (va_runV (As := [.int x_354, .int r_342, .int r_348]) (rest := []) ⟨hx, hb, hml, hown, hts⟩ (v_act l D K m0 x_354 r_342 r_348 m_0 m_1 m_2 w0 m_4 m_5 u0 s0 nu m_9 m_10 m_11 m_12 m_13 m_14 m_15 m_16 m_17 m_18 m_19 m_21 m_22 m_23 (.ref xo) (.ref xa) m_26 m_27 m_28 m_29 m_30 m_31 m_32 m_33 lw e0 (.ref nw) q0 (u_349.2.2.2.1 0) (u_349.2.2.2.2.1 0) sm b0 m_42 m_43 m_44 m_45 m_46 m_47 m_48 m_49 m_50 (.ref od) (.int dn) (.int me) m_54 (.int (u_349.2.2.2.1 1)) m_56 m_57 m_58 m_59 fw gr fe (u_349.2.2.1 0) fu fs fb H.size (by first | omega | decide) (by first | omega | decide) zfw zgr zfu zfs) (cwV 3 hts gX12_run_X12_act rfl rfl rfl (by decide +kernel) ⟨Nat.le_of_ble_eq_true rfl, Nat.le_of_ble_eq_true rfl⟩) (mkV hK hN (hP.sub [4, 5, 0, 7, 1, 2, 3] rfl) (hD.sub [4, 5, 0, 7, 1, 2, 3] (by decide +kernel) rfl) (ci := 12) (q0 := 0) rfl rfl) rfl rfl hl.1 rfl (lv_room (Nat.le_of_ble_eq_true rfl)) dX12_run_141 ⟨Nat.le_of_ble_eq_true rfl, Nat.le_of_ble_eq_true rfl⟩) hP hD hS hA [4, 5, 0, 7, 1, 2, 3] [6, 8, 9, 10] rfl rfl (by decide +kernel) (by decide +kernel) (fun r_355 u_356 H locs hw hP0 hD0 hS0 => ?_)))
      replace hP : va_P D vwCl [(cc_rl nw (K 2) 13 f_290), (cc_l xo (K 0) 400 fo), (cc_l xa (K 0) 400 fa), (cc_l od (K 0) 96 fod), (cc_O m0 12 [m_0, m_1, m_2, .ref w0, m_4, m_5, .ref u0, .ref s0, .int (u_356.2.2.2.1 0), m_9, m_10, m_11, m_12, m_13, m_14, m_15, m_16, m_17, m_18, m_19, .int 0, m_21, m_22, m_23, .ref xo, .ref xa, m_26, m_27, m_28, m_29, m_30, m_31, m_32, m_33, .int (u_356.2.2.2.1 1), .ref e0, .ref nw, .ref q0, .int (u_356.2.2.2.1 2), .long (u_356.2.2.2.2.1 0), .long (u_356.2.2.2.2.1 1), .ref b0, m_42, m_43, m_44, m_45, m_46, m_47, m_48, m_49, m_50, .ref od, .int dn, .int me, m_54, .int (u_349.2.2.2.1 1), m_56, m_57, m_58, m_59]), (cc_l w0 (K 0) 5500 (u_356.2.1 0)), (cc_rl e0 (K 2) 13 (u_356.2.2.1 0)), (cc_rl q0 (K 2) 400 (u_356.2.2.1 1)), (cc_l u0 (K 0) 558 (u_356.2.1 1)), (cc_l s0 (K 0) 16 (u_356.2.1 2)), (cc_l b0 (K 0) 8 (u_356.2.1 3))] H := hP0
      replace hD := as_D hP hD0 rfl
      replace hS := hS0
      clear hP0 hD0 hS0
      obtain ⟨h_364, k_357, k_358, k_359, k_360, k_361, k_362, k_363, -⟩ := hw
      replace hE := ((((((((((hE.trans (Lt2_in k_363)).trans (Lt2_in rfl)).trans (Lt2_in rfl)).trans (Lt2_in rfl)).trans (Lt2_in rfl)).trans (Lt2_in rfl)).trans (Lt2_in rfl)).trans (Lt2_in rfl)).trans (Lt2_in rfl)).trans (Lt2_in rfl)).trans (Lt2_in rfl)
      refine lv_istore (lv' := [(4, .int r_355), (3, .int r_348), (2, .int r_342), (0, .ref m0), (1, .int x)]) hx hb dX12_run_144 hl (by decide +kernel) rfl (fun ls hl => ?_)
      refine lv_iload hx hb dX12_run_146 (lv_at hl 0 rfl) (lv_if_ge (tgt := 154) hx hb dX12_run_148 (by decide +kernel) (fun c_365 => ?_) (fun c_365 => ?_))
      · have c_365i := i_le (x := 0) (y := r_355.toInt) rfl rfl c_365
        replace hE := hE.trans (if_pos c_365)
        refine lv_aload_n hx hb dX12_run_154 rfl (lv_at hl 3 rfl) (lv_aload_n hx hb dX12_run_155 rfl (lv_at hl 3 rfl) (va_get (ci := 12) (v := .ref od) (C := RX12) (T := TX12) (N := 60) hx hb hts hw12 hown hK hP 4 rfl rfl 51 (by decide +kernel) (hts _ mm_X12_run_881) (fun _ h9 => h9) rfl dX12_run_156 (lv_iload_n hx hb dX12_run_159 rfl (lv_at hl 4 rfl) (va_iald hx hb hK hP 3 0 rfl rfl (i_in rfl (by omega)) dX12_run_160 (lv_topi (fun x_366 ex_366 => ?_))))))
        replace hE := hE.trans (Lt_in ex_366)
        refine lv_iconst (v := 3) hx hb dX12_run_161 (by decide +kernel) (lv_icmp_ne (tgt := 170) hx hb dX12_run_162 (by decide +kernel) (fun c_367 => ?_) (fun c_367 => ?_))
        · have c_367i := i_ne (x := x_366.toInt) (y := 3) rfl rfl c_367
          replace hE := hE.trans (if_neg c_367)
          refine lv_aload_n hx hb dX12_run_170 rfl (lv_at hl 3 rfl) (va_get (ci := 12) (v := .int me) (C := RX12) (T := TX12) (N := 60) hx hb hts hw12 hown hK hP 4 rfl rfl 53 (by decide +kernel) (hts _ mm_X12_run_883) (fun _ h9 => h9) rfl dX12_run_171 (va_put (ci := 12) (v := .int me) (ty := .int) (C := RX12) (T := TX12) (N := 60) hx hb hts hw12 tyX12 tyX12_ok nmX12 hown hK hP hD hS 4 rfl rfl 53 (by decide +kernel) (hts _ mm_X12_run_883) (fun _ h9 => h9) rfl (by decide +kernel) (by first | rfl | decide) (by first | rfl | decide) (Nat.le_of_ble_eq_true rfl) dX12_run_174 (fun H locs hP0 hD0 hS0 => ?_)))
          replace hP : va_P D vwCl [(cc_rl nw (K 2) 13 f_290), (cc_l xo (K 0) 400 fo), (cc_l xa (K 0) 400 fa), (cc_l od (K 0) 96 fod), (cc_O m0 12 [m_0, m_1, m_2, .ref w0, m_4, m_5, .ref u0, .ref s0, .int (u_356.2.2.2.1 0), m_9, m_10, m_11, m_12, m_13, m_14, m_15, m_16, m_17, m_18, m_19, .int 0, m_21, m_22, m_23, .ref xo, .ref xa, m_26, m_27, m_28, m_29, m_30, m_31, m_32, m_33, .int (u_356.2.2.2.1 1), .ref e0, .ref nw, .ref q0, .int (u_356.2.2.2.1 2), .long (u_356.2.2.2.2.1 0), .long (u_356.2.2.2.2.1 1), .ref b0, m_42, m_43, m_44, m_45, m_46, m_47, m_48, m_49, m_50, .ref od, .int dn, .int me, m_54, .int (u_349.2.2.2.1 1), m_56, m_57, m_58, m_59]), (cc_l w0 (K 0) 5500 (u_356.2.1 0)), (cc_rl e0 (K 2) 13 (u_356.2.2.1 0)), (cc_rl q0 (K 2) 400 (u_356.2.2.1 1)), (cc_l u0 (K 0) 558 (u_356.2.1 1)), (cc_l s0 (K 0) 16 (u_356.2.1 2)), (cc_l b0 (K 0) 8 (u_356.2.1 3))] H := hP0
          replace hD := as_D hP hD0 rfl
          replace hS := hS0
          clear hP0 hD0 hS0
          refine lv_aload_n hx hb dX12_run_177 rfl (lv_at hl 3 rfl) (lv_dup hx hb dX12_run_178 rfl (va_get (ci := 12) (v := .int dn) (C := RX12) (T := TX12) (N := 60) hx hb hts hw12 hown hK hP 4 rfl rfl 52 (by decide +kernel) (hts _ mm_X12_run_882) (fun _ h9 => h9) rfl dX12_run_179 (lv_iconst (v := 1) hx hb dX12_run_182 (by decide +kernel) (lv_iadd hx hb dX12_run_183 (lv_topi (fun x_368 ex_368 => ?_))))))
          replace hE := hE.trans (Lt_in ex_368)
          have hx_368 : x_368.toInt = (dn.toInt + 1) := by rw [ex_368]; exact i_add rfl (show (1 : Int32).toInt = 1 from rfl) (by omega)
          refine va_put (ci := 12) (v := .int x_368) (ty := .int) (C := RX12) (T := TX12) (N := 60) hx hb hts hw12 tyX12 tyX12_ok nmX12 hown hK hP hD hS 4 rfl rfl 52 (by decide +kernel) (hts _ mm_X12_run_882) (fun _ h9 => h9) rfl (by decide +kernel) (by first | rfl | decide) (by first | rfl | decide) (Nat.le_of_ble_eq_true rfl) dX12_run_184 (fun H locs hP0 hD0 hS0 => ?_)
          replace hP : va_P D vwCl [(cc_rl nw (K 2) 13 f_290), (cc_l xo (K 0) 400 fo), (cc_l xa (K 0) 400 fa), (cc_l od (K 0) 96 fod), (cc_O m0 12 [m_0, m_1, m_2, .ref w0, m_4, m_5, .ref u0, .ref s0, .int (u_356.2.2.2.1 0), m_9, m_10, m_11, m_12, m_13, m_14, m_15, m_16, m_17, m_18, m_19, .int 0, m_21, m_22, m_23, .ref xo, .ref xa, m_26, m_27, m_28, m_29, m_30, m_31, m_32, m_33, .int (u_356.2.2.2.1 1), .ref e0, .ref nw, .ref q0, .int (u_356.2.2.2.1 2), .long (u_356.2.2.2.2.1 0), .long (u_356.2.2.2.2.1 1), .ref b0, m_42, m_43, m_44, m_45, m_46, m_47, m_48, m_49, m_50, .ref od, .int x_368, .int me, m_54, .int (u_349.2.2.2.1 1), m_56, m_57, m_58, m_59]), (cc_l w0 (K 0) 5500 (u_356.2.1 0)), (cc_rl e0 (K 2) 13 (u_356.2.2.1 0)), (cc_rl q0 (K 2) 400 (u_356.2.2.1 1)), (cc_l u0 (K 0) 558 (u_356.2.1 1)), (cc_l s0 (K 0) 16 (u_356.2.1 2)), (cc_l b0 (K 0) 8 (u_356.2.1 3))] H := hP0
          replace hD := as_D hP hD0 rfl
          replace hS := hS0
          clear hP0 hD0 hS0
          refine lv_iconst (v := 0) hx hb dX12_run_187 (by decide +kernel) ?_
          rw [← hQ]
          have hP9 := hP.sub (ws' := [(cc_O m0 12 [m_0, m_1, m_2, .ref w0, m_4, m_5, .ref u0, .ref s0, .int (u_356.2.2.2.1 0), m_9, m_10, m_11, m_12, m_13, m_14, m_15, m_16, m_17, m_18, m_19, .int 0, m_21, m_22, m_23, .ref xo, .ref xa, m_26, m_27, m_28, m_29, m_30, m_31, m_32, m_33, .int (u_356.2.2.2.1 1), .ref e0, .ref nw, .ref q0, .int (u_356.2.2.2.1 2), .long (u_356.2.2.2.2.1 0), .long (u_356.2.2.2.2.1 1), .ref b0, m_42, m_43, m_44, m_45, m_46, m_47, m_48, m_49, m_50, .ref od, .int x_368, .int me, m_54, .int (u_349.2.2.2.1 1), m_56, m_57, m_58, m_59]), (cc_l w0 (K 0) 5500 (u_356.2.1 0)), (cc_rl e0 (K 2) 13 (u_356.2.2.1 0)), (cc_rl q0 (K 2) 400 (u_356.2.2.1 1)), (cc_l u0 (K 0) 558 (u_356.2.1 1)), (cc_l s0 (K 0) 16 (u_356.2.1 2)), (cc_l b0 (K 0) 8 (u_356.2.1 3)), (cc_rl nw (K 2) 13 f_290), (cc_l xo (K 0) 400 fo), (cc_l xa (K 0) 400 fa), (cc_l od (K 0) 96 fod)]) [4, 5, 6, 7, 8, 9, 10, 0, 1, 2, 3] rfl
          have hD9 := sub_D hP9 hD [4, 5, 6, 7, 8, 9, 10, 0, 1, 2, 3] (by decide +kernel) rfl
          exact W.iret (v := 0) hx hb hr (fun t ht hW => ⟨⟨0, ((fun _ => 0, fun i => match i with | 0 => (u_356.2.1 0) | 1 => (u_356.2.1 1) | 2 => (u_356.2.1 2) | _ => (u_356.2.1 3), fun i => match i with | 0 => (u_356.2.2.1 0) | 1 => (u_356.2.2.1 1) | _ => f_290, fun i => match i with | 0 => (u_356.2.2.2.1 0) | 1 => (u_356.2.2.2.1 1) | 2 => (u_356.2.2.2.1 2) | 3 => x_368 | 4 => me | _ => (u_349.2.2.2.1 1), fun i => match i with | 0 => (u_356.2.2.2.2.1 0) | _ => (u_356.2.2.2.2.1 1), fun _ => fun _ => none) : Su), rfl, ⟨(show (-3) ≤ (0 : Int32).toInt ∧ (0 : Int32).toInt ≤ 0 by decide), (show 0 ≤ ((u_356.2.2.2.1 0) : Int32).toInt ∧ ((u_356.2.2.2.1 0) : Int32).toInt ≤ 16 by omega), (show 0 ≤ ((u_356.2.2.2.1 2) : Int32).toInt ∧ ((u_356.2.2.2.1 2) : Int32).toInt ≤ 1 by omega), (show 0 ≤ (x_368 : Int32).toInt ∧ (x_368 : Int32).toInt ≤ 100001 by rw [hx_368]; omega), (show 0 ≤ ((u_349.2.2.2.1 1) : Int32).toInt ∧ ((u_349.2.2.2.1 1) : Int32).toInt ≤ 1 by omega), k_359, k_360, k_361, k_362, hE.symm, (show dn.toInt ≤ (x_368 : Int32).toInt ∧ (x_368 : Int32).toInt ≤ dn.toInt + 1 by omega), trivial⟩, (⟨by rw [ht]; exact hP9, hD9⟩ : Wd D A _ t)⟩, hS.F ht⟩) hS.2.2 dX12_run_188
        · have c_367i := i_eq (x := x_366.toInt) (y := 3) rfl rfl c_367
          replace hE := hE.trans (if_pos c_367)
          refine lv_iload hx hb dX12_run_165 (lv_at hl 0 rfl) (lv_goto (tgt := 174) hx hb dX12_run_167 (by decide +kernel) (va_put (ci := 12) (v := .int r_355) (ty := .int) (C := RX12) (T := TX12) (N := 60) hx hb hts hw12 tyX12 tyX12_ok nmX12 hown hK hP hD hS 4 rfl rfl 53 (by decide +kernel) (hts _ mm_X12_run_883) (fun _ h9 => h9) rfl (by decide +kernel) (by first | rfl | decide) (by first | rfl | decide) (Nat.le_of_ble_eq_true rfl) dX12_run_174 (fun H locs hP0 hD0 hS0 => ?_)))
          replace hP : va_P D vwCl [(cc_rl nw (K 2) 13 f_290), (cc_l xo (K 0) 400 fo), (cc_l xa (K 0) 400 fa), (cc_l od (K 0) 96 fod), (cc_O m0 12 [m_0, m_1, m_2, .ref w0, m_4, m_5, .ref u0, .ref s0, .int (u_356.2.2.2.1 0), m_9, m_10, m_11, m_12, m_13, m_14, m_15, m_16, m_17, m_18, m_19, .int 0, m_21, m_22, m_23, .ref xo, .ref xa, m_26, m_27, m_28, m_29, m_30, m_31, m_32, m_33, .int (u_356.2.2.2.1 1), .ref e0, .ref nw, .ref q0, .int (u_356.2.2.2.1 2), .long (u_356.2.2.2.2.1 0), .long (u_356.2.2.2.2.1 1), .ref b0, m_42, m_43, m_44, m_45, m_46, m_47, m_48, m_49, m_50, .ref od, .int dn, .int r_355, m_54, .int (u_349.2.2.2.1 1), m_56, m_57, m_58, m_59]), (cc_l w0 (K 0) 5500 (u_356.2.1 0)), (cc_rl e0 (K 2) 13 (u_356.2.2.1 0)), (cc_rl q0 (K 2) 400 (u_356.2.2.1 1)), (cc_l u0 (K 0) 558 (u_356.2.1 1)), (cc_l s0 (K 0) 16 (u_356.2.1 2)), (cc_l b0 (K 0) 8 (u_356.2.1 3))] H := hP0
          replace hD := as_D hP hD0 rfl
          replace hS := hS0
          clear hP0 hD0 hS0
          refine lv_aload_n hx hb dX12_run_177 rfl (lv_at hl 3 rfl) (lv_dup hx hb dX12_run_178 rfl (va_get (ci := 12) (v := .int dn) (C := RX12) (T := TX12) (N := 60) hx hb hts hw12 hown hK hP 4 rfl rfl 52 (by decide +kernel) (hts _ mm_X12_run_882) (fun _ h9 => h9) rfl dX12_run_179 (lv_iconst (v := 1) hx hb dX12_run_182 (by decide +kernel) (lv_iadd hx hb dX12_run_183 (lv_topi (fun x_369 ex_369 => ?_))))))
          replace hE := hE.trans (Lt_in ex_369)
          have hx_369 : x_369.toInt = (dn.toInt + 1) := by rw [ex_369]; exact i_add rfl (show (1 : Int32).toInt = 1 from rfl) (by omega)
          refine va_put (ci := 12) (v := .int x_369) (ty := .int) (C := RX12) (T := TX12) (N := 60) hx hb hts hw12 tyX12 tyX12_ok nmX12 hown hK hP hD hS 4 rfl rfl 52 (by decide +kernel) (hts _ mm_X12_run_882) (fun _ h9 => h9) rfl (by decide +kernel) (by first | rfl | decide) (by first | rfl | decide) (Nat.le_of_ble_eq_true rfl) dX12_run_184 (fun H locs hP0 hD0 hS0 => ?_)
          replace hP : va_P D vwCl [(cc_rl nw (K 2) 13 f_290), (cc_l xo (K 0) 400 fo), (cc_l xa (K 0) 400 fa), (cc_l od (K 0) 96 fod), (cc_O m0 12 [m_0, m_1, m_2, .ref w0, m_4, m_5, .ref u0, .ref s0, .int (u_356.2.2.2.1 0), m_9, m_10, m_11, m_12, m_13, m_14, m_15, m_16, m_17, m_18, m_19, .int 0, m_21, m_22, m_23, .ref xo, .ref xa, m_26, m_27, m_28, m_29, m_30, m_31, m_32, m_33, .int (u_356.2.2.2.1 1), .ref e0, .ref nw, .ref q0, .int (u_356.2.2.2.1 2), .long (u_356.2.2.2.2.1 0), .long (u_356.2.2.2.2.1 1), .ref b0, m_42, m_43, m_44, m_45, m_46, m_47, m_48, m_49, m_50, .ref od, .int x_369, .int r_355, m_54, .int (u_349.2.2.2.1 1), m_56, m_57, m_58, m_59]), (cc_l w0 (K 0) 5500 (u_356.2.1 0)), (cc_rl e0 (K 2) 13 (u_356.2.2.1 0)), (cc_rl q0 (K 2) 400 (u_356.2.2.1 1)), (cc_l u0 (K 0) 558 (u_356.2.1 1)), (cc_l s0 (K 0) 16 (u_356.2.1 2)), (cc_l b0 (K 0) 8 (u_356.2.1 3))] H := hP0
          replace hD := as_D hP hD0 rfl
          replace hS := hS0
          clear hP0 hD0 hS0
          refine lv_iconst (v := 0) hx hb dX12_run_187 (by decide +kernel) ?_
          rw [← hQ]
          have hP9 := hP.sub (ws' := [(cc_O m0 12 [m_0, m_1, m_2, .ref w0, m_4, m_5, .ref u0, .ref s0, .int (u_356.2.2.2.1 0), m_9, m_10, m_11, m_12, m_13, m_14, m_15, m_16, m_17, m_18, m_19, .int 0, m_21, m_22, m_23, .ref xo, .ref xa, m_26, m_27, m_28, m_29, m_30, m_31, m_32, m_33, .int (u_356.2.2.2.1 1), .ref e0, .ref nw, .ref q0, .int (u_356.2.2.2.1 2), .long (u_356.2.2.2.2.1 0), .long (u_356.2.2.2.2.1 1), .ref b0, m_42, m_43, m_44, m_45, m_46, m_47, m_48, m_49, m_50, .ref od, .int x_369, .int r_355, m_54, .int (u_349.2.2.2.1 1), m_56, m_57, m_58, m_59]), (cc_l w0 (K 0) 5500 (u_356.2.1 0)), (cc_rl e0 (K 2) 13 (u_356.2.2.1 0)), (cc_rl q0 (K 2) 400 (u_356.2.2.1 1)), (cc_l u0 (K 0) 558 (u_356.2.1 1)), (cc_l s0 (K 0) 16 (u_356.2.1 2)), (cc_l b0 (K 0) 8 (u_356.2.1 3)), (cc_rl nw (K 2) 13 f_290), (cc_l xo (K 0) 400 fo), (cc_l xa (K 0) 400 fa), (cc_l od (K 0) 96 fod)]) [4, 5, 6, 7, 8, 9, 10, 0, 1, 2, 3] rfl
          have hD9 := sub_D hP9 hD [4, 5, 6, 7, 8, 9, 10, 0, 1, 2, 3] (by decide +kernel) rfl
          exact W.iret (v := 0) hx hb hr (fun t ht hW => ⟨⟨0, ((fun _ => 0, fun i => match i with | 0 => (u_356.2.1 0) | 1 => (u_356.2.1 1) | 2 => (u_356.2.1 2) | _ => (u_356.2.1 3), fun i => match i with | 0 => (u_356.2.2.1 0) | 1 => (u_356.2.2.1 1) | _ => f_290, fun i => match i with | 0 => (u_356.2.2.2.1 0) | 1 => (u_356.2.2.2.1 1) | 2 => (u_356.2.2.2.1 2) | 3 => x_369 | 4 => r_355 | _ => (u_349.2.2.2.1 1), fun i => match i with | 0 => (u_356.2.2.2.2.1 0) | _ => (u_356.2.2.2.2.1 1), fun _ => fun _ => none) : Su), rfl, ⟨(show (-3) ≤ (0 : Int32).toInt ∧ (0 : Int32).toInt ≤ 0 by decide), (show 0 ≤ ((u_356.2.2.2.1 0) : Int32).toInt ∧ ((u_356.2.2.2.1 0) : Int32).toInt ≤ 16 by omega), (show 0 ≤ ((u_356.2.2.2.1 2) : Int32).toInt ∧ ((u_356.2.2.2.1 2) : Int32).toInt ≤ 1 by omega), (show 0 ≤ (x_369 : Int32).toInt ∧ (x_369 : Int32).toInt ≤ 100001 by rw [hx_369]; omega), (show 0 ≤ ((u_349.2.2.2.1 1) : Int32).toInt ∧ ((u_349.2.2.2.1 1) : Int32).toInt ≤ 1 by omega), k_359, k_360, k_361, k_362, hE.symm, (show dn.toInt ≤ (x_369 : Int32).toInt ∧ (x_369 : Int32).toInt ≤ dn.toInt + 1 by omega), trivial⟩, (⟨by rw [ht]; exact hP9, hD9⟩ : Wd D A _ t)⟩, hS.F ht⟩) hS.2.2 dX12_run_188
      · have c_365i := i_nle (x := 0) (y := r_355.toInt) rfl rfl c_365
        replace hE := hE.trans (if_neg c_365)
        refine lv_bipush (v := (-3)) hx hb dX12_run_151 (by decide +kernel) ?_
        rw [← hQ]
        have hP9 := hP.sub (ws' := [(cc_O m0 12 [m_0, m_1, m_2, .ref w0, m_4, m_5, .ref u0, .ref s0, .int (u_356.2.2.2.1 0), m_9, m_10, m_11, m_12, m_13, m_14, m_15, m_16, m_17, m_18, m_19, .int 0, m_21, m_22, m_23, .ref xo, .ref xa, m_26, m_27, m_28, m_29, m_30, m_31, m_32, m_33, .int (u_356.2.2.2.1 1), .ref e0, .ref nw, .ref q0, .int (u_356.2.2.2.1 2), .long (u_356.2.2.2.2.1 0), .long (u_356.2.2.2.2.1 1), .ref b0, m_42, m_43, m_44, m_45, m_46, m_47, m_48, m_49, m_50, .ref od, .int dn, .int me, m_54, .int (u_349.2.2.2.1 1), m_56, m_57, m_58, m_59]), (cc_l w0 (K 0) 5500 (u_356.2.1 0)), (cc_rl e0 (K 2) 13 (u_356.2.2.1 0)), (cc_rl q0 (K 2) 400 (u_356.2.2.1 1)), (cc_l u0 (K 0) 558 (u_356.2.1 1)), (cc_l s0 (K 0) 16 (u_356.2.1 2)), (cc_l b0 (K 0) 8 (u_356.2.1 3)), (cc_rl nw (K 2) 13 f_290), (cc_l xo (K 0) 400 fo), (cc_l xa (K 0) 400 fa), (cc_l od (K 0) 96 fod)]) [4, 5, 6, 7, 8, 9, 10, 0, 1, 2, 3] rfl
        have hD9 := sub_D hP9 hD [4, 5, 6, 7, 8, 9, 10, 0, 1, 2, 3] (by decide +kernel) rfl
        exact W.iret (v := (-3)) hx hb hr (fun t ht hW => ⟨⟨(-3), ((fun _ => 0, fun i => match i with | 0 => (u_356.2.1 0) | 1 => (u_356.2.1 1) | 2 => (u_356.2.1 2) | _ => (u_356.2.1 3), fun i => match i with | 0 => (u_356.2.2.1 0) | 1 => (u_356.2.2.1 1) | _ => f_290, fun i => match i with | 0 => (u_356.2.2.2.1 0) | 1 => (u_356.2.2.2.1 1) | 2 => (u_356.2.2.2.1 2) | 3 => dn | 4 => me | _ => (u_349.2.2.2.1 1), fun i => match i with | 0 => (u_356.2.2.2.2.1 0) | _ => (u_356.2.2.2.2.1 1), fun _ => fun _ => none) : Su), rfl, ⟨(show (-3) ≤ ((-3) : Int32).toInt ∧ ((-3) : Int32).toInt ≤ 0 by decide), (show 0 ≤ ((u_356.2.2.2.1 0) : Int32).toInt ∧ ((u_356.2.2.2.1 0) : Int32).toInt ≤ 16 by omega), (show 0 ≤ ((u_356.2.2.2.1 2) : Int32).toInt ∧ ((u_356.2.2.2.1 2) : Int32).toInt ≤ 1 by omega), (show 0 ≤ (dn : Int32).toInt ∧ (dn : Int32).toInt ≤ 100001 by omega), (show 0 ≤ ((u_349.2.2.2.1 1) : Int32).toInt ∧ ((u_349.2.2.2.1 1) : Int32).toInt ≤ 1 by omega), k_359, k_360, k_361, k_362, hE.symm, (show dn.toInt ≤ (dn : Int32).toInt ∧ (dn : Int32).toInt ≤ dn.toInt + 1 by omega), trivial⟩, (⟨by rw [ht]; exact hP9, hD9⟩ : Wd D A _ t)⟩, hS.F ht⟩) hS.2.2 dX12_run_153
    · have c_353i := i_ne (x := (u_349.2.2.2.1 1).toInt) (y := 0) rfl rfl c_353
      replace hE := hE.trans (if_neg c_353)
      refine lv_bipush (v := (-3)) hx hb dX12_run_129 (by decide +kernel) ?_
      rw [← hQ]
      have hP9 := hP.sub (ws' := [(cc_O m0 12 [m_0, m_1, m_2, .ref w0, m_4, m_5, .ref u0, .ref s0, .int nu, m_9, m_10, m_11, m_12, m_13, m_14, m_15, m_16, m_17, m_18, m_19, .int 0, m_21, m_22, m_23, .ref xo, .ref xa, m_26, m_27, m_28, m_29, m_30, m_31, m_32, m_33, .int lw, .ref e0, .ref nw, .ref q0, .int (u_349.2.2.2.1 0), .long (u_349.2.2.2.2.1 0), .long sm, .ref b0, m_42, m_43, m_44, m_45, m_46, m_47, m_48, m_49, m_50, .ref od, .int dn, .int me, m_54, .int (u_349.2.2.2.1 1), m_56, m_57, m_58, m_59]), (cc_l w0 (K 0) 5500 fw), (cc_rl e0 (K 2) 13 fe), (cc_rl q0 (K 2) 400 (u_349.2.2.1 0)), (cc_l u0 (K 0) 558 fu), (cc_l s0 (K 0) 16 fs), (cc_l b0 (K 0) 8 fb), (cc_rl nw (K 2) 13 f_290), (cc_l xo (K 0) 400 fo), (cc_l xa (K 0) 400 fa), (cc_l od (K 0) 96 fod)]) [4, 5, 0, 7, 1, 2, 3, 6, 8, 9, 10] rfl
      have hD9 := sub_D hP9 hD [4, 5, 0, 7, 1, 2, 3, 6, 8, 9, 10] (by decide +kernel) rfl
      exact W.iret (v := (-3)) hx hb hr (fun t ht hW => ⟨⟨(-3), ((fun _ => 0, fun i => match i with | 0 => fw | 1 => fu | 2 => fs | _ => fb, fun i => match i with | 0 => fe | 1 => (u_349.2.2.1 0) | _ => f_290, fun i => match i with | 0 => nu | 1 => lw | 2 => (u_349.2.2.2.1 0) | 3 => dn | 4 => me | _ => (u_349.2.2.2.1 1), fun i => match i with | 0 => (u_349.2.2.2.2.1 0) | _ => sm, fun _ => fun _ => none) : Su), rfl, ⟨(show (-3) ≤ ((-3) : Int32).toInt ∧ ((-3) : Int32).toInt ≤ 0 by decide), (show 0 ≤ (nu : Int32).toInt ∧ (nu : Int32).toInt ≤ 16 by omega), (show 0 ≤ ((u_349.2.2.2.1 0) : Int32).toInt ∧ ((u_349.2.2.2.1 0) : Int32).toInt ≤ 1 by omega), (show 0 ≤ (dn : Int32).toInt ∧ (dn : Int32).toInt ≤ 100001 by omega), (show 0 ≤ ((u_349.2.2.2.1 1) : Int32).toInt ∧ ((u_349.2.2.2.1 1) : Int32).toInt ≤ 1 by omega), zfw, zgr, zfu, zfs, hE.symm, (show dn.toInt ≤ (dn : Int32).toInt ∧ (dn : Int32).toInt ≤ dn.toInt + 1 by omega), trivial⟩, (⟨by rw [ht]; exact hP9, hD9⟩ : Wd D A _ t)⟩, hS.F ht⟩) hS.2.2 dX12_run_131
  refine lv_icmp_ge (tgt := 106) hx hb dX12_run_82 (by decide +kernel) (fun c_370 => ?_) (fun c_370 => ?_)
  · have c_370i := i_le (x := x_294.toInt) (y := x_292.toInt) rfl rfl c_370
    replace hE := hE.trans (if_pos c_370)
    exact j_340 bro val 0 frs (by omega) (by decide +kernel) hE _ _ hP hD hS ls (lv_sub hl [0, 1] rfl)
  · have c_370i := i_nle (x := x_294.toInt) (y := x_292.toInt) rfl rfl c_370
    replace hE := hE.trans (if_neg c_370)
    refine lv_aload_n hx hb dX12_run_85 rfl (lv_at hl 0 rfl) (lv_iload_n hx hb dX12_run_86 rfl (lv_at hl 1 rfl) (lv_iconst (v := 5) hx hb dX12_run_87 (by decide +kernel) (lv_iadd hx hb dX12_run_88 (lv_topi (fun x_371 ex_371 => ?_)))))
    replace hE := hE.trans (Lt_in ex_371)
    have hx_371 : x_371.toInt = (x.toInt + 5) := by rw [ex_371]; exact i_add rfl (show (5 : Int32).toInt = 5 from rfl) (by omega)
    refine kci (S := Su) (wr := [(cc_rl e0 (K 2) 13 fe), (cc_l u0 (K 0) 558 fu), (cc_l s0 (K 0) 16 fs), (cc_l b0 (K 0) 8 fb)]) (va_runV (As := [.int x_371]) (rest := []) ⟨hx, hb, hml, hown, hts⟩ (v_sumOf l D K m0 x_371 m_0 m_1 m_2 w0 m_4 m_5 (.ref u0) (.ref s0) (.int nu) m_9 m_10 m_11 m_12 m_13 m_14 m_15 m_16 m_17 m_18 m_19 m_21 m_22 m_23 xo xa m_26 m_27 m_28 m_29 m_30 m_31 m_32 m_33 (.int lw) (.ref e0) nw q0 bro val (.long sm) (.ref b0) m_42 m_43 m_44 m_45 m_46 m_47 m_48 m_49 m_50 od (.int dn) (.int me) m_54 0 m_56 m_57 m_58 m_59 fw gr f_290 frs fo fa fod H.size (by first | omega | decide) (by first | omega | decide) (by first | omega | decide) (by rw [hx_371]; have q := (hor c_ hc_).1.2.2.1; rw [show 8 * c_ + 5 = ((x.toInt + 5)).toNat by omega, show 8 * c_ + 6 = ((x.toInt + 5) + 1).toNat by omega] at q; exact q) zfw zgr) (cwV 1 hts gX12_run_X12_sumOf rfl rfl rfl (by decide +kernel) ⟨Nat.le_of_ble_eq_true rfl, Nat.le_of_ble_eq_true rfl⟩) (mkV hK hN (hP.sub [0, 1, 7, 3, 8, 9, 10] rfl) (hD.sub [0, 1, 7, 3, 8, 9, 10] (by decide +kernel) rfl) (ci := 12) (q0 := 0) rfl rfl) rfl rfl hl.1 rfl (lv_room (Nat.le_of_ble_eq_true rfl)) dX12_run_89 ⟨Nat.le_of_ble_eq_true rfl, Nat.le_of_ble_eq_true rfl⟩) hP hD hS hA [0, 1, 7, 3, 8, 9, 10] [2, 4, 5, 6] rfl rfl (by decide +kernel) (by decide +kernel) (fun r_372 u_373 H locs hw hP0 hD0 hS0 => ?_)
    replace hP : va_P D vwCl [(cc_rl e0 (K 2) 13 fe), (cc_l u0 (K 0) 558 fu), (cc_l s0 (K 0) 16 fs), (cc_l b0 (K 0) 8 fb), (cc_O m0 12 [m_0, m_1, m_2, .ref w0, m_4, m_5, .ref u0, .ref s0, .int nu, m_9, m_10, m_11, m_12, m_13, m_14, m_15, m_16, m_17, m_18, m_19, .int 0, m_21, m_22, m_23, .ref xo, .ref xa, m_26, m_27, m_28, m_29, m_30, m_31, m_32, m_33, .int lw, .ref e0, .ref nw, .ref q0, .int (u_373.2.2.2.1 0), .long (u_373.2.2.2.2.1 0), .long sm, .ref b0, m_42, m_43, m_44, m_45, m_46, m_47, m_48, m_49, m_50, .ref od, .int dn, .int me, m_54, .int (u_373.2.2.2.1 1), m_56, m_57, m_58, m_59]), (cc_l w0 (K 0) 5500 fw), (cc_rl nw (K 2) 13 f_290), (cc_rl q0 (K 2) 400 (u_373.2.2.1 0)), (cc_l xo (K 0) 400 fo), (cc_l xa (K 0) 400 fa), (cc_l od (K 0) 96 fod)] H := hP0
    replace hD := as_D hP hD0 rfl
    replace hS := hS0
    clear hP0 hD0 hS0
    obtain ⟨k_374, k_375, k_376, -⟩ := hw
    replace hE := (((hE.trans (Lt2_in k_376)).trans (Lt2_in rfl)).trans (Lt2_in rfl)).trans (Lt2_in rfl)
    refine lv_istore_n (lv' := [(2, .int r_372), (0, .ref m0), (1, .int x)]) hx hb dX12_run_92 rfl hl (by decide +kernel) rfl (fun ls hl => ?_)
    refine lv_aload_n hx hb dX12_run_93 rfl (lv_at hl 1 rfl) (va_get (ci := 12) (v := .int (u_373.2.2.2.1 1)) (C := RX12) (T := TX12) (N := 60) hx hb hts hw12 hown hK hP 4 rfl rfl 55 (by decide +kernel) (hts _ mm_X12_run_885) (fun _ h9 => h9) rfl dX12_run_94 ?_)
    have j_379 : ∀ (hE : E_v_run x nu lw bro val sm dn me ofm fw fe frs fu fs fb fnw fo fa fod = E_v_run_j104 nu lw sm dn me fw fe fu fs fb f_290 (u_373.2.2.2.1 0) (u_373.2.2.2.2.1 0) (u_373.2.2.2.1 1) (u_373.2.2.1 0)) (H : Heap) (locs : List Loc) (hP : va_P D vwCl [(cc_rl e0 (K 2) 13 fe), (cc_l u0 (K 0) 558 fu), (cc_l s0 (K 0) 16 fs), (cc_l b0 (K 0) 8 fb), (cc_O m0 12 [m_0, m_1, m_2, .ref w0, m_4, m_5, .ref u0, .ref s0, .int nu, m_9, m_10, m_11, m_12, m_13, m_14, m_15, m_16, m_17, m_18, m_19, .int 0, m_21, m_22, m_23, .ref xo, .ref xa, m_26, m_27, m_28, m_29, m_30, m_31, m_32, m_33, .int lw, .ref e0, .ref nw, .ref q0, .int (u_373.2.2.2.1 0), .long (u_373.2.2.2.2.1 0), .long sm, .ref b0, m_42, m_43, m_44, m_45, m_46, m_47, m_48, m_49, m_50, .ref od, .int dn, .int me, m_54, .int (u_373.2.2.2.1 1), m_56, m_57, m_58, m_59]), (cc_l w0 (K 0) 5500 fw), (cc_rl nw (K 2) 13 f_290), (cc_rl q0 (K 2) 400 (u_373.2.2.1 0)), (cc_l xo (K 0) 400 fo), (cc_l xa (K 0) 400 fa), (cc_l od (K 0) 96 fod)] H) (hD : va_D A [(cc_rl e0 (K 2) 13 fe), (cc_l u0 (K 0) 558 fu), (cc_l s0 (K 0) 16 fs), (cc_l b0 (K 0) 8 fb), (cc_O m0 12 [m_0, m_1, m_2, .ref w0, m_4, m_5, .ref u0, .ref s0, .int nu, m_9, m_10, m_11, m_12, m_13, m_14, m_15, m_16, m_17, m_18, m_19, .int 0, m_21, m_22, m_23, .ref xo, .ref xa, m_26, m_27, m_28, m_29, m_30, m_31, m_32, m_33, .int lw, .ref e0, .ref nw, .ref q0, .int (u_373.2.2.2.1 0), .long (u_373.2.2.2.2.1 0), .long sm, .ref b0, m_42, m_43, m_44, m_45, m_46, m_47, m_48, m_49, m_50, .ref od, .int dn, .int me, m_54, .int (u_373.2.2.2.1 1), m_56, m_57, m_58, m_59]), (cc_l w0 (K 0) 5500 fw), (cc_rl nw (K 2) 13 f_290), (cc_rl q0 (K 2) 400 (u_373.2.2.1 0)), (cc_l xo (K 0) 400 fo), (cc_l xa (K 0) 400 fa), (cc_l od (K 0) 96 fod)]) (hS : va_S A s.heap H locs) (ls : Array Slot) (hl : lv_has ls 5 []), W p l e ({ frames := 9, cells := 0, slots := 0, locals := 211 }) s m (([.ref m0, .int x] : List Value).toArray) below meth c H locs 0 0 Q (F0 m 104 ls []) := by
      clear hE hP hD hS hl
      intro hE H locs hP hD hS ls hl
      replace hE := hE.trans (E_v_run_j104.eq_def _ _ _ _ _ _ _ _ _ _ _ _ _ _ _)
      refine lv_iconst (v := 0) hx hb dX12_run_104 (by decide +kernel) ?_
      rw [← hQ]
      have hP9 := hP.sub (ws' := [(cc_O m0 12 [m_0, m_1, m_2, .ref w0, m_4, m_5, .ref u0, .ref s0, .int nu, m_9, m_10, m_11, m_12, m_13, m_14, m_15, m_16, m_17, m_18, m_19, .int 0, m_21, m_22, m_23, .ref xo, .ref xa, m_26, m_27, m_28, m_29, m_30, m_31, m_32, m_33, .int lw, .ref e0, .ref nw, .ref q0, .int (u_373.2.2.2.1 0), .long (u_373.2.2.2.2.1 0), .long sm, .ref b0, m_42, m_43, m_44, m_45, m_46, m_47, m_48, m_49, m_50, .ref od, .int dn, .int me, m_54, .int (u_373.2.2.2.1 1), m_56, m_57, m_58, m_59]), (cc_l w0 (K 0) 5500 fw), (cc_rl e0 (K 2) 13 fe), (cc_rl q0 (K 2) 400 (u_373.2.2.1 0)), (cc_l u0 (K 0) 558 fu), (cc_l s0 (K 0) 16 fs), (cc_l b0 (K 0) 8 fb), (cc_rl nw (K 2) 13 f_290), (cc_l xo (K 0) 400 fo), (cc_l xa (K 0) 400 fa), (cc_l od (K 0) 96 fod)]) [4, 5, 0, 7, 1, 2, 3, 6, 8, 9, 10] rfl
      have hD9 := sub_D hP9 hD [4, 5, 0, 7, 1, 2, 3, 6, 8, 9, 10] (by decide +kernel) rfl
      exact W.iret (v := 0) hx hb hr (fun t ht hW => ⟨⟨0, ((fun _ => 0, fun i => match i with | 0 => fw | 1 => fu | 2 => fs | _ => fb, fun i => match i with | 0 => fe | 1 => (u_373.2.2.1 0) | _ => f_290, fun i => match i with | 0 => nu | 1 => lw | 2 => (u_373.2.2.2.1 0) | 3 => dn | 4 => me | _ => (u_373.2.2.2.1 1), fun i => match i with | 0 => (u_373.2.2.2.2.1 0) | _ => sm, fun _ => fun _ => none) : Su), rfl, ⟨(show (-3) ≤ (0 : Int32).toInt ∧ (0 : Int32).toInt ≤ 0 by decide), (show 0 ≤ (nu : Int32).toInt ∧ (nu : Int32).toInt ≤ 16 by omega), (show 0 ≤ ((u_373.2.2.2.1 0) : Int32).toInt ∧ ((u_373.2.2.2.1 0) : Int32).toInt ≤ 1 by omega), (show 0 ≤ (dn : Int32).toInt ∧ (dn : Int32).toInt ≤ 100001 by omega), (show 0 ≤ ((u_373.2.2.2.1 1) : Int32).toInt ∧ ((u_373.2.2.2.1 1) : Int32).toInt ≤ 1 by omega), zfw, zgr, zfu, zfs, hE.symm, (show dn.toInt ≤ (dn : Int32).toInt ∧ (dn : Int32).toInt ≤ dn.toInt + 1 by omega), trivial⟩, (⟨by rw [ht]; exact hP9, hD9⟩ : Wd D A _ t)⟩, hS.F ht⟩) hS.2.2 dX12_run_105
    refine lv_if_ne (tgt := 104) hx hb dX12_run_97 (by decide +kernel) (fun c_380 => ?_) (fun c_380 => ?_)
    · have c_380i := i_ne (x := (u_373.2.2.2.1 1).toInt) (y := 0) rfl rfl c_380
      replace hE := hE.trans (if_neg c_380)
      exact j_379   hE _ _ hP hD hS ls (lv_sub hl [] rfl)
    · have c_380i := i_eq (x := (u_373.2.2.2.1 1).toInt) (y := 0) rfl rfl c_380
      replace hE := hE.trans (if_pos c_380)
      refine lv_iload_n hx hb dX12_run_100 rfl (lv_at hl 0 rfl) (lv_if_ne (tgt := 106) hx hb dX12_run_101 (by decide +kernel) (fun c_381 => ?_) (fun c_381 => ?_))
      · have c_381i := i_ne (x := r_372.toInt) (y := 0) rfl rfl c_381
        replace hE := hE.trans (if_neg c_381)
        exact j_340 (u_373.2.2.2.1 0) (u_373.2.2.2.2.1 0) (u_373.2.2.2.1 1) (u_373.2.2.1 0) (by omega) (by omega) hE _ _ (hP.sub [4, 5, 0, 7, 1, 2, 3, 6, 8, 9, 10] rfl) (hD.sub [4, 5, 0, 7, 1, 2, 3, 6, 8, 9, 10] (by decide +kernel) rfl) hS ls (lv_sub hl [1, 2] rfl)
      · have c_381i := i_eq (x := r_372.toInt) (y := 0) rfl rfl c_381
        replace hE := hE.trans (if_pos c_381)
        exact j_379   hE _ _ hP hD hS ls (lv_sub hl [] rfl)
set_option maxRecDepth 100000 in
noncomputable def E_v_giveBack_l35 (fsb : Nat → Int32) (u_228_2_1_0 : Nat → Int32) (f_254 : Nat → Int32) (rec_301 : Int32 → (Nat → Int32) → ((Nat → Int32) × (Nat → Int32) × (Nat → Int32))) (v_289 : Int32) (f_290 : Nat → Int32) : (Nat → Int32) × (Nat → Int32) × (Nat → Int32) :=
  if 16 ≤ v_289 then (((u_228_2_1_0, f_254, f_290) : (Nat → Int32) × (Nat → Int32) × (Nat → Int32))) else (Lt (fsb (v_289 : Int32).toNatClampNeg : Int32) (fun x_304 => Lt (upd f_290 (v_289 : Int32).toNatClampNeg x_304 : Nat → Int32) (fun f_305 => Lt (v_289 + Int32.ofInt 1 : Int32) (fun x_306 => rec_301 x_306 f_305))))
set_option maxRecDepth 100000 in
noncomputable def E_v_giveBack_l8 (fs : Nat → Int32) (fub : Nat → Int32) (fsb : Nat → Int32) (u_228_2_1_0 : Nat → Int32) (rec_265 : Int32 → (Nat → Int32) → ((Nat → Int32) × (Nat → Int32) × (Nat → Int32))) (v_253 : Int32) (f_254 : Nat → Int32) : (Nat → Int32) × (Nat → Int32) × (Nat → Int32) :=
  if 496 ≤ v_253 then (Lp (α := Int32 → (Nat → Int32) → ((Nat → Int32) × (Nat → Int32) × (Nat → Int32))) (E_v_giveBack_l35 fsb u_228_2_1_0 f_254) (fun _ _ => ((fun _ => 0, fun _ => 0, fun _ => 0) : (Nat → Int32) × (Nat → Int32) × (Nat → Int32))) ((17 - (0 : Int32).toInt : Int).toNat + 1) 0 fs) else (Lt (fub (v_253 : Int32).toNatClampNeg : Int32) (fun x_307 => Lt (upd f_254 (v_253 : Int32).toNatClampNeg x_307 : Nat → Int32) (fun f_308 => Lt (v_253 + Int32.ofInt 1 : Int32) (fun x_309 => rec_265 x_309 f_308))))
set_option maxRecDepth 100000 in
noncomputable def E_v_giveBack (x : Int32) (nu : Int32) (fw : Nat → Int32) (fu : Nat → Int32) (fs : Nat → Int32) (fub : Nat → Int32) (fsb : Nat → Int32) : (Nat → Int32) × (Nat → Int32) × (Nat → Int32) :=
  Lt (E_v_putBack 17 fw fu) (fun u_228_2_1_0 => Lp (α := Int32 → (Nat → Int32) → ((Nat → Int32) × (Nat → Int32) × (Nat → Int32))) (E_v_giveBack_l8 fs fub fsb u_228_2_1_0) (fun _ _ => ((fun _ => 0, fun _ => 0, fun _ => 0) : (Nat → Int32) × (Nat → Int32) × (Nat → Int32))) ((497 - (0 : Int32).toInt : Int).toNat + 1) 0 fu)
set_option maxHeartbeats 4000000 in
set_option maxRecDepth 100000 in
theorem v_giveBack (l : Launch) (D : va_G) (K : Nat → ClassId) (m0 : Nat) (x : Int32) (m_0 : Value) (m_1 : Value) (m_2 : Value) (w0 : Nat) (m_4 : Value) (m_5 : Value) (u0 : Nat) (s0 : Nat) (nu : Int32) (ub : Nat) (sb : Nat) (m_11 : Value) (m_12 : Value) (m_13 : Value) (m_14 : Value) (m_15 : Value) (m_16 : Value) (m_17 : Value) (m_18 : Value) (m_19 : Value) (m_20 : Value) (m_21 : Value) (m_22 : Value) (m_23 : Value) (m_24 : Value) (m_25 : Value) (m_26 : Value) (m_27 : Value) (m_28 : Value) (m_29 : Value) (m_30 : Value) (m_31 : Value) (m_32 : Value) (m_33 : Value) (m_34 : Value) (m_35 : Value) (m_36 : Value) (m_37 : Value) (m_38 : Value) (m_39 : Value) (m_40 : Value) (m_41 : Value) (m_42 : Value) (m_43 : Value) (m_44 : Value) (m_45 : Value) (m_46 : Value) (m_47 : Value) (m_48 : Value) (m_49 : Value) (m_50 : Value) (m_51 : Value) (m_52 : Value) (m_53 : Value) (m_54 : Value) (m_55 : Value) (m_56 : Value) (m_57 : Value) (m_58 : Value) (m_59 : Value) (fw : Nat → Int32) (gr : Nat → Int32) (fu : Nat → Int32) (fs : Nat → Int32) (fub : Nat → Int32) (fsb : Nat → Int32) (sz : Nat) (znu : 0 ≤ nu.toInt ∧ nu.toInt ≤ 16) (zx : 0 ≤ x.toInt ∧ x.toInt ≤ 16) (zfw : RwOK fw) (zgr : FzM gr fw) (zfu : Pu 558 fu) (zfs : Rg 16 0 3 fs) (zfub : Pu 496 fub) (zfsb : Rg 16 0 3 fsb) : Met l yX12_giveBack wsX12_giveBack ({ frames := 1, cells := 0, slots := 0, locals := 22 }) (va_Pc [.ref m0, .int x] (Pre D K [(cc_O m0 12 [m_0, m_1, m_2, .ref w0, m_4, m_5, .ref u0, .ref s0, .int nu, .ref ub, .ref sb, m_11, m_12, m_13, m_14, m_15, m_16, m_17, m_18, m_19, m_20, m_21, m_22, m_23, m_24, m_25, m_26, m_27, m_28, m_29, m_30, m_31, m_32, m_33, m_34, m_35, m_36, m_37, m_38, m_39, m_40, m_41, m_42, m_43, m_44, m_45, m_46, m_47, m_48, m_49, m_50, m_51, m_52, m_53, m_54, m_55, m_56, m_57, m_58, m_59]), (cc_l w0 (K 0) 5500 fw), (cc_l u0 (K 0) 558 fu), (cc_l s0 (K 0) 16 fs), (cc_l ub (K 0) 496 fub), (cc_l sb (K 0) 16 fsb)] sz)) (va_Qv (S := Su) (fun (u : Su) => (RwOK (u.2.1 0)) ∧ (FzM gr (u.2.1 0)) ∧ (Pu 558 (u.2.1 1)) ∧ (Rg 16 0 3 (u.2.1 2)) ∧ (((u.2.1 0), (u.2.1 1), (u.2.1 2)) = E_v_giveBack x nu fw fu fs fub fsb) ∧ True) (fun u t => Wd D (va_A [(cc_O m0 12 [m_0, m_1, m_2, .ref w0, m_4, m_5, .ref u0, .ref s0, .int nu, .ref ub, .ref sb, m_11, m_12, m_13, m_14, m_15, m_16, m_17, m_18, m_19, m_20, m_21, m_22, m_23, m_24, m_25, m_26, m_27, m_28, m_29, m_30, m_31, m_32, m_33, m_34, m_35, m_36, m_37, m_38, m_39, m_40, m_41, m_42, m_43, m_44, m_45, m_46, m_47, m_48, m_49, m_50, m_51, m_52, m_53, m_54, m_55, m_56, m_57, m_58, m_59]), (cc_l w0 (K 0) 5500 fw), (cc_l u0 (K 0) 558 fu), (cc_l s0 (K 0) 16 fs), (cc_l ub (K 0) 496 fub), (cc_l sb (K 0) 16 fsb)] sz) ((fun u => [(cc_O m0 12 [m_0, m_1, m_2, .ref w0, m_4, m_5, .ref u0, .ref s0, .int x, .ref ub, .ref sb, m_11, m_12, m_13, m_14, m_15, m_16, m_17, m_18, m_19, m_20, m_21, m_22, m_23, m_24, m_25, m_26, m_27, m_28, m_29, m_30, m_31, m_32, m_33, m_34, m_35, m_36, m_37, m_38, m_39, m_40, m_41, m_42, m_43, m_44, m_45, m_46, m_47, m_48, m_49, m_50, m_51, m_52, m_53, m_54, m_55, m_56, m_57, m_58, m_59]), (cc_l w0 (K 0) 5500 (u.2.1 0)), (cc_l u0 (K 0) 558 (u.2.1 1)), (cc_l s0 (K 0) 16 (u.2.1 2)), (cc_l ub (K 0) 496 fub), (cc_l sb (K 0) 16 fsb)]) u) t) (va_A [(cc_O m0 12 [m_0, m_1, m_2, .ref w0, m_4, m_5, .ref u0, .ref s0, .int nu, .ref ub, .ref sb, m_11, m_12, m_13, m_14, m_15, m_16, m_17, m_18, m_19, m_20, m_21, m_22, m_23, m_24, m_25, m_26, m_27, m_28, m_29, m_30, m_31, m_32, m_33, m_34, m_35, m_36, m_37, m_38, m_39, m_40, m_41, m_42, m_43, m_44, m_45, m_46, m_47, m_48, m_49, m_50, m_51, m_52, m_53, m_54, m_55, m_56, m_57, m_58, m_59]), (cc_l w0 (K 0) 5500 fw), (cc_l u0 (K 0) 558 fu), (cc_l s0 (K 0) 16 fs), (cc_l ub (K 0) 496 fub), (cc_l sb (K 0) 16 fsb)] sz)) 0 0 (va_A [(cc_O m0 12 [m_0, m_1, m_2, .ref w0, m_4, m_5, .ref u0, .ref s0, .int nu, .ref ub, .ref sb, m_11, m_12, m_13, m_14, m_15, m_16, m_17, m_18, m_19, m_20, m_21, m_22, m_23, m_24, m_25, m_26, m_27, m_28, m_29, m_30, m_31, m_32, m_33, m_34, m_35, m_36, m_37, m_38, m_39, m_40, m_41, m_42, m_43, m_44, m_45, m_46, m_47, m_48, m_49, m_50, m_51, m_52, m_53, m_54, m_55, m_56, m_57, m_58, m_59]), (cc_l w0 (K 0) 5500 fw), (cc_l u0 (K 0) 558 fu), (cc_l s0 (K 0) 16 fs), (cc_l ub (K 0) 496 fub), (cc_l sb (K 0) 16 fsb)] sz) := by
  refine Met.ofW (cc := cX12_giveBack) (maxL := 3) (ret := none) (by decide +kernel) rfl ?_
  intro p e s m args below meth c s₁ B hml hv
  obtain ⟨rfl, hsz, hP, hK, hD0, hN⟩ := hv
  have hx := B.exec
  have hb := B.bytes
  have hr := B.returns
  have hts := atoms_spec (ws := wsX12_giveBack) B.pre
  have hown : s.vm.findClass RX12 = some m.cls := findClass_of_methodNamed B.named
  have hlocks := B.notSynchronized
  subst hsz
  have hD := hD0.self (sz := s.heap.size)
  generalize hAe : va_A [(cc_O m0 12 [m_0, m_1, m_2, .ref w0, m_4, m_5, .ref u0, .ref s0, .int nu, .ref ub, .ref sb, m_11, m_12, m_13, m_14, m_15, m_16, m_17, m_18, m_19, m_20, m_21, m_22, m_23, m_24, m_25, m_26, m_27, m_28, m_29, m_30, m_31, m_32, m_33, m_34, m_35, m_36, m_37, m_38, m_39, m_40, m_41, m_42, m_43, m_44, m_45, m_46, m_47, m_48, m_49, m_50, m_51, m_52, m_53, m_54, m_55, m_56, m_57, m_58, m_59]), (cc_l w0 (K 0) 5500 fw), (cc_l u0 (K 0) 558 fu), (cc_l s0 (K 0) 16 fs), (cc_l ub (K 0) 496 fub), (cc_l sb (K 0) 16 fsb)] s.heap.size = A at hD ⊢
  have hA : ∀ q : Nat, s.heap.size ≤ q → A q := fun q h => by rw [← hAe]; exact Or.inr h
  clear hAe
  have hS : va_S A s.heap s.heap [] := va_S.rf
  replace hP : va_P D vwCl [(cc_O m0 12 [m_0, m_1, m_2, .ref w0, m_4, m_5, .ref u0, .ref s0, .int nu, .ref ub, .ref sb, m_11, m_12, m_13, m_14, m_15, m_16, m_17, m_18, m_19, m_20, m_21, m_22, m_23, m_24, m_25, m_26, m_27, m_28, m_29, m_30, m_31, m_32, m_33, m_34, m_35, m_36, m_37, m_38, m_39, m_40, m_41, m_42, m_43, m_44, m_45, m_46, m_47, m_48, m_49, m_50, m_51, m_52, m_53, m_54, m_55, m_56, m_57, m_58, m_59]), (cc_l w0 (K 0) 5500 fw), (cc_l u0 (K 0) 558 fu), (cc_l s0 (K 0) 16 fs), (cc_l ub (K 0) 496 fub), (cc_l sb (K 0) 16 fsb)] s.heap := hP
  have hl := lv_entry [.ref m0, .int x] (n := 3) (Nat.le_of_ble_eq_true rfl)
  rw [lg_entry_eq]
  generalize (lg_sl [.ref m0, .int x] ++ List.replicate (3 - (lg_sl [.ref m0, .int x]).length) Slot.unset).toArray = ls at hl ⊢
  have hl : lv_has ls 3 [(0, .ref m0), (1, .int x)] := hl
  have hw12 : ∀ w ∈ wsX120, w ∈ wsX12_giveBack := fun w h => (List.mem_cons_of_mem _ (List.mem_append_right _ h))
  generalize hQ : MQ below _ _ s _ _ _ = Q
  have hE := E_v_giveBack.eq_def x nu fw fu fs fub fsb
  refine lv_aload_n hx hb dX12_giveBack_0 rfl (lv_at hl 0 rfl) (lv_bipush (v := 17) hx hb dX12_giveBack_1 (by decide +kernel) (kcv (S := Su) (wr := [(cc_l s0 (K 0) 16 fs), (cc_l ub (K 0) 496 fub), (cc_l sb (K 0) 16 fsb)]) (va_runV (As := [.int 17]) (rest := []) ⟨hx, hb, hml, hown, hts⟩ (v_putBack l D K m0 17 m_0 m_1 m_2 w0 m_4 m_5 u0 (.ref s0) (.int nu) (.ref ub) (.ref sb) m_11 m_12 m_13 m_14 m_15 m_16 m_17 m_18 m_19 m_20 m_21 m_22 m_23 m_24 m_25 m_26 m_27 m_28 m_29 m_30 m_31 m_32 m_33 m_34 m_35 m_36 m_37 m_38 m_39 m_40 m_41 m_42 m_43 m_44 m_45 m_46 m_47 m_48 m_49 m_50 m_51 m_52 m_53 m_54 m_55 m_56 m_57 m_58 m_59 fw gr fu s.heap.size (by first | omega | decide) zfw zgr zfu) (cwV 1 hts gX12_giveBack_X12_putBack rfl rfl rfl (by decide +kernel) ⟨Nat.le_of_ble_eq_true rfl, Nat.le_of_ble_eq_true rfl⟩) (mkV hK hN (hP.sub [0, 1, 2] rfl) (hD.sub [0, 1, 2] (by decide +kernel) rfl) (ci := 12) (q0 := 0) rfl rfl) rfl rfl hl.1 rfl (lv_room (Nat.le_of_ble_eq_true rfl)) dX12_giveBack_3 ⟨Nat.le_of_ble_eq_true rfl, Nat.le_of_ble_eq_true rfl⟩) hP hD hS hA [0, 1, 2] [3, 4, 5] rfl rfl (by decide +kernel) (by decide +kernel) (fun u_228 H locs hw hP0 hD0 hS0 => ?_)))
  replace hP : va_P D vwCl [(cc_l s0 (K 0) 16 fs), (cc_l ub (K 0) 496 fub), (cc_l sb (K 0) 16 fsb), (cc_O m0 12 [m_0, m_1, m_2, .ref w0, m_4, m_5, .ref u0, .ref s0, .int nu, .ref ub, .ref sb, m_11, m_12, m_13, m_14, m_15, m_16, m_17, m_18, m_19, m_20, m_21, m_22, m_23, m_24, m_25, m_26, m_27, m_28, m_29, m_30, m_31, m_32, m_33, m_34, m_35, m_36, m_37, m_38, m_39, m_40, m_41, m_42, m_43, m_44, m_45, m_46, m_47, m_48, m_49, m_50, m_51, m_52, m_53, m_54, m_55, m_56, m_57, m_58, m_59]), (cc_l w0 (K 0) 5500 (u_228.2.1 0)), (cc_l u0 (K 0) 558 fu)] H := hP0
  replace hD := as_D hP hD0 rfl
  replace hS := hS0
  clear hP0 hD0 hS0
  obtain ⟨k_229, k_230, k_231, -⟩ := hw
  replace hE := hE.trans (Lt_in k_231)
  refine lv_iconst (v := 0) hx hb dX12_giveBack_6 (by decide +kernel) (lv_istore_n (lv' := [(2, .int 0), (0, .ref m0), (1, .int x)]) hx hb dX12_giveBack_7 rfl hl (by decide +kernel) rfl (fun ls hl => ?_))
  have lp_265 : ∀ (nn_ : Nat) (v_253 : Int32) (f_254 : Nat → Int32) (hv_253 : 0 ≤ v_253.toInt ∧ v_253.toInt ≤ 496) (hf_254_0 : Pu 558 f_254) (hn : (497 - v_253.toInt : Int).toNat < nn_) (hE : E_v_giveBack x nu fw fu fs fub fsb = Lp (α := Int32 → (Nat → Int32) → ((Nat → Int32) × (Nat → Int32) × (Nat → Int32))) (E_v_giveBack_l8 fs fub fsb (u_228.2.1 0)) (fun _ _ => ((fun _ => 0, fun _ => 0, fun _ => 0) : (Nat → Int32) × (Nat → Int32) × (Nat → Int32))) nn_ v_253 f_254) (H : Heap) (locs : List Loc) (hP : va_P D vwCl [(cc_l s0 (K 0) 16 fs), (cc_l ub (K 0) 496 fub), (cc_l sb (K 0) 16 fsb), (cc_O m0 12 [m_0, m_1, m_2, .ref w0, m_4, m_5, .ref u0, .ref s0, .int nu, .ref ub, .ref sb, m_11, m_12, m_13, m_14, m_15, m_16, m_17, m_18, m_19, m_20, m_21, m_22, m_23, m_24, m_25, m_26, m_27, m_28, m_29, m_30, m_31, m_32, m_33, m_34, m_35, m_36, m_37, m_38, m_39, m_40, m_41, m_42, m_43, m_44, m_45, m_46, m_47, m_48, m_49, m_50, m_51, m_52, m_53, m_54, m_55, m_56, m_57, m_58, m_59]), (cc_l w0 (K 0) 5500 (u_228.2.1 0)), (cc_l u0 (K 0) 558 f_254)] H) (hD : va_D A [(cc_l s0 (K 0) 16 fs), (cc_l ub (K 0) 496 fub), (cc_l sb (K 0) 16 fsb), (cc_O m0 12 [m_0, m_1, m_2, .ref w0, m_4, m_5, .ref u0, .ref s0, .int nu, .ref ub, .ref sb, m_11, m_12, m_13, m_14, m_15, m_16, m_17, m_18, m_19, m_20, m_21, m_22, m_23, m_24, m_25, m_26, m_27, m_28, m_29, m_30, m_31, m_32, m_33, m_34, m_35, m_36, m_37, m_38, m_39, m_40, m_41, m_42, m_43, m_44, m_45, m_46, m_47, m_48, m_49, m_50, m_51, m_52, m_53, m_54, m_55, m_56, m_57, m_58, m_59]), (cc_l w0 (K 0) 5500 (u_228.2.1 0)), (cc_l u0 (K 0) 558 f_254)]) (hS : va_S A s.heap H locs) (ls : Array Slot) (hl : lv_has ls 3 [(2, .int v_253), (0, .ref m0), (1, .int x)]), W p l e ({ frames := 1, cells := 0, slots := 0, locals := 22 }) s m (([.ref m0, .int x] : List Value).toArray) below meth c H locs 0 0 Q (F0 m 8 ls []) := by
    clear hE hP hD hS hl
    intro nn_
    induction nn_ with
    | zero =>
      intro v_253 f_254 hv_253 hf_254_0 hn hE H locs hP hD hS ls hl
      exact absurd hn (Nat.not_lt_zero _)
    | succ nn_ ih_266 =>
      intro v_253 f_254 hv_253 hf_254_0 hn hE H locs hP hD hS ls hl
      replace hE : E_v_giveBack x nu fw fu fs fub fsb = E_v_giveBack_l8 fs fub fsb (u_228.2.1 0) (Lp (α := Int32 → (Nat → Int32) → ((Nat → Int32) × (Nat → Int32) × (Nat → Int32))) (E_v_giveBack_l8 fs fub fsb (u_228.2.1 0)) (fun _ _ => ((fun _ => 0, fun _ => 0, fun _ => 0) : (Nat → Int32) × (Nat → Int32) × (Nat → Int32))) nn_) v_253 f_254 := hE
      obtain ⟨rec_265, hrec_265⟩ : ∃ z9, z9 = Lp (α := Int32 → (Nat → Int32) → ((Nat → Int32) × (Nat → Int32) × (Nat → Int32))) (E_v_giveBack_l8 fs fub fsb (u_228.2.1 0)) (fun _ _ => ((fun _ => 0, fun _ => 0, fun _ => 0) : (Nat → Int32) × (Nat → Int32) × (Nat → Int32))) nn_ := ⟨_, rfl⟩
      rw [← hrec_265] at hE
      replace hE := hE.trans (E_v_giveBack_l8.eq_def _ _ _ _ _ _ _)
      refine lv_iload_n hx hb dX12_giveBack_8 rfl (lv_at hl 0 rfl) (lv_sipush (v := 496) hx hb dX12_giveBack_9 (by decide +kernel) (lv_icmp_ge (tgt := 33) hx hb dX12_giveBack_12 (by decide +kernel) (fun c_267 => ?_) (fun c_267 => ?_)))
      · have c_267i := i_le (x := 496) (y := v_253.toInt) rfl rfl c_267
        replace hE := hE.trans (if_pos c_267)
        refine lv_iconst (v := 0) hx hb dX12_giveBack_33 (by decide +kernel) (lv_istore_n (lv' := [(2, .int 0), (0, .ref m0), (1, .int x)]) hx hb dX12_giveBack_34 rfl hl (by decide +kernel) rfl (fun ls hl => ?_))
        have lp_301 : ∀ (nn_ : Nat) (v_289 : Int32) (f_290 : Nat → Int32) (hv_289 : 0 ≤ v_289.toInt ∧ v_289.toInt ≤ 16) (hf_290_0 : Rg 16 0 3 f_290) (hn : (17 - v_289.toInt : Int).toNat < nn_) (hE : E_v_giveBack x nu fw fu fs fub fsb = Lp (α := Int32 → (Nat → Int32) → ((Nat → Int32) × (Nat → Int32) × (Nat → Int32))) (E_v_giveBack_l35 fsb (u_228.2.1 0) f_254) (fun _ _ => ((fun _ => 0, fun _ => 0, fun _ => 0) : (Nat → Int32) × (Nat → Int32) × (Nat → Int32))) nn_ v_289 f_290) (H : Heap) (locs : List Loc) (hP : va_P D vwCl [(cc_l s0 (K 0) 16 f_290), (cc_l ub (K 0) 496 fub), (cc_l sb (K 0) 16 fsb), (cc_O m0 12 [m_0, m_1, m_2, .ref w0, m_4, m_5, .ref u0, .ref s0, .int nu, .ref ub, .ref sb, m_11, m_12, m_13, m_14, m_15, m_16, m_17, m_18, m_19, m_20, m_21, m_22, m_23, m_24, m_25, m_26, m_27, m_28, m_29, m_30, m_31, m_32, m_33, m_34, m_35, m_36, m_37, m_38, m_39, m_40, m_41, m_42, m_43, m_44, m_45, m_46, m_47, m_48, m_49, m_50, m_51, m_52, m_53, m_54, m_55, m_56, m_57, m_58, m_59]), (cc_l w0 (K 0) 5500 (u_228.2.1 0)), (cc_l u0 (K 0) 558 f_254)] H) (hD : va_D A [(cc_l s0 (K 0) 16 f_290), (cc_l ub (K 0) 496 fub), (cc_l sb (K 0) 16 fsb), (cc_O m0 12 [m_0, m_1, m_2, .ref w0, m_4, m_5, .ref u0, .ref s0, .int nu, .ref ub, .ref sb, m_11, m_12, m_13, m_14, m_15, m_16, m_17, m_18, m_19, m_20, m_21, m_22, m_23, m_24, m_25, m_26, m_27, m_28, m_29, m_30, m_31, m_32, m_33, m_34, m_35, m_36, m_37, m_38, m_39, m_40, m_41, m_42, m_43, m_44, m_45, m_46, m_47, m_48, m_49, m_50, m_51, m_52, m_53, m_54, m_55, m_56, m_57, m_58, m_59]), (cc_l w0 (K 0) 5500 (u_228.2.1 0)), (cc_l u0 (K 0) 558 f_254)]) (hS : va_S A s.heap H locs) (ls : Array Slot) (hl : lv_has ls 3 [(2, .int v_289), (0, .ref m0), (1, .int x)]), W p l e ({ frames := 1, cells := 0, slots := 0, locals := 22 }) s m (([.ref m0, .int x] : List Value).toArray) below meth c H locs 0 0 Q (F0 m 35 ls []) := by
          clear hE hP hD hS hl
          intro nn_
          induction nn_ with
          | zero =>
            intro v_289 f_290 hv_289 hf_290_0 hn hE H locs hP hD hS ls hl
            exact absurd hn (Nat.not_lt_zero _)
          | succ nn_ ih_302 =>
            intro v_289 f_290 hv_289 hf_290_0 hn hE H locs hP hD hS ls hl
            replace hE : E_v_giveBack x nu fw fu fs fub fsb = E_v_giveBack_l35 fsb (u_228.2.1 0) f_254 (Lp (α := Int32 → (Nat → Int32) → ((Nat → Int32) × (Nat → Int32) × (Nat → Int32))) (E_v_giveBack_l35 fsb (u_228.2.1 0) f_254) (fun _ _ => ((fun _ => 0, fun _ => 0, fun _ => 0) : (Nat → Int32) × (Nat → Int32) × (Nat → Int32))) nn_) v_289 f_290 := hE
            obtain ⟨rec_301, hrec_301⟩ : ∃ z9, z9 = Lp (α := Int32 → (Nat → Int32) → ((Nat → Int32) × (Nat → Int32) × (Nat → Int32))) (E_v_giveBack_l35 fsb (u_228.2.1 0) f_254) (fun _ _ => ((fun _ => 0, fun _ => 0, fun _ => 0) : (Nat → Int32) × (Nat → Int32) × (Nat → Int32))) nn_ := ⟨_, rfl⟩
            rw [← hrec_301] at hE
            replace hE := hE.trans (E_v_giveBack_l35.eq_def _ _ _ _ _ _)
            refine lv_iload_n hx hb dX12_giveBack_35 rfl (lv_at hl 0 rfl) (lv_bipush (v := 16) hx hb dX12_giveBack_36 (by decide +kernel) (lv_icmp_ge (tgt := 59) hx hb dX12_giveBack_38 (by decide +kernel) (fun c_303 => ?_) (fun c_303 => ?_)))
            · have c_303i := i_le (x := 16) (y := v_289.toInt) rfl rfl c_303
              replace hE := hE.trans (if_pos c_303)
              refine lv_aload_n hx hb dX12_giveBack_59 rfl (lv_at hl 1 rfl) (lv_iload_n hx hb dX12_giveBack_60 rfl (lv_at hl 2 rfl) (va_put (ci := 12) (v := .int x) (ty := .int) (C := RX12) (T := TX12) (N := 60) hx hb hts hw12 tyX12 tyX12_ok nmX12 hown hK hP hD hS 3 rfl rfl 8 (by decide +kernel) (hts _ mm_X12_giveBack_838) (fun _ h9 => h9) rfl (by decide +kernel) (by first | rfl | decide) (by first | rfl | decide) (Nat.le_of_ble_eq_true rfl) dX12_giveBack_61 (fun H locs hP0 hD0 hS0 => ?_)))
              replace hP : va_P D vwCl [(cc_l s0 (K 0) 16 f_290), (cc_l ub (K 0) 496 fub), (cc_l sb (K 0) 16 fsb), (cc_O m0 12 [m_0, m_1, m_2, .ref w0, m_4, m_5, .ref u0, .ref s0, .int x, .ref ub, .ref sb, m_11, m_12, m_13, m_14, m_15, m_16, m_17, m_18, m_19, m_20, m_21, m_22, m_23, m_24, m_25, m_26, m_27, m_28, m_29, m_30, m_31, m_32, m_33, m_34, m_35, m_36, m_37, m_38, m_39, m_40, m_41, m_42, m_43, m_44, m_45, m_46, m_47, m_48, m_49, m_50, m_51, m_52, m_53, m_54, m_55, m_56, m_57, m_58, m_59]), (cc_l w0 (K 0) 5500 (u_228.2.1 0)), (cc_l u0 (K 0) 558 f_254)] H := hP0
              replace hD := as_D hP hD0 rfl
              replace hS := hS0
              clear hP0 hD0 hS0
              rw [← hQ]
              have hP9 := hP.sub (ws' := [(cc_O m0 12 [m_0, m_1, m_2, .ref w0, m_4, m_5, .ref u0, .ref s0, .int x, .ref ub, .ref sb, m_11, m_12, m_13, m_14, m_15, m_16, m_17, m_18, m_19, m_20, m_21, m_22, m_23, m_24, m_25, m_26, m_27, m_28, m_29, m_30, m_31, m_32, m_33, m_34, m_35, m_36, m_37, m_38, m_39, m_40, m_41, m_42, m_43, m_44, m_45, m_46, m_47, m_48, m_49, m_50, m_51, m_52, m_53, m_54, m_55, m_56, m_57, m_58, m_59]), (cc_l w0 (K 0) 5500 (u_228.2.1 0)), (cc_l u0 (K 0) 558 f_254), (cc_l s0 (K 0) 16 f_290), (cc_l ub (K 0) 496 fub), (cc_l sb (K 0) 16 fsb)]) [3, 4, 5, 0, 1, 2] rfl
              have hD9 := sub_D hP9 hD [3, 4, 5, 0, 1, 2] (by decide +kernel) rfl
              exact W.vret hx hb hr (fun t ht hW => ⟨⟨((fun _ => 0, fun i => match i with | 0 => (u_228.2.1 0) | 1 => f_254 | _ => f_290, fun _ => fun _ => 0, fun _ => 0, fun _ => 0, fun _ => fun _ => none) : Su), rfl, ⟨k_229, k_230, hf_254_0, hf_290_0, hE.symm, trivial⟩, (⟨by rw [ht]; exact hP9, hD9⟩ : Wd D A _ t)⟩, hS.F ht⟩) hS.2.2 dX12_giveBack_64
            · have c_303i := i_nle (x := 16) (y := v_289.toInt) rfl rfl c_303
              replace hE := hE.trans (if_neg c_303)
              refine lv_aload_n hx hb dX12_giveBack_41 rfl (lv_at hl 1 rfl) (va_get (ci := 12) (v := .ref s0) (C := RX12) (T := TX12) (N := 60) hx hb hts hw12 hown hK hP 3 rfl rfl 7 (by decide +kernel) (hts _ mm_X12_giveBack_837) (fun _ h9 => h9) rfl dX12_giveBack_42 (lv_iload_n hx hb dX12_giveBack_45 rfl (lv_at hl 0 rfl) (lv_aload_n hx hb dX12_giveBack_46 rfl (lv_at hl 1 rfl) (va_get (ci := 12) (v := .ref sb) (C := RX12) (T := TX12) (N := 60) hx hb hts hw12 hown hK hP 3 rfl rfl 10 (by decide +kernel) (hts _ mm_X12_giveBack_840) (fun _ h9 => h9) rfl dX12_giveBack_47 (lv_iload_n hx hb dX12_giveBack_50 rfl (lv_at hl 0 rfl) (va_iald hx hb hK hP 2 0 rfl rfl (i_in rfl (by omega)) dX12_giveBack_51 (lv_topi (fun x_304 ex_304 => ?_))))))))
              replace hE := hE.trans (Lt_in ex_304)
              have hx_304 := Rg.at zfsb rfl (show 0 ≤ v_289.toInt ∧ v_289.toInt < _ by omega)
              rw [← ex_304] at hx_304
              refine va_iast hx hb hK hP hD hS 0 0 rfl rfl (i_in rfl (by omega)) dX12_giveBack_52 (fun H locs hP0 hD0 hS0 => ?_)
              replace hP := hP0
              replace hD := hD0
              replace hS := hS0
              clear hP0 hD0 hS0
              generalize hf_305 : (upd f_290 (v_289 : Int32).toNatClampNeg x_304) = f_305 at hP hD
              replace hE := hE.trans (Lt_in hf_305.symm)
              have hf_305_0 : Rg 16 0 3 f_305 := by rw [← hf_305]; exact Rg.upd hf_290_0 rfl (by omega)
              replace hP : va_P D vwCl [(cc_l s0 (K 0) 16 f_305), (cc_l ub (K 0) 496 fub), (cc_l sb (K 0) 16 fsb), (cc_O m0 12 [m_0, m_1, m_2, .ref w0, m_4, m_5, .ref u0, .ref s0, .int nu, .ref ub, .ref sb, m_11, m_12, m_13, m_14, m_15, m_16, m_17, m_18, m_19, m_20, m_21, m_22, m_23, m_24, m_25, m_26, m_27, m_28, m_29, m_30, m_31, m_32, m_33, m_34, m_35, m_36, m_37, m_38, m_39, m_40, m_41, m_42, m_43, m_44, m_45, m_46, m_47, m_48, m_49, m_50, m_51, m_52, m_53, m_54, m_55, m_56, m_57, m_58, m_59]), (cc_l w0 (K 0) 5500 (u_228.2.1 0)), (cc_l u0 (K 0) 558 f_254)] H := hP
              replace hD := as_D hP hD rfl
              obtain ⟨x_306, ex_306⟩ : ∃ y : Int32, y = v_289 + Int32.ofInt 1 := ⟨_, rfl⟩
              replace hE := hE.trans (Lt_in ex_306)
              have hx_306 : x_306.toInt = (v_289.toInt + 1) := by rw [ex_306]; exact i_add rfl (show (Int32.ofInt 1).toInt = 1 from rfl) (by omega)
              refine lv_iinc (v := x_306) (lv' := [(2, .int x_306), (0, .ref m0), (1, .int x)]) hx hb dX12_giveBack_53 hl (k := 0) rfl (by rw [ex_306]) (by decide +kernel) rfl (fun ls hl => ?_)
              refine lv_goto (tgt := 35) hx hb dX12_giveBack_56 (by decide +kernel) ?_
              exact ih_302 x_306 f_305 (by rw [hx_306]; omega) hf_305_0 (by omega) (hE.trans (by rw [hrec_301])) _ _ hP hD hS ls (lv_sub hl [0, 1, 2] rfl)
        exact lp_301 ((17 - (0 : Int32).toInt : Int).toNat + 1) 0 fs (by decide +kernel) zfs (Nat.lt_succ_self _) hE _ _ hP hD hS ls (lv_sub hl [0, 1, 2] rfl)
      · have c_267i := i_nle (x := 496) (y := v_253.toInt) rfl rfl c_267
        replace hE := hE.trans (if_neg c_267)
        refine lv_aload_n hx hb dX12_giveBack_15 rfl (lv_at hl 1 rfl) (va_get (ci := 12) (v := .ref u0) (C := RX12) (T := TX12) (N := 60) hx hb hts hw12 hown hK hP 3 rfl rfl 6 (by decide +kernel) (hts _ mm_X12_giveBack_836) (fun _ h9 => h9) rfl dX12_giveBack_16 (lv_iload_n hx hb dX12_giveBack_19 rfl (lv_at hl 0 rfl) (lv_aload_n hx hb dX12_giveBack_20 rfl (lv_at hl 1 rfl) (va_get (ci := 12) (v := .ref ub) (C := RX12) (T := TX12) (N := 60) hx hb hts hw12 hown hK hP 3 rfl rfl 9 (by decide +kernel) (hts _ mm_X12_giveBack_839) (fun _ h9 => h9) rfl dX12_giveBack_21 (lv_iload_n hx hb dX12_giveBack_24 rfl (lv_at hl 0 rfl) (va_iald hx hb hK hP 1 0 rfl rfl (i_in rfl (by omega)) dX12_giveBack_25 (lv_topi (fun x_307 ex_307 => ?_))))))))
        replace hE := hE.trans (Lt_in ex_307)
        have px_307 := Pu.at zfub rfl (show 0 ≤ v_253.toInt ∧ v_253.toInt < _ by omega)
        rw [← ex_307] at px_307
        refine va_iast hx hb hK hP hD hS 5 0 rfl rfl (i_in rfl (by omega)) dX12_giveBack_26 (fun H locs hP0 hD0 hS0 => ?_)
        replace hP := hP0
        replace hD := hD0
        replace hS := hS0
        clear hP0 hD0 hS0
        generalize hf_308 : (upd f_254 (v_253 : Int32).toNatClampNeg x_307) = f_308 at hP hD
        replace hE := hE.trans (Lt_in hf_308.symm)
        have hf_308_0 : Pu 558 f_308 := by rw [← hf_308]; exact Pu.upd hf_254_0 rfl (by omega) rfl (PR.eqi px_307 (by omega) (by omega))
        replace hP : va_P D vwCl [(cc_l s0 (K 0) 16 fs), (cc_l ub (K 0) 496 fub), (cc_l sb (K 0) 16 fsb), (cc_O m0 12 [m_0, m_1, m_2, .ref w0, m_4, m_5, .ref u0, .ref s0, .int nu, .ref ub, .ref sb, m_11, m_12, m_13, m_14, m_15, m_16, m_17, m_18, m_19, m_20, m_21, m_22, m_23, m_24, m_25, m_26, m_27, m_28, m_29, m_30, m_31, m_32, m_33, m_34, m_35, m_36, m_37, m_38, m_39, m_40, m_41, m_42, m_43, m_44, m_45, m_46, m_47, m_48, m_49, m_50, m_51, m_52, m_53, m_54, m_55, m_56, m_57, m_58, m_59]), (cc_l w0 (K 0) 5500 (u_228.2.1 0)), (cc_l u0 (K 0) 558 f_308)] H := hP
        replace hD := as_D hP hD rfl
        obtain ⟨x_309, ex_309⟩ : ∃ y : Int32, y = v_253 + Int32.ofInt 1 := ⟨_, rfl⟩
        replace hE := hE.trans (Lt_in ex_309)
        have hx_309 : x_309.toInt = (v_253.toInt + 1) := by rw [ex_309]; exact i_add rfl (show (Int32.ofInt 1).toInt = 1 from rfl) (by omega)
        refine lv_iinc (v := x_309) (lv' := [(2, .int x_309), (0, .ref m0), (1, .int x)]) hx hb dX12_giveBack_27 hl (k := 0) rfl (by rw [ex_309]) (by decide +kernel) rfl (fun ls hl => ?_)
        refine lv_goto (tgt := 8) hx hb dX12_giveBack_30 (by decide +kernel) ?_
        exact ih_266 x_309 f_308 (by rw [hx_309]; omega) hf_308_0 (by omega) (hE.trans (by rw [hrec_265])) _ _ hP hD hS ls (lv_sub hl [0, 1, 2] rfl)
  exact lp_265 ((497 - (0 : Int32).toInt : Int).toNat + 1) 0 fu (by decide +kernel) zfu (Nat.lt_succ_self _) hE _ _ hP hD hS ls (lv_sub hl [0, 1, 2] rfl)
