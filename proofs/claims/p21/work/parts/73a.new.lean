theorem BX3_init_0 : bsegs (ByteArray.data cX3_init |>.toList.drop 0) 0 [(0, [42]), (1, [183, 0, 1]), (4, [42]), (5, [16, 64]), (7, [188, 10]), (9, [181, 0, 7]), (12, [42]), (13, [3]), (14, [181, 0, 13]), (17, [177])] = true := by decide +kernel
theorem dX3_init_0 : decode cX3_init 0 = .ok (.aload_n 0, 1) := dk_42 (bs_at BX3_init_0 0 rfl)
theorem dX3_init_1 : decode cX3_init 1 = .ok (.invokespecial 1, 3) := dk_183 0 1 (bs_at BX3_init_0 1 rfl) rfl
theorem dX3_init_4 : decode cX3_init 4 = .ok (.aload_n 0, 1) := dk_42 (bs_at BX3_init_0 2 rfl)
theorem dX3_init_5 : decode cX3_init 5 = .ok (.bipush 64, 2) := dk_16 64 (bs_at BX3_init_0 3 rfl) rfl
theorem dX3_init_7 : decode cX3_init 7 = .ok (.newarray .int, 2) := dk_188_10 (bs_at BX3_init_0 4 rfl)
theorem dX3_init_9 : decode cX3_init 9 = .ok (.putfield 7, 3) := dk_181 0 7 (bs_at BX3_init_0 5 rfl) rfl
theorem dX3_init_12 : decode cX3_init 12 = .ok (.aload_n 0, 1) := dk_42 (bs_at BX3_init_0 6 rfl)
theorem dX3_init_13 : decode cX3_init 13 = .ok (.iconst 0, 1) := dk_3 (bs_at BX3_init_0 7 rfl)
theorem dX3_init_14 : decode cX3_init 14 = .ok (.putfield 13, 3) := dk_181 0 13 (bs_at BX3_init_0 8 rfl) rfl
theorem dX3_init_17 : decode cX3_init 17 = .ok (.return_, 1) := dk_177 (bs_at BX3_init_0 9 rfl)
theorem BX0_init_0 : bsegs (ByteArray.data cX0_init |>.toList.drop 0) 0 [(0, [42]), (1, [183, 0, 3]), (4, [42]), (5, [187, 0, 9]), (8, [89]), (9, [183, 0, 11]), (12, [181, 0, 12]), (15, [42]), (16, [16, 9]), (18, [188, 10]), (20, [181, 0, 18]), (23, [177])] = true := by decide +kernel
theorem dX0_init_0 : decode cX0_init 0 = .ok (.aload_n 0, 1) := dk_42 (bs_at BX0_init_0 0 rfl)
theorem dX0_init_1 : decode cX0_init 1 = .ok (.invokespecial 3, 3) := dk_183 0 3 (bs_at BX0_init_0 1 rfl) rfl
theorem dX0_init_4 : decode cX0_init 4 = .ok (.aload_n 0, 1) := dk_42 (bs_at BX0_init_0 2 rfl)
theorem dX0_init_5 : decode cX0_init 5 = .ok (.new 9, 3) := dk_187 0 9 (bs_at BX0_init_0 3 rfl) rfl
theorem dX0_init_8 : decode cX0_init 8 = .ok (.dup, 1) := dk_89 (bs_at BX0_init_0 4 rfl)
theorem dX0_init_9 : decode cX0_init 9 = .ok (.invokespecial 11, 3) := dk_183 0 11 (bs_at BX0_init_0 5 rfl) rfl
theorem dX0_init_12 : decode cX0_init 12 = .ok (.putfield 12, 3) := dk_181 0 12 (bs_at BX0_init_0 6 rfl) rfl
theorem dX0_init_15 : decode cX0_init 15 = .ok (.aload_n 0, 1) := dk_42 (bs_at BX0_init_0 7 rfl)
theorem dX0_init_16 : decode cX0_init 16 = .ok (.bipush 9, 2) := dk_16 9 (bs_at BX0_init_0 8 rfl) rfl
theorem dX0_init_18 : decode cX0_init 18 = .ok (.newarray .int, 2) := dk_188_10 (bs_at BX0_init_0 9 rfl)
theorem dX0_init_20 : decode cX0_init 20 = .ok (.putfield 18, 3) := dk_181 0 18 (bs_at BX0_init_0 10 rfl) rfl
theorem dX0_init_23 : decode cX0_init 23 = .ok (.return_, 1) := dk_177 (bs_at BX0_init_0 11 rfl)
theorem BX10_init_0 : bsegs (ByteArray.data cX10_init |>.toList.drop 0) 0 [(0, [42]), (1, [183, 0, 3]), (4, [42]), (5, [187, 0, 9]), (8, [89]), (9, [183, 0, 11]), (12, [181, 0, 12]), (15, [177])] = true := by decide +kernel
theorem dX10_init_0 : decode cX10_init 0 = .ok (.aload_n 0, 1) := dk_42 (bs_at BX10_init_0 0 rfl)
theorem dX10_init_1 : decode cX10_init 1 = .ok (.invokespecial 3, 3) := dk_183 0 3 (bs_at BX10_init_0 1 rfl) rfl
theorem dX10_init_4 : decode cX10_init 4 = .ok (.aload_n 0, 1) := dk_42 (bs_at BX10_init_0 2 rfl)
theorem dX10_init_5 : decode cX10_init 5 = .ok (.new 9, 3) := dk_187 0 9 (bs_at BX10_init_0 3 rfl) rfl
theorem dX10_init_8 : decode cX10_init 8 = .ok (.dup, 1) := dk_89 (bs_at BX10_init_0 4 rfl)
theorem dX10_init_9 : decode cX10_init 9 = .ok (.invokespecial 11, 3) := dk_183 0 11 (bs_at BX10_init_0 5 rfl) rfl
theorem dX10_init_12 : decode cX10_init 12 = .ok (.putfield 12, 3) := dk_181 0 12 (bs_at BX10_init_0 6 rfl) rfl
theorem dX10_init_15 : decode cX10_init 15 = .ok (.return_, 1) := dk_177 (bs_at BX10_init_0 7 rfl)
theorem BX9_init_0 : bsegs (ByteArray.data cX9_init |>.toList.drop 0) 0 [(0, [42]), (1, [183, 0, 3]), (4, [42]), (5, [16, 56]), (7, [188, 10]), (9, [181, 0, 9]), (12, [42]), (13, [16, 24]), (15, [188, 10]), (17, [181, 0, 15]), (20, [42]), (21, [16, 6]), (23, [188, 10]), (25, [89]), (26, [3]), (27, [3]), (28, [79]), (29, [89]), (30, [4]), (31, [3]), (32, [79]), (33, [89]), (34, [5]), (35, [6])] = true := by decide +kernel
theorem dX9_init_0 : decode cX9_init 0 = .ok (.aload_n 0, 1) := dk_42 (bs_at BX9_init_0 0 rfl)
theorem dX9_init_1 : decode cX9_init 1 = .ok (.invokespecial 3, 3) := dk_183 0 3 (bs_at BX9_init_0 1 rfl) rfl
theorem dX9_init_4 : decode cX9_init 4 = .ok (.aload_n 0, 1) := dk_42 (bs_at BX9_init_0 2 rfl)
theorem dX9_init_5 : decode cX9_init 5 = .ok (.bipush 56, 2) := dk_16 56 (bs_at BX9_init_0 3 rfl) rfl
theorem dX9_init_7 : decode cX9_init 7 = .ok (.newarray .int, 2) := dk_188_10 (bs_at BX9_init_0 4 rfl)
theorem dX9_init_9 : decode cX9_init 9 = .ok (.putfield 9, 3) := dk_181 0 9 (bs_at BX9_init_0 5 rfl) rfl
theorem dX9_init_12 : decode cX9_init 12 = .ok (.aload_n 0, 1) := dk_42 (bs_at BX9_init_0 6 rfl)
theorem dX9_init_13 : decode cX9_init 13 = .ok (.bipush 24, 2) := dk_16 24 (bs_at BX9_init_0 7 rfl) rfl
theorem dX9_init_15 : decode cX9_init 15 = .ok (.newarray .int, 2) := dk_188_10 (bs_at BX9_init_0 8 rfl)
theorem dX9_init_17 : decode cX9_init 17 = .ok (.putfield 15, 3) := dk_181 0 15 (bs_at BX9_init_0 9 rfl) rfl
theorem dX9_init_20 : decode cX9_init 20 = .ok (.aload_n 0, 1) := dk_42 (bs_at BX9_init_0 10 rfl)
theorem dX9_init_21 : decode cX9_init 21 = .ok (.bipush 6, 2) := dk_16 6 (bs_at BX9_init_0 11 rfl) rfl
theorem dX9_init_23 : decode cX9_init 23 = .ok (.newarray .int, 2) := dk_188_10 (bs_at BX9_init_0 12 rfl)
theorem dX9_init_25 : decode cX9_init 25 = .ok (.dup, 1) := dk_89 (bs_at BX9_init_0 13 rfl)
theorem dX9_init_26 : decode cX9_init 26 = .ok (.iconst 0, 1) := dk_3 (bs_at BX9_init_0 14 rfl)
theorem dX9_init_27 : decode cX9_init 27 = .ok (.iconst 0, 1) := dk_3 (bs_at BX9_init_0 15 rfl)
theorem dX9_init_28 : decode cX9_init 28 = .ok (.iastore, 1) := dk_79 (bs_at BX9_init_0 16 rfl)
theorem dX9_init_29 : decode cX9_init 29 = .ok (.dup, 1) := dk_89 (bs_at BX9_init_0 17 rfl)
theorem dX9_init_30 : decode cX9_init 30 = .ok (.iconst 1, 1) := dk_4 (bs_at BX9_init_0 18 rfl)
theorem dX9_init_31 : decode cX9_init 31 = .ok (.iconst 0, 1) := dk_3 (bs_at BX9_init_0 19 rfl)
theorem dX9_init_32 : decode cX9_init 32 = .ok (.iastore, 1) := dk_79 (bs_at BX9_init_0 20 rfl)
theorem dX9_init_33 : decode cX9_init 33 = .ok (.dup, 1) := dk_89 (bs_at BX9_init_0 21 rfl)
theorem dX9_init_34 : decode cX9_init 34 = .ok (.iconst 2, 1) := dk_5 (bs_at BX9_init_0 22 rfl)
theorem dX9_init_35 : decode cX9_init 35 = .ok (.iconst 3, 1) := dk_6 (bs_at BX9_init_0 23 rfl)
theorem BX9_init_36 : bsegs (ByteArray.data cX9_init |>.toList.drop 36) 36 [(36, [79]), (37, [89]), (38, [6]), (39, [16, 12]), (41, [79]), (42, [89]), (43, [7]), (44, [6]), (45, [79]), (46, [89]), (47, [8]), (48, [3]), (49, [79]), (50, [181, 0, 18]), (53, [42]), (54, [16, 6]), (56, [189, 0, 21]), (59, [181, 0, 23]), (62, [42]), (63, [3]), (64, [181, 0, 27]), (67, [42]), (68, [3]), (69, [181, 0, 31])] = true := by decide +kernel
theorem dX9_init_36 : decode cX9_init 36 = .ok (.iastore, 1) := dk_79 (bs_at BX9_init_36 0 rfl)
theorem dX9_init_37 : decode cX9_init 37 = .ok (.dup, 1) := dk_89 (bs_at BX9_init_36 1 rfl)
theorem dX9_init_38 : decode cX9_init 38 = .ok (.iconst 3, 1) := dk_6 (bs_at BX9_init_36 2 rfl)
theorem dX9_init_39 : decode cX9_init 39 = .ok (.bipush 12, 2) := dk_16 12 (bs_at BX9_init_36 3 rfl) rfl
theorem dX9_init_41 : decode cX9_init 41 = .ok (.iastore, 1) := dk_79 (bs_at BX9_init_36 4 rfl)
theorem dX9_init_42 : decode cX9_init 42 = .ok (.dup, 1) := dk_89 (bs_at BX9_init_36 5 rfl)
theorem dX9_init_43 : decode cX9_init 43 = .ok (.iconst 4, 1) := dk_7 (bs_at BX9_init_36 6 rfl)
theorem dX9_init_44 : decode cX9_init 44 = .ok (.iconst 3, 1) := dk_6 (bs_at BX9_init_36 7 rfl)
theorem dX9_init_45 : decode cX9_init 45 = .ok (.iastore, 1) := dk_79 (bs_at BX9_init_36 8 rfl)
theorem dX9_init_46 : decode cX9_init 46 = .ok (.dup, 1) := dk_89 (bs_at BX9_init_36 9 rfl)
theorem dX9_init_47 : decode cX9_init 47 = .ok (.iconst 5, 1) := dk_8 (bs_at BX9_init_36 10 rfl)
theorem dX9_init_48 : decode cX9_init 48 = .ok (.iconst 0, 1) := dk_3 (bs_at BX9_init_36 11 rfl)
theorem dX9_init_49 : decode cX9_init 49 = .ok (.iastore, 1) := dk_79 (bs_at BX9_init_36 12 rfl)
theorem dX9_init_50 : decode cX9_init 50 = .ok (.putfield 18, 3) := dk_181 0 18 (bs_at BX9_init_36 13 rfl) rfl
theorem dX9_init_53 : decode cX9_init 53 = .ok (.aload_n 0, 1) := dk_42 (bs_at BX9_init_36 14 rfl)
theorem dX9_init_54 : decode cX9_init 54 = .ok (.bipush 6, 2) := dk_16 6 (bs_at BX9_init_36 15 rfl) rfl
theorem dX9_init_56 : decode cX9_init 56 = .ok (.anewarray 21, 3) := dk_189 0 21 (bs_at BX9_init_36 16 rfl) rfl
theorem dX9_init_59 : decode cX9_init 59 = .ok (.putfield 23, 3) := dk_181 0 23 (bs_at BX9_init_36 17 rfl) rfl
theorem dX9_init_62 : decode cX9_init 62 = .ok (.aload_n 0, 1) := dk_42 (bs_at BX9_init_36 18 rfl)
theorem dX9_init_63 : decode cX9_init 63 = .ok (.iconst 0, 1) := dk_3 (bs_at BX9_init_36 19 rfl)
theorem dX9_init_64 : decode cX9_init 64 = .ok (.putfield 27, 3) := dk_181 0 27 (bs_at BX9_init_36 20 rfl) rfl
theorem dX9_init_67 : decode cX9_init 67 = .ok (.aload_n 0, 1) := dk_42 (bs_at BX9_init_36 21 rfl)
theorem dX9_init_68 : decode cX9_init 68 = .ok (.iconst 0, 1) := dk_3 (bs_at BX9_init_36 22 rfl)
theorem dX9_init_69 : decode cX9_init 69 = .ok (.putfield 31, 3) := dk_181 0 31 (bs_at BX9_init_36 23 rfl) rfl
theorem BX9_init_72 : bsegs (ByteArray.data cX9_init |>.toList.drop 72) 72 [(72, [42]), (73, [2]), (74, [181, 0, 34]), (77, [42]), (78, [3]), (79, [181, 0, 37]), (82, [42]), (83, [3]), (84, [181, 0, 40]), (87, [42]), (88, [3]), (89, [181, 0, 43]), (92, [177])] = true := by decide +kernel
theorem dX9_init_72 : decode cX9_init 72 = .ok (.aload_n 0, 1) := dk_42 (bs_at BX9_init_72 0 rfl)
theorem dX9_init_73 : decode cX9_init 73 = .ok (.iconst (-1), 1) := dk_2 (bs_at BX9_init_72 1 rfl)
theorem dX9_init_74 : decode cX9_init 74 = .ok (.putfield 34, 3) := dk_181 0 34 (bs_at BX9_init_72 2 rfl) rfl
theorem dX9_init_77 : decode cX9_init 77 = .ok (.aload_n 0, 1) := dk_42 (bs_at BX9_init_72 3 rfl)
theorem dX9_init_78 : decode cX9_init 78 = .ok (.iconst 0, 1) := dk_3 (bs_at BX9_init_72 4 rfl)
theorem dX9_init_79 : decode cX9_init 79 = .ok (.putfield 37, 3) := dk_181 0 37 (bs_at BX9_init_72 5 rfl) rfl
theorem dX9_init_82 : decode cX9_init 82 = .ok (.aload_n 0, 1) := dk_42 (bs_at BX9_init_72 6 rfl)
theorem dX9_init_83 : decode cX9_init 83 = .ok (.iconst 0, 1) := dk_3 (bs_at BX9_init_72 7 rfl)
theorem dX9_init_84 : decode cX9_init 84 = .ok (.putfield 40, 3) := dk_181 0 40 (bs_at BX9_init_72 8 rfl) rfl
theorem dX9_init_87 : decode cX9_init 87 = .ok (.aload_n 0, 1) := dk_42 (bs_at BX9_init_72 9 rfl)
theorem dX9_init_88 : decode cX9_init 88 = .ok (.iconst 0, 1) := dk_3 (bs_at BX9_init_72 10 rfl)
theorem dX9_init_89 : decode cX9_init 89 = .ok (.putfield 43, 3) := dk_181 0 43 (bs_at BX9_init_72 11 rfl) rfl
theorem dX9_init_92 : decode cX9_init 92 = .ok (.return_, 1) := dk_177 (bs_at BX9_init_72 12 rfl)
theorem BX2_init_0 : bsegs (ByteArray.data cX2_init |>.toList.drop 0) 0 [(0, [42]), (1, [183, 0, 5]), (4, [42]), (5, [17, 1, 220]), (8, [188, 10]), (10, [181, 0, 11]), (13, [42]), (14, [3]), (15, [181, 0, 15]), (18, [42]), (19, [3]), (20, [181, 0, 19]), (23, [177])] = true := by decide +kernel
theorem dX2_init_0 : decode cX2_init 0 = .ok (.aload_n 0, 1) := dk_42 (bs_at BX2_init_0 0 rfl)
theorem dX2_init_1 : decode cX2_init 1 = .ok (.invokespecial 5, 3) := dk_183 0 5 (bs_at BX2_init_0 1 rfl) rfl
theorem dX2_init_4 : decode cX2_init 4 = .ok (.aload_n 0, 1) := dk_42 (bs_at BX2_init_0 2 rfl)
theorem dX2_init_5 : decode cX2_init 5 = .ok (.sipush 476, 3) := dk_17 1 220 (bs_at BX2_init_0 3 rfl) rfl
theorem dX2_init_8 : decode cX2_init 8 = .ok (.newarray .int, 2) := dk_188_10 (bs_at BX2_init_0 4 rfl)
theorem dX2_init_10 : decode cX2_init 10 = .ok (.putfield 11, 3) := dk_181 0 11 (bs_at BX2_init_0 5 rfl) rfl
theorem dX2_init_13 : decode cX2_init 13 = .ok (.aload_n 0, 1) := dk_42 (bs_at BX2_init_0 6 rfl)
theorem dX2_init_14 : decode cX2_init 14 = .ok (.iconst 0, 1) := dk_3 (bs_at BX2_init_0 7 rfl)
theorem dX2_init_15 : decode cX2_init 15 = .ok (.putfield 15, 3) := dk_181 0 15 (bs_at BX2_init_0 8 rfl) rfl
theorem dX2_init_18 : decode cX2_init 18 = .ok (.aload_n 0, 1) := dk_42 (bs_at BX2_init_0 9 rfl)
theorem dX2_init_19 : decode cX2_init 19 = .ok (.iconst 0, 1) := dk_3 (bs_at BX2_init_0 10 rfl)
theorem dX2_init_20 : decode cX2_init 20 = .ok (.putfield 19, 3) := dk_181 0 19 (bs_at BX2_init_0 11 rfl) rfl
theorem dX2_init_23 : decode cX2_init 23 = .ok (.return_, 1) := dk_177 (bs_at BX2_init_0 12 rfl)
theorem BX8_init_0 : bsegs (ByteArray.data cX8_init |>.toList.drop 0) 0 [(0, [42]), (1, [183, 0, 3]), (4, [42]), (5, [17, 1, 144]), (8, [188, 10]), (10, [181, 0, 11]), (13, [42]), (14, [3]), (15, [181, 0, 15]), (18, [42]), (19, [3]), (20, [181, 0, 19]), (23, [42]), (24, [3]), (25, [181, 0, 22]), (28, [42]), (29, [2]), (30, [181, 0, 25]), (33, [42]), (34, [2]), (35, [181, 0, 28]), (38, [177])] = true := by decide +kernel
theorem dX8_init_0 : decode cX8_init 0 = .ok (.aload_n 0, 1) := dk_42 (bs_at BX8_init_0 0 rfl)
theorem dX8_init_1 : decode cX8_init 1 = .ok (.invokespecial 3, 3) := dk_183 0 3 (bs_at BX8_init_0 1 rfl) rfl
theorem dX8_init_4 : decode cX8_init 4 = .ok (.aload_n 0, 1) := dk_42 (bs_at BX8_init_0 2 rfl)
theorem dX8_init_5 : decode cX8_init 5 = .ok (.sipush 400, 3) := dk_17 1 144 (bs_at BX8_init_0 3 rfl) rfl
theorem dX8_init_8 : decode cX8_init 8 = .ok (.newarray .int, 2) := dk_188_10 (bs_at BX8_init_0 4 rfl)
theorem dX8_init_10 : decode cX8_init 10 = .ok (.putfield 11, 3) := dk_181 0 11 (bs_at BX8_init_0 5 rfl) rfl
theorem dX8_init_13 : decode cX8_init 13 = .ok (.aload_n 0, 1) := dk_42 (bs_at BX8_init_0 6 rfl)
theorem dX8_init_14 : decode cX8_init 14 = .ok (.iconst 0, 1) := dk_3 (bs_at BX8_init_0 7 rfl)
theorem dX8_init_15 : decode cX8_init 15 = .ok (.putfield 15, 3) := dk_181 0 15 (bs_at BX8_init_0 8 rfl) rfl
theorem dX8_init_18 : decode cX8_init 18 = .ok (.aload_n 0, 1) := dk_42 (bs_at BX8_init_0 9 rfl)
theorem dX8_init_19 : decode cX8_init 19 = .ok (.iconst 0, 1) := dk_3 (bs_at BX8_init_0 10 rfl)
theorem dX8_init_20 : decode cX8_init 20 = .ok (.putfield 19, 3) := dk_181 0 19 (bs_at BX8_init_0 11 rfl) rfl
theorem dX8_init_23 : decode cX8_init 23 = .ok (.aload_n 0, 1) := dk_42 (bs_at BX8_init_0 12 rfl)
theorem dX8_init_24 : decode cX8_init 24 = .ok (.iconst 0, 1) := dk_3 (bs_at BX8_init_0 13 rfl)
theorem dX8_init_25 : decode cX8_init 25 = .ok (.putfield 22, 3) := dk_181 0 22 (bs_at BX8_init_0 14 rfl) rfl
theorem dX8_init_28 : decode cX8_init 28 = .ok (.aload_n 0, 1) := dk_42 (bs_at BX8_init_0 15 rfl)
theorem dX8_init_29 : decode cX8_init 29 = .ok (.iconst (-1), 1) := dk_2 (bs_at BX8_init_0 16 rfl)
theorem dX8_init_30 : decode cX8_init 30 = .ok (.putfield 25, 3) := dk_181 0 25 (bs_at BX8_init_0 17 rfl) rfl
theorem dX8_init_33 : decode cX8_init 33 = .ok (.aload_n 0, 1) := dk_42 (bs_at BX8_init_0 18 rfl)
theorem dX8_init_34 : decode cX8_init 34 = .ok (.iconst (-1), 1) := dk_2 (bs_at BX8_init_0 19 rfl)
theorem dX8_init_35 : decode cX8_init 35 = .ok (.putfield 28, 3) := dk_181 0 28 (bs_at BX8_init_0 20 rfl) rfl
theorem dX8_init_38 : decode cX8_init 38 = .ok (.return_, 1) := dk_177 (bs_at BX8_init_0 21 rfl)
theorem BX6_init_0 : bsegs (ByteArray.data cX6_init |>.toList.drop 0) 0 [(0, [42]), (1, [183, 0, 3]), (4, [42]), (5, [187, 0, 9]), (8, [89]), (9, [183, 0, 11]), (12, [181, 0, 12]), (15, [42]), (16, [187, 0, 18]), (19, [89]), (20, [16, 60]), (22, [188, 10]), (24, [17, 3, 32]), (27, [188, 10]), (29, [3]), (30, [183, 0, 20]), (33, [181, 0, 23]), (36, [42]), (37, [4]), (38, [181, 0, 27]), (41, [42]), (42, [3]), (43, [181, 0, 31]), (46, [42])] = true := by decide +kernel
theorem dX6_init_0 : decode cX6_init 0 = .ok (.aload_n 0, 1) := dk_42 (bs_at BX6_init_0 0 rfl)
theorem dX6_init_1 : decode cX6_init 1 = .ok (.invokespecial 3, 3) := dk_183 0 3 (bs_at BX6_init_0 1 rfl) rfl
theorem dX6_init_4 : decode cX6_init 4 = .ok (.aload_n 0, 1) := dk_42 (bs_at BX6_init_0 2 rfl)
theorem dX6_init_5 : decode cX6_init 5 = .ok (.new 9, 3) := dk_187 0 9 (bs_at BX6_init_0 3 rfl) rfl
theorem dX6_init_8 : decode cX6_init 8 = .ok (.dup, 1) := dk_89 (bs_at BX6_init_0 4 rfl)
theorem dX6_init_9 : decode cX6_init 9 = .ok (.invokespecial 11, 3) := dk_183 0 11 (bs_at BX6_init_0 5 rfl) rfl
theorem dX6_init_12 : decode cX6_init 12 = .ok (.putfield 12, 3) := dk_181 0 12 (bs_at BX6_init_0 6 rfl) rfl
theorem dX6_init_15 : decode cX6_init 15 = .ok (.aload_n 0, 1) := dk_42 (bs_at BX6_init_0 7 rfl)
theorem dX6_init_16 : decode cX6_init 16 = .ok (.new 18, 3) := dk_187 0 18 (bs_at BX6_init_0 8 rfl) rfl
theorem dX6_init_19 : decode cX6_init 19 = .ok (.dup, 1) := dk_89 (bs_at BX6_init_0 9 rfl)
theorem dX6_init_20 : decode cX6_init 20 = .ok (.bipush 60, 2) := dk_16 60 (bs_at BX6_init_0 10 rfl) rfl
theorem dX6_init_22 : decode cX6_init 22 = .ok (.newarray .int, 2) := dk_188_10 (bs_at BX6_init_0 11 rfl)
theorem dX6_init_24 : decode cX6_init 24 = .ok (.sipush 800, 3) := dk_17 3 32 (bs_at BX6_init_0 12 rfl) rfl
theorem dX6_init_27 : decode cX6_init 27 = .ok (.newarray .int, 2) := dk_188_10 (bs_at BX6_init_0 13 rfl)
theorem dX6_init_29 : decode cX6_init 29 = .ok (.iconst 0, 1) := dk_3 (bs_at BX6_init_0 14 rfl)
theorem dX6_init_30 : decode cX6_init 30 = .ok (.invokespecial 20, 3) := dk_183 0 20 (bs_at BX6_init_0 15 rfl) rfl
theorem dX6_init_33 : decode cX6_init 33 = .ok (.putfield 23, 3) := dk_181 0 23 (bs_at BX6_init_0 16 rfl) rfl
theorem dX6_init_36 : decode cX6_init 36 = .ok (.aload_n 0, 1) := dk_42 (bs_at BX6_init_0 17 rfl)
theorem dX6_init_37 : decode cX6_init 37 = .ok (.iconst 1, 1) := dk_4 (bs_at BX6_init_0 18 rfl)
theorem dX6_init_38 : decode cX6_init 38 = .ok (.putfield 27, 3) := dk_181 0 27 (bs_at BX6_init_0 19 rfl) rfl
theorem dX6_init_41 : decode cX6_init 41 = .ok (.aload_n 0, 1) := dk_42 (bs_at BX6_init_0 20 rfl)
theorem dX6_init_42 : decode cX6_init 42 = .ok (.iconst 0, 1) := dk_3 (bs_at BX6_init_0 21 rfl)
theorem dX6_init_43 : decode cX6_init 43 = .ok (.putfield 31, 3) := dk_181 0 31 (bs_at BX6_init_0 22 rfl) rfl
theorem dX6_init_46 : decode cX6_init 46 = .ok (.aload_n 0, 1) := dk_42 (bs_at BX6_init_0 23 rfl)
theorem BX6_init_47 : bsegs (ByteArray.data cX6_init |>.toList.drop 47) 47 [(47, [2]), (48, [181, 0, 35]), (51, [177])] = true := by decide +kernel
theorem dX6_init_47 : decode cX6_init 47 = .ok (.iconst (-1), 1) := dk_2 (bs_at BX6_init_47 0 rfl)
theorem dX6_init_48 : decode cX6_init 48 = .ok (.putfield 35, 3) := dk_181 0 35 (bs_at BX6_init_47 1 rfl) rfl
theorem dX6_init_51 : decode cX6_init 51 = .ok (.return_, 1) := dk_177 (bs_at BX6_init_47 2 rfl)
theorem BX1_init_0 : bsegs (ByteArray.data cX1_init |>.toList.drop 0) 0 [(0, [42]), (1, [183, 0, 5]), (4, [42]), (5, [187, 0, 11]), (8, [89]), (9, [183, 0, 13]), (12, [181, 0, 14]), (15, [42]), (16, [187, 0, 18]), (19, [89]), (20, [183, 0, 20]), (23, [181, 0, 21]), (26, [42]), (27, [16, 28]), (29, [188, 10]), (31, [181, 0, 25]), (34, [42]), (35, [187, 0, 29]), (38, [89]), (39, [183, 0, 31]), (42, [181, 0, 32]), (45, [42]), (46, [187, 0, 36]), (49, [89])] = true := by decide +kernel
theorem dX1_init_0 : decode cX1_init 0 = .ok (.aload_n 0, 1) := dk_42 (bs_at BX1_init_0 0 rfl)
theorem dX1_init_1 : decode cX1_init 1 = .ok (.invokespecial 5, 3) := dk_183 0 5 (bs_at BX1_init_0 1 rfl) rfl
theorem dX1_init_4 : decode cX1_init 4 = .ok (.aload_n 0, 1) := dk_42 (bs_at BX1_init_0 2 rfl)
theorem dX1_init_5 : decode cX1_init 5 = .ok (.new 11, 3) := dk_187 0 11 (bs_at BX1_init_0 3 rfl) rfl
theorem dX1_init_8 : decode cX1_init 8 = .ok (.dup, 1) := dk_89 (bs_at BX1_init_0 4 rfl)
theorem dX1_init_9 : decode cX1_init 9 = .ok (.invokespecial 13, 3) := dk_183 0 13 (bs_at BX1_init_0 5 rfl) rfl
theorem dX1_init_12 : decode cX1_init 12 = .ok (.putfield 14, 3) := dk_181 0 14 (bs_at BX1_init_0 6 rfl) rfl
theorem dX1_init_15 : decode cX1_init 15 = .ok (.aload_n 0, 1) := dk_42 (bs_at BX1_init_0 7 rfl)
theorem dX1_init_16 : decode cX1_init 16 = .ok (.new 18, 3) := dk_187 0 18 (bs_at BX1_init_0 8 rfl) rfl
theorem dX1_init_19 : decode cX1_init 19 = .ok (.dup, 1) := dk_89 (bs_at BX1_init_0 9 rfl)
theorem dX1_init_20 : decode cX1_init 20 = .ok (.invokespecial 20, 3) := dk_183 0 20 (bs_at BX1_init_0 10 rfl) rfl
theorem dX1_init_23 : decode cX1_init 23 = .ok (.putfield 21, 3) := dk_181 0 21 (bs_at BX1_init_0 11 rfl) rfl
theorem dX1_init_26 : decode cX1_init 26 = .ok (.aload_n 0, 1) := dk_42 (bs_at BX1_init_0 12 rfl)
theorem dX1_init_27 : decode cX1_init 27 = .ok (.bipush 28, 2) := dk_16 28 (bs_at BX1_init_0 13 rfl) rfl
theorem dX1_init_29 : decode cX1_init 29 = .ok (.newarray .int, 2) := dk_188_10 (bs_at BX1_init_0 14 rfl)
theorem dX1_init_31 : decode cX1_init 31 = .ok (.putfield 25, 3) := dk_181 0 25 (bs_at BX1_init_0 15 rfl) rfl
theorem dX1_init_34 : decode cX1_init 34 = .ok (.aload_n 0, 1) := dk_42 (bs_at BX1_init_0 16 rfl)
theorem dX1_init_35 : decode cX1_init 35 = .ok (.new 29, 3) := dk_187 0 29 (bs_at BX1_init_0 17 rfl) rfl
theorem dX1_init_38 : decode cX1_init 38 = .ok (.dup, 1) := dk_89 (bs_at BX1_init_0 18 rfl)
theorem dX1_init_39 : decode cX1_init 39 = .ok (.invokespecial 31, 3) := dk_183 0 31 (bs_at BX1_init_0 19 rfl) rfl
theorem dX1_init_42 : decode cX1_init 42 = .ok (.putfield 32, 3) := dk_181 0 32 (bs_at BX1_init_0 20 rfl) rfl
theorem dX1_init_45 : decode cX1_init 45 = .ok (.aload_n 0, 1) := dk_42 (bs_at BX1_init_0 21 rfl)
theorem dX1_init_46 : decode cX1_init 46 = .ok (.new 36, 3) := dk_187 0 36 (bs_at BX1_init_0 22 rfl) rfl
theorem dX1_init_49 : decode cX1_init 49 = .ok (.dup, 1) := dk_89 (bs_at BX1_init_0 23 rfl)
theorem BX1_init_50 : bsegs (ByteArray.data cX1_init |>.toList.drop 50) 50 [(50, [183, 0, 38]), (53, [181, 0, 39]), (56, [42]), (57, [3]), (58, [181, 0, 43]), (61, [42]), (62, [2]), (63, [181, 0, 47]), (66, [42]), (67, [2]), (68, [181, 0, 50]), (71, [177])] = true := by decide +kernel
theorem dX1_init_50 : decode cX1_init 50 = .ok (.invokespecial 38, 3) := dk_183 0 38 (bs_at BX1_init_50 0 rfl) rfl
theorem dX1_init_53 : decode cX1_init 53 = .ok (.putfield 39, 3) := dk_181 0 39 (bs_at BX1_init_50 1 rfl) rfl
theorem dX1_init_56 : decode cX1_init 56 = .ok (.aload_n 0, 1) := dk_42 (bs_at BX1_init_50 2 rfl)
theorem dX1_init_57 : decode cX1_init 57 = .ok (.iconst 0, 1) := dk_3 (bs_at BX1_init_50 3 rfl)
theorem dX1_init_58 : decode cX1_init 58 = .ok (.putfield 43, 3) := dk_181 0 43 (bs_at BX1_init_50 4 rfl) rfl
theorem dX1_init_61 : decode cX1_init 61 = .ok (.aload_n 0, 1) := dk_42 (bs_at BX1_init_50 5 rfl)
theorem dX1_init_62 : decode cX1_init 62 = .ok (.iconst (-1), 1) := dk_2 (bs_at BX1_init_50 6 rfl)
theorem dX1_init_63 : decode cX1_init 63 = .ok (.putfield 47, 3) := dk_181 0 47 (bs_at BX1_init_50 7 rfl) rfl
theorem dX1_init_66 : decode cX1_init 66 = .ok (.aload_n 0, 1) := dk_42 (bs_at BX1_init_50 8 rfl)
theorem dX1_init_67 : decode cX1_init 67 = .ok (.iconst (-1), 1) := dk_2 (bs_at BX1_init_50 9 rfl)
theorem dX1_init_68 : decode cX1_init 68 = .ok (.putfield 50, 3) := dk_181 0 50 (bs_at BX1_init_50 10 rfl) rfl
theorem dX1_init_71 : decode cX1_init 71 = .ok (.return_, 1) := dk_177 (bs_at BX1_init_50 11 rfl)
theorem BX5_init_0 : bsegs (ByteArray.data cX5_init |>.toList.drop 0) 0 [(0, [42]), (1, [183, 0, 3]), (4, [42]), (5, [187, 0, 9]), (8, [89]), (9, [183, 0, 11]), (12, [181, 0, 12]), (15, [42]), (16, [16, 21]), (18, [188, 10]), (20, [181, 0, 18]), (23, [42]), (24, [16, 21]), (26, [188, 10]), (28, [181, 0, 22]), (31, [42]), (32, [17, 1, 17]), (35, [188, 10]), (37, [181, 0, 25]), (40, [42]), (41, [17, 0, 252]), (44, [188, 10]), (46, [181, 0, 28]), (49, [42])] = true := by decide +kernel
theorem dX5_init_0 : decode cX5_init 0 = .ok (.aload_n 0, 1) := dk_42 (bs_at BX5_init_0 0 rfl)
theorem dX5_init_1 : decode cX5_init 1 = .ok (.invokespecial 3, 3) := dk_183 0 3 (bs_at BX5_init_0 1 rfl) rfl
theorem dX5_init_4 : decode cX5_init 4 = .ok (.aload_n 0, 1) := dk_42 (bs_at BX5_init_0 2 rfl)
theorem dX5_init_5 : decode cX5_init 5 = .ok (.new 9, 3) := dk_187 0 9 (bs_at BX5_init_0 3 rfl) rfl
theorem dX5_init_8 : decode cX5_init 8 = .ok (.dup, 1) := dk_89 (bs_at BX5_init_0 4 rfl)
theorem dX5_init_9 : decode cX5_init 9 = .ok (.invokespecial 11, 3) := dk_183 0 11 (bs_at BX5_init_0 5 rfl) rfl
theorem dX5_init_12 : decode cX5_init 12 = .ok (.putfield 12, 3) := dk_181 0 12 (bs_at BX5_init_0 6 rfl) rfl
theorem dX5_init_15 : decode cX5_init 15 = .ok (.aload_n 0, 1) := dk_42 (bs_at BX5_init_0 7 rfl)
theorem dX5_init_16 : decode cX5_init 16 = .ok (.bipush 21, 2) := dk_16 21 (bs_at BX5_init_0 8 rfl) rfl
theorem dX5_init_18 : decode cX5_init 18 = .ok (.newarray .int, 2) := dk_188_10 (bs_at BX5_init_0 9 rfl)
theorem dX5_init_20 : decode cX5_init 20 = .ok (.putfield 18, 3) := dk_181 0 18 (bs_at BX5_init_0 10 rfl) rfl
theorem dX5_init_23 : decode cX5_init 23 = .ok (.aload_n 0, 1) := dk_42 (bs_at BX5_init_0 11 rfl)
theorem dX5_init_24 : decode cX5_init 24 = .ok (.bipush 21, 2) := dk_16 21 (bs_at BX5_init_0 12 rfl) rfl
theorem dX5_init_26 : decode cX5_init 26 = .ok (.newarray .int, 2) := dk_188_10 (bs_at BX5_init_0 13 rfl)
theorem dX5_init_28 : decode cX5_init 28 = .ok (.putfield 22, 3) := dk_181 0 22 (bs_at BX5_init_0 14 rfl) rfl
theorem dX5_init_31 : decode cX5_init 31 = .ok (.aload_n 0, 1) := dk_42 (bs_at BX5_init_0 15 rfl)
theorem dX5_init_32 : decode cX5_init 32 = .ok (.sipush 273, 3) := dk_17 1 17 (bs_at BX5_init_0 16 rfl) rfl
theorem dX5_init_35 : decode cX5_init 35 = .ok (.newarray .int, 2) := dk_188_10 (bs_at BX5_init_0 17 rfl)
theorem dX5_init_37 : decode cX5_init 37 = .ok (.putfield 25, 3) := dk_181 0 25 (bs_at BX5_init_0 18 rfl) rfl
theorem dX5_init_40 : decode cX5_init 40 = .ok (.aload_n 0, 1) := dk_42 (bs_at BX5_init_0 19 rfl)
theorem dX5_init_41 : decode cX5_init 41 = .ok (.sipush 252, 3) := dk_17 0 252 (bs_at BX5_init_0 20 rfl) rfl
theorem dX5_init_44 : decode cX5_init 44 = .ok (.newarray .int, 2) := dk_188_10 (bs_at BX5_init_0 21 rfl)
theorem dX5_init_46 : decode cX5_init 46 = .ok (.putfield 28, 3) := dk_181 0 28 (bs_at BX5_init_0 22 rfl) rfl
theorem dX5_init_49 : decode cX5_init 49 = .ok (.aload_n 0, 1) := dk_42 (bs_at BX5_init_0 23 rfl)
theorem BX5_init_50 : bsegs (ByteArray.data cX5_init |>.toList.drop 50) 50 [(50, [17, 0, 252]), (53, [188, 10]), (55, [181, 0, 31]), (58, [177])] = true := by decide +kernel
theorem dX5_init_50 : decode cX5_init 50 = .ok (.sipush 252, 3) := dk_17 0 252 (bs_at BX5_init_50 0 rfl) rfl
theorem dX5_init_53 : decode cX5_init 53 = .ok (.newarray .int, 2) := dk_188_10 (bs_at BX5_init_50 1 rfl)
theorem dX5_init_55 : decode cX5_init 55 = .ok (.putfield 31, 3) := dk_181 0 31 (bs_at BX5_init_50 2 rfl) rfl
theorem dX5_init_58 : decode cX5_init 58 = .ok (.return_, 1) := dk_177 (bs_at BX5_init_50 3 rfl)
theorem BX4_init_0 : bsegs (ByteArray.data cX4_init |>.toList.drop 0) 0 [(0, [42]), (1, [183, 0, 3]), (4, [42]), (5, [16, 8]), (7, [188, 10]), (9, [181, 0, 9]), (12, [42]), (13, [16, 8]), (15, [188, 10]), (17, [181, 0, 15]), (20, [42]), (21, [16, 8]), (23, [188, 10]), (25, [181, 0, 18]), (28, [42]), (29, [16, 8]), (31, [188, 10]), (33, [181, 0, 21]), (36, [42]), (37, [17, 1, 0]), (40, [188, 10]), (42, [181, 0, 24]), (45, [177])] = true := by decide +kernel
theorem dX4_init_0 : decode cX4_init 0 = .ok (.aload_n 0, 1) := dk_42 (bs_at BX4_init_0 0 rfl)
theorem dX4_init_1 : decode cX4_init 1 = .ok (.invokespecial 3, 3) := dk_183 0 3 (bs_at BX4_init_0 1 rfl) rfl
theorem dX4_init_4 : decode cX4_init 4 = .ok (.aload_n 0, 1) := dk_42 (bs_at BX4_init_0 2 rfl)
theorem dX4_init_5 : decode cX4_init 5 = .ok (.bipush 8, 2) := dk_16 8 (bs_at BX4_init_0 3 rfl) rfl
theorem dX4_init_7 : decode cX4_init 7 = .ok (.newarray .int, 2) := dk_188_10 (bs_at BX4_init_0 4 rfl)
theorem dX4_init_9 : decode cX4_init 9 = .ok (.putfield 9, 3) := dk_181 0 9 (bs_at BX4_init_0 5 rfl) rfl
theorem dX4_init_12 : decode cX4_init 12 = .ok (.aload_n 0, 1) := dk_42 (bs_at BX4_init_0 6 rfl)
theorem dX4_init_13 : decode cX4_init 13 = .ok (.bipush 8, 2) := dk_16 8 (bs_at BX4_init_0 7 rfl) rfl
theorem dX4_init_15 : decode cX4_init 15 = .ok (.newarray .int, 2) := dk_188_10 (bs_at BX4_init_0 8 rfl)
theorem dX4_init_17 : decode cX4_init 17 = .ok (.putfield 15, 3) := dk_181 0 15 (bs_at BX4_init_0 9 rfl) rfl
theorem dX4_init_20 : decode cX4_init 20 = .ok (.aload_n 0, 1) := dk_42 (bs_at BX4_init_0 10 rfl)
theorem dX4_init_21 : decode cX4_init 21 = .ok (.bipush 8, 2) := dk_16 8 (bs_at BX4_init_0 11 rfl) rfl
theorem dX4_init_23 : decode cX4_init 23 = .ok (.newarray .int, 2) := dk_188_10 (bs_at BX4_init_0 12 rfl)
theorem dX4_init_25 : decode cX4_init 25 = .ok (.putfield 18, 3) := dk_181 0 18 (bs_at BX4_init_0 13 rfl) rfl
theorem dX4_init_28 : decode cX4_init 28 = .ok (.aload_n 0, 1) := dk_42 (bs_at BX4_init_0 14 rfl)
theorem dX4_init_29 : decode cX4_init 29 = .ok (.bipush 8, 2) := dk_16 8 (bs_at BX4_init_0 15 rfl) rfl
theorem dX4_init_31 : decode cX4_init 31 = .ok (.newarray .int, 2) := dk_188_10 (bs_at BX4_init_0 16 rfl)
theorem dX4_init_33 : decode cX4_init 33 = .ok (.putfield 21, 3) := dk_181 0 21 (bs_at BX4_init_0 17 rfl) rfl
theorem dX4_init_36 : decode cX4_init 36 = .ok (.aload_n 0, 1) := dk_42 (bs_at BX4_init_0 18 rfl)
theorem dX4_init_37 : decode cX4_init 37 = .ok (.sipush 256, 3) := dk_17 1 0 (bs_at BX4_init_0 19 rfl) rfl
theorem dX4_init_40 : decode cX4_init 40 = .ok (.newarray .int, 2) := dk_188_10 (bs_at BX4_init_0 20 rfl)
theorem dX4_init_42 : decode cX4_init 42 = .ok (.putfield 24, 3) := dk_181 0 24 (bs_at BX4_init_0 21 rfl) rfl
theorem dX4_init_45 : decode cX4_init 45 = .ok (.return_, 1) := dk_177 (bs_at BX4_init_0 22 rfl)
theorem ggX0_init_X3_init : GoodIn wsX0_init wsX3_init := gi_ch ch_X0_init ch_X3_init (by decide +kernel)
set_option maxRecDepth 20000 in
theorem gX0_init_X3_init_n11 : GoodIn wsX0_init (wsX3_init) := ggX0_init_X3_init
theorem ggX10_init_X0_init : GoodIn wsX10_init wsX0_init := gi_ch ch_X10_init ch_X0_init (by decide +kernel)
set_option maxRecDepth 20000 in
theorem gX10_init_X0_init_n11 : GoodIn wsX10_init (wsX0_init) := ggX10_init_X0_init
theorem ggX6_init_X8_init : GoodIn wsX6_init wsX8_init := gi_ch ch_X6_init ch_X8_init (by decide +kernel)
set_option maxRecDepth 20000 in
theorem gX6_init_X8_init_n11 : GoodIn wsX6_init (wsX8_init) := ggX6_init_X8_init
theorem ggX6_init_X7_init : GoodIn wsX6_init wsX7_init := gi_ch ch_X6_init ch_X7_init (by decide +kernel)
set_option maxRecDepth 20000 in
theorem gX6_init_X7_init_n20 : GoodIn wsX6_init (wsX7_init) := ggX6_init_X7_init
theorem ggX1_init_X10_init : GoodIn wsX1_init wsX10_init := gi_ch ch_X1_init ch_X10_init (by decide +kernel)
set_option maxRecDepth 20000 in
theorem gX1_init_X10_init_n13 : GoodIn wsX1_init (wsX10_init) := ggX1_init_X10_init
theorem ggX1_init_X3_init : GoodIn wsX1_init wsX3_init := gi_ch ch_X1_init ch_X3_init (by decide +kernel)
set_option maxRecDepth 20000 in
theorem gX1_init_X3_init_n20 : GoodIn wsX1_init (wsX3_init) := ggX1_init_X3_init
theorem ggX1_init_X9_init : GoodIn wsX1_init wsX9_init := gi_ch ch_X1_init ch_X9_init (by decide +kernel)
set_option maxRecDepth 20000 in
theorem gX1_init_X9_init_n31 : GoodIn wsX1_init (wsX9_init) := ggX1_init_X9_init
theorem ggX1_init_X2_init : GoodIn wsX1_init wsX2_init := gi_ch ch_X1_init ch_X2_init (by decide +kernel)
set_option maxRecDepth 20000 in
theorem gX1_init_X2_init_n38 : GoodIn wsX1_init (wsX2_init) := ggX1_init_X2_init
theorem ggX5_init_X0_init : GoodIn wsX5_init wsX0_init := gi_ch ch_X5_init ch_X0_init (by decide +kernel)
set_option maxRecDepth 20000 in
theorem gX5_init_X0_init_n11 : GoodIn wsX5_init (wsX0_init) := ggX5_init_X0_init
set_option maxHeartbeats 4000000 in
set_option maxRecDepth 100000 in
theorem n_X3 (l : Launch) (D : va_G) (K : Nat → ClassId) (a0 : Nat) (sz : Nat) : Met l yX3_init wsX3_init ({ frames := 1, cells := 1, slots := 64, locals := 12 }) (va_Pc [.ref a0] (Pre D K [(cc_O a0 3 [.null, .int 0])] sz)) (va_Qv (S := (Nat → Nat) × (Nat → Nat → Int32) × (Nat → Nat → Int64) × (Nat → Int32)) (fun _ => True) (fun u t => Wd D (va_A [(cc_O a0 3 [.null, .int 0])] sz) ((fun u => [(cc_O a0 3 [.ref (u.1 0), .int 0]), ((u.1 0), .inl (K 0, 64, .inl (fun _ => 0)))]) u) t) (va_A [(cc_O a0 3 [.null, .int 0])] sz)) 1 64 (va_A [(cc_O a0 3 [.null, .int 0])] sz) := by
  refine Met.ofW (cc := cX3_init) (maxL := 1) (ret := none) (by decide +kernel) rfl ?_
  intro p e s m args below meth c s₁ B hml hv
  obtain ⟨rfl, hsz, hP, hK, hD0, hN⟩ := hv
  have hx := B.exec
  have hb := B.bytes
  have hr := B.returns
  have hts := atoms_spec (ws := wsX3_init) B.pre
  have hown : s.vm.findClass RX3 = some m.cls := findClass_of_methodNamed B.named
  have hlocks := B.notSynchronized
  have hin : meth.name = "<init>" := (name_of_methodNamed B.named B.method).1
  subst hsz
  have hD := hD0.self (sz := s.heap.size)
  generalize hAe : va_A [(cc_O a0 3 [.null, .int 0])] s.heap.size = A at hD ⊢
  have hA : ∀ q : Nat, s.heap.size ≤ q → A q := fun q h => by rw [← hAe]; exact Or.inr h
  clear hAe
  have hS : va_S A s.heap s.heap [] := va_S.rf
  replace hP : va_P D vwCl [(cc_O a0 3 [.null, .int 0])] s.heap := hP
  have hl := lv_entry [.ref a0] (n := 1) (Nat.le_of_ble_eq_true rfl)
  rw [lg_entry_eq]
  generalize (lg_sl [.ref a0] ++ List.replicate (1 - (lg_sl [.ref a0]).length) Slot.unset).toArray = ls at hl ⊢
  have hl : lv_has ls 1 [(0, .ref a0)] := hl
  have hw3 : ∀ w ∈ wsX30, w ∈ wsX3_init := fun w h => (List.mem_cons_of_mem _ (List.mem_append_right _ h))
  refine lv_aload_n hx hb dX3_init_0 rfl (lv_at hl 0 rfl) ?_
  refine W.objInit hx hb hown (hts _ mm_X3_init_260) (hts _ mm_X3_init_166) (hts _ (List.mem_cons_of_mem _ (List.mem_append_left _ (List.mem_of_getElem? (i := 2) rfl)))) rfl (by rw [hml]; exact hl.1) rfl dX3_init_1 (Nat.le_of_ble_eq_true rfl) (Nat.le_of_ble_eq_true rfl) ?_
  refine W.eq (g2 := F0 m 4 ls []) rfl ?_
  refine lv_aload_n hx hb dX3_init_4 rfl (lv_at hl 0 rfl) (lv_bipush (v := 64) hx hb dX3_init_5 (by decide +kernel) ?_)
  refine k_newa (atype := .int) (ty := .int) (cA := K 0) (a0 := (64, .inl (fun _ => 0))) (N' := 64) hx hb (hts _ mm_X3_init_194) rfl hK 0 rfl hP hD hS hA (fun _ => rfl) (by decide +kernel) (by decide +kernel) (by decide +kernel) (Nat.le_of_ble_eq_true rfl) (Nat.le_of_ble_eq_true rfl) dX3_init_7 (fun q_1 H hP0 hD0 hS0 => ?_)
  replace hP : va_P D vwCl [(cc_O a0 3 [.null, .int 0]), (cc_l q_1 (K 0) 64 (fun _ => 0))] H := hP0
  replace hD := as_D hP hD0 rfl
  replace hS := hS0
  clear hP0 hD0 hS0
  refine W.widen (k := 1) (n := 64) (by omega) (by omega) ?_
  refine va_putF (ci := 3) (v := .ref q_1) (ty := .array .int) (C := RX3) (T := TX3) (N := 2) hx hb hts hw3 tyX3 tyX3_ok nmX3 hown hK hP hD hS 0 rfl rfl 0 (by decide +kernel) (hts _ mm_X3_init_261) (fun _ h9 => h9) rfl hin rfl (by decide +kernel) (by first | rfl | decide) (by first | rfl | decide) (Nat.le_of_ble_eq_true rfl) dX3_init_9 (fun H locs hP0 hD0 hS0 => ?_)
  replace hP : va_P D vwCl [(cc_O a0 3 [.ref q_1, .int 0]), (cc_l q_1 (K 0) 64 (fun _ => 0))] H := hP0
  replace hD := as_D hP hD0 rfl
  replace hS := hS0
  clear hP0 hD0 hS0
  refine lv_aload_n hx hb dX3_init_12 rfl (lv_at hl 0 rfl) (lv_iconst (v := 0) hx hb dX3_init_13 (by decide +kernel) (va_put (ci := 3) (v := .int 0) (ty := .boolean) (C := RX3) (T := TX3) (N := 2) hx hb hts hw3 tyX3 tyX3_ok nmX3 hown hK hP hD hS 0 rfl rfl 1 (by decide +kernel) (hts _ mm_X3_init_262) (fun _ h9 => h9) rfl (by decide +kernel) (by first | rfl | decide) (by first | rfl | decide) (Nat.le_of_ble_eq_true rfl) dX3_init_14 (fun H locs hP0 hD0 hS0 => ?_)))
  replace hP : va_P D vwCl [(cc_O a0 3 [.ref q_1, .int 0]), (cc_l q_1 (K 0) 64 (fun _ => 0))] H := hP0
  replace hD := as_D hP hD0 rfl
  replace hS := hS0
  clear hP0 hD0 hS0
  have hP9 := hP.sub (ws' := [(cc_O a0 3 [.ref q_1, .int 0]), (cc_l q_1 (K 0) 64 (fun _ => 0))]) [0, 1] rfl
  have hD9 := sub_D hP9 hD [0, 1] (by decide +kernel) rfl
  exact W.vret hx hb hr (fun t ht hW => ⟨⟨(fun i => match i with | _ => q_1, fun _ => fun _ => 0, fun _ => fun _ => 0, fun _ => 0), rfl, trivial, (⟨by rw [ht]; exact hP9, hD9⟩ : Wd D A _ t)⟩, hS.F ht⟩) hS.2.2 dX3_init_17
set_option maxHeartbeats 4000000 in
set_option maxRecDepth 100000 in
theorem n_X0 (l : Launch) (D : va_G) (K : Nat → ClassId) (a0 : Nat) (sz : Nat) : Met l yX0_init wsX0_init ({ frames := 2, cells := 3, slots := 75, locals := 32 }) (va_Pc [.ref a0] (Pre D K [(cc_O a0 0 [.null, .null])] sz)) (va_Qv (S := (Nat → Nat) × (Nat → Nat → Int32) × (Nat → Nat → Int64) × (Nat → Int32)) (fun _ => True) (fun u t => Wd D (va_A [(cc_O a0 0 [.null, .null])] sz) ((fun u => [(cc_O a0 0 [.ref (u.1 0), .ref (u.1 2)]), ((u.1 0), .inr (3, [.ref (u.1 1), .int 0])), ((u.1 1), .inl (K 0, 64, .inl (fun _ => 0))), ((u.1 2), .inl (K 0, 9, .inl (fun _ => 0)))]) u) t) (va_A [(cc_O a0 0 [.null, .null])] sz)) 3 75 (va_A [(cc_O a0 0 [.null, .null])] sz) := by
  refine Met.ofW (cc := cX0_init) (maxL := 1) (ret := none) (by decide +kernel) rfl ?_
  intro p e s m args below meth c s₁ B hml hv
  obtain ⟨rfl, hsz, hP, hK, hD0, hN⟩ := hv
  have hx := B.exec
  have hb := B.bytes
  have hr := B.returns
  have hts := atoms_spec (ws := wsX0_init) B.pre
  have hown : s.vm.findClass RX0 = some m.cls := findClass_of_methodNamed B.named
  have hlocks := B.notSynchronized
  have hin : meth.name = "<init>" := (name_of_methodNamed B.named B.method).1
  subst hsz
  have hD := hD0.self (sz := s.heap.size)
  generalize hAe : va_A [(cc_O a0 0 [.null, .null])] s.heap.size = A at hD ⊢
  have hA : ∀ q : Nat, s.heap.size ≤ q → A q := fun q h => by rw [← hAe]; exact Or.inr h
  clear hAe
  have hS : va_S A s.heap s.heap [] := va_S.rf
  replace hP : va_P D vwCl [(cc_O a0 0 [.null, .null])] s.heap := hP
  have hl := lv_entry [.ref a0] (n := 1) (Nat.le_of_ble_eq_true rfl)
  rw [lg_entry_eq]
  generalize (lg_sl [.ref a0] ++ List.replicate (1 - (lg_sl [.ref a0]).length) Slot.unset).toArray = ls at hl ⊢
  have hl : lv_has ls 1 [(0, .ref a0)] := hl
  have hw0 : ∀ w ∈ wsX00, w ∈ wsX0_init := fun w h => (List.mem_cons_of_mem _ (List.mem_append_right _ h))
  have hw3 : ∀ w ∈ wsX30, w ∈ wsX0_init := fun w h => (List.mem_cons_of_mem _ (List.mem_append_left _ (List.mem_append_right _ h)))
  refine lv_aload_n hx hb dX0_init_0 rfl (lv_at hl 0 rfl) ?_
  refine W.objInit hx hb hown (hts _ mm_X0_init_255) (hts _ mm_X0_init_166) (hts _ (List.mem_cons_of_mem _ (List.mem_append_left _ (List.mem_append_left _ (List.mem_of_getElem? (i := 2) rfl))))) rfl (by rw [hml]; exact hl.1) rfl dX0_init_1 (Nat.le_of_ble_eq_true rfl) (Nat.le_of_ble_eq_true rfl) ?_
  refine W.eq (g2 := F0 m 4 ls []) rfl ?_
  refine lv_aload_n hx hb dX0_init_4 rfl (lv_at hl 0 rfl) (va_new (ci := 3) (fs := [.null, .int 0]) (C := RX3) (T := TX3) (N := 2) hx hb hts hw3 tyX3 tyX3_ok hown (hts _ mm_X0_init_256) (hts _ mm_X0_init_257) (hts _ mm_X0_init_152) hK hP hD hS hA rfl dfv_X3 (Nat.le_of_ble_eq_true rfl) (Nat.le_of_ble_eq_true rfl) dX0_init_5 (fun q_1 H hP0 hD0 hS0 => ?_))
  replace hP : va_P D vwCl [(cc_O a0 0 [.null, .null]), (cc_O q_1 3 [.null, .int 0])] H := hP0
  replace hD := as_D hP hD0 rfl
  replace hS := hS0
  clear hP0 hD0 hS0
  refine W.widen (k := 1) (n := 2) (by omega) (by omega) ?_
  refine lv_dup hx hb dX0_init_8 rfl (kcv (wr := [(cc_O a0 0 [.null, .null])]) (va_runIN (As := []) (rest := [.ref q_1, .ref a0]) ⟨hx, hb, hml, hown, hts⟩ (n_X3 l D K q_1 H.size) ⟨va_cnB 0 hts gX0_init_X3_init_n11 rfl rfl rfl (nst_at hN 7 rfl) (hts _ mm_X0_init_152) (by decide +kernel) ⟨Nat.le_of_ble_eq_true rfl, Nat.le_of_ble_eq_true rfl⟩, rfl, (hts _ mm_X0_init_258)⟩ (mkS hK hN (hP.sub [1] rfl) (hD.sub [1] (by decide +kernel) rfl)) rfl rfl hl.1 rfl (lv_room (Nat.le_of_ble_eq_true rfl)) dX0_init_9 ⟨Nat.le_of_ble_eq_true rfl, Nat.le_of_ble_eq_true rfl⟩) hP hD hS hA [1] [0] rfl rfl (by decide +kernel) (by decide +kernel) (fun u_3 H locs hw hP0 hD0 hS0 => ?_))
  replace hP : va_P D vwCl [(cc_O a0 0 [.null, .null]), (cc_O q_1 3 [.ref (u_3.1 0), .int 0]), ((u_3.1 0), .inl (K 0, 64, .inl (fun _ => 0)))] H := hP0
  replace hD := as_D hP hD0 rfl
  replace hS := hS0
  clear hP0 hD0 hS0
  refine W.widen (k := 2) (n := 66) (by omega) (by omega) ?_
  refine va_putF (ci := 0) (v := .ref q_1) (ty := .object "SmokeTune$Machine") (C := RX0) (T := TX0) (N := 2) hx hb hts hw0 tyX0 tyX0_ok nmX0 hown hK hP hD hS 0 rfl rfl 0 (by decide +kernel) (hts _ mm_X0_init_265) (fun _ h9 => h9) rfl hin rfl (by decide +kernel) (by first | rfl | decide) (by first | rfl | decide) (Nat.le_of_ble_eq_true rfl) dX0_init_12 (fun H locs hP0 hD0 hS0 => ?_)
  replace hP : va_P D vwCl [(cc_O a0 0 [.ref q_1, .null]), (cc_O q_1 3 [.ref (u_3.1 0), .int 0]), ((u_3.1 0), .inl (K 0, 64, .inl (fun _ => 0)))] H := hP0
  replace hD := as_D hP hD0 rfl
  replace hS := hS0
  clear hP0 hD0 hS0
  refine lv_aload_n hx hb dX0_init_15 rfl (lv_at hl 0 rfl) (lv_bipush (v := 9) hx hb dX0_init_16 (by decide +kernel) ?_)
  refine k_newa (atype := .int) (ty := .int) (cA := K 0) (a0 := (9, .inl (fun _ => 0))) (N' := 9) hx hb (hts _ mm_X0_init_194) rfl hK 0 rfl hP hD hS hA (fun _ => rfl) (by decide +kernel) (by decide +kernel) (by decide +kernel) (Nat.le_of_ble_eq_true rfl) (Nat.le_of_ble_eq_true rfl) dX0_init_18 (fun q_4 H hP0 hD0 hS0 => ?_)
  replace hP : va_P D vwCl [(cc_O a0 0 [.ref q_1, .null]), (cc_O q_1 3 [.ref (u_3.1 0), .int 0]), ((u_3.1 0), .inl (K 0, 64, .inl (fun _ => 0))), (cc_l q_4 (K 0) 9 (fun _ => 0))] H := hP0
  replace hD := as_D hP hD0 rfl
  replace hS := hS0
  clear hP0 hD0 hS0
  refine W.widen (k := 3) (n := 75) (by omega) (by omega) ?_
  refine va_putF (ci := 0) (v := .ref q_4) (ty := .array .int) (C := RX0) (T := TX0) (N := 2) hx hb hts hw0 tyX0 tyX0_ok nmX0 hown hK hP hD hS 0 rfl rfl 1 (by decide +kernel) (hts _ mm_X0_init_266) (fun _ h9 => h9) rfl hin rfl (by decide +kernel) (by first | rfl | decide) (by first | rfl | decide) (Nat.le_of_ble_eq_true rfl) dX0_init_20 (fun H locs hP0 hD0 hS0 => ?_)
  replace hP : va_P D vwCl [(cc_O a0 0 [.ref q_1, .ref q_4]), (cc_O q_1 3 [.ref (u_3.1 0), .int 0]), ((u_3.1 0), .inl (K 0, 64, .inl (fun _ => 0))), (cc_l q_4 (K 0) 9 (fun _ => 0))] H := hP0
  replace hD := as_D hP hD0 rfl
  replace hS := hS0
  clear hP0 hD0 hS0
  have hP9 := hP.sub (ws' := [(cc_O a0 0 [.ref q_1, .ref q_4]), (cc_O q_1 3 [.ref (u_3.1 0), .int 0]), ((u_3.1 0), .inl (K 0, 64, .inl (fun _ => 0))), (cc_l q_4 (K 0) 9 (fun _ => 0))]) [0, 1, 2, 3] rfl
  have hD9 := sub_D hP9 hD [0, 1, 2, 3] (by decide +kernel) rfl
  exact W.vret hx hb hr (fun t ht hW => ⟨⟨(fun i => match i with | 0 => q_1 | 1 => (u_3.1 0) | _ => q_4, fun _ => fun _ => 0, fun _ => fun _ => 0, fun _ => 0), rfl, trivial, (⟨by rw [ht]; exact hP9, hD9⟩ : Wd D A _ t)⟩, hS.F ht⟩) hS.2.2 dX0_init_23
set_option maxHeartbeats 4000000 in
set_option maxRecDepth 100000 in
theorem n_X10 (l : Launch) (D : va_G) (K : Nat → ClassId) (a0 : Nat) (sz : Nat) : Met l yX10_init wsX10_init ({ frames := 3, cells := 4, slots := 77, locals := 52 }) (va_Pc [.ref a0] (Pre D K [(cc_O a0 10 [.null])] sz)) (va_Qv (S := (Nat → Nat) × (Nat → Nat → Int32) × (Nat → Nat → Int64) × (Nat → Int32)) (fun _ => True) (fun u t => Wd D (va_A [(cc_O a0 10 [.null])] sz) ((fun u => [(cc_O a0 10 [.ref (u.1 0)]), ((u.1 0), .inr (0, [.ref (u.1 1), .ref (u.1 3)])), ((u.1 1), .inr (3, [.ref (u.1 2), .int 0])), ((u.1 2), .inl (K 0, 64, .inl (fun _ => 0))), ((u.1 3), .inl (K 0, 9, .inl (fun _ => 0)))]) u) t) (va_A [(cc_O a0 10 [.null])] sz)) 4 77 (va_A [(cc_O a0 10 [.null])] sz) := by
  refine Met.ofW (cc := cX10_init) (maxL := 1) (ret := none) (by decide +kernel) rfl ?_
  intro p e s m args below meth c s₁ B hml hv
  obtain ⟨rfl, hsz, hP, hK, hD0, hN⟩ := hv
  have hx := B.exec
  have hb := B.bytes
  have hr := B.returns
  have hts := atoms_spec (ws := wsX10_init) B.pre
  have hown : s.vm.findClass RX10 = some m.cls := findClass_of_methodNamed B.named
  have hlocks := B.notSynchronized
  have hin : meth.name = "<init>" := (name_of_methodNamed B.named B.method).1
  subst hsz
  have hD := hD0.self (sz := s.heap.size)
  generalize hAe : va_A [(cc_O a0 10 [.null])] s.heap.size = A at hD ⊢
  have hA : ∀ q : Nat, s.heap.size ≤ q → A q := fun q h => by rw [← hAe]; exact Or.inr h
  clear hAe
  have hS : va_S A s.heap s.heap [] := va_S.rf
  replace hP : va_P D vwCl [(cc_O a0 10 [.null])] s.heap := hP
  have hl := lv_entry [.ref a0] (n := 1) (Nat.le_of_ble_eq_true rfl)
  rw [lg_entry_eq]
  generalize (lg_sl [.ref a0] ++ List.replicate (1 - (lg_sl [.ref a0]).length) Slot.unset).toArray = ls at hl ⊢
  have hl : lv_has ls 1 [(0, .ref a0)] := hl
  have hw0 : ∀ w ∈ wsX00, w ∈ wsX10_init := fun w h => (List.mem_cons_of_mem _ (List.mem_append_left _ (List.mem_append_left _ (List.mem_append_right _ h))))
  have hw3 : ∀ w ∈ wsX30, w ∈ wsX10_init := fun w h => (List.mem_cons_of_mem _ (List.mem_append_right _ h))
  have hw10 : ∀ w ∈ wsX100, w ∈ wsX10_init := fun w h => (List.mem_cons_of_mem _ (List.mem_append_left _ (List.mem_append_right _ h)))
  refine lv_aload_n hx hb dX10_init_0 rfl (lv_at hl 0 rfl) ?_
  refine W.objInit hx hb hown (hts _ mm_X10_init_250) (hts _ mm_X10_init_166) (hts _ (List.mem_cons_of_mem _ (List.mem_append_left _ (List.mem_append_left _ (List.mem_append_left _ (List.mem_of_getElem? (i := 2) rfl)))))) rfl (by rw [hml]; exact hl.1) rfl dX10_init_1 (Nat.le_of_ble_eq_true rfl) (Nat.le_of_ble_eq_true rfl) ?_
  refine W.eq (g2 := F0 m 4 ls []) rfl ?_
  refine lv_aload_n hx hb dX10_init_4 rfl (lv_at hl 0 rfl) (va_new (ci := 0) (fs := [.null, .null]) (C := RX0) (T := TX0) (N := 2) hx hb hts hw0 tyX0 tyX0_ok hown (hts _ mm_X10_init_251) (hts _ mm_X10_init_252) (hts _ mm_X10_init_151) hK hP hD hS hA rfl dfv_X0 (Nat.le_of_ble_eq_true rfl) (Nat.le_of_ble_eq_true rfl) dX10_init_5 (fun q_1 H hP0 hD0 hS0 => ?_))
  replace hP : va_P D vwCl [(cc_O a0 10 [.null]), (cc_O q_1 0 [.null, .null])] H := hP0
  replace hD := as_D hP hD0 rfl
  replace hS := hS0
  clear hP0 hD0 hS0
  refine W.widen (k := 1) (n := 2) (by omega) (by omega) ?_
  refine lv_dup hx hb dX10_init_8 rfl (kcv (wr := [(cc_O a0 10 [.null])]) (va_runIN (As := []) (rest := [.ref q_1, .ref a0]) ⟨hx, hb, hml, hown, hts⟩ (n_X0 l D K q_1 H.size) ⟨va_cnB 0 hts gX10_init_X0_init_n11 rfl rfl rfl (nst_at hN 6 rfl) (hts _ mm_X10_init_151) (by decide +kernel) ⟨Nat.le_of_ble_eq_true rfl, Nat.le_of_ble_eq_true rfl⟩, rfl, (hts _ mm_X10_init_253)⟩ (mkS hK hN (hP.sub [1] rfl) (hD.sub [1] (by decide +kernel) rfl)) rfl rfl hl.1 rfl (lv_room (Nat.le_of_ble_eq_true rfl)) dX10_init_9 ⟨Nat.le_of_ble_eq_true rfl, Nat.le_of_ble_eq_true rfl⟩) hP hD hS hA [1] [0] rfl rfl (by decide +kernel) (by decide +kernel) (fun u_3 H locs hw hP0 hD0 hS0 => ?_))
  replace hP : va_P D vwCl [(cc_O a0 10 [.null]), (cc_O q_1 0 [.ref (u_3.1 0), .ref (u_3.1 2)]), ((u_3.1 0), .inr (3, [.ref (u_3.1 1), .int 0])), ((u_3.1 1), .inl (K 0, 64, .inl (fun _ => 0))), ((u_3.1 2), .inl (K 0, 9, .inl (fun _ => 0)))] H := hP0
  replace hD := as_D hP hD0 rfl
  replace hS := hS0
  clear hP0 hD0 hS0
  refine W.widen (k := 4) (n := 77) (by omega) (by omega) ?_
  refine va_putF (ci := 10) (v := .ref q_1) (ty := .object "SmokeTune$Court") (C := RX10) (T := TX10) (N := 1) hx hb hts hw10 tyX10 tyX10_ok nmX10 hown hK hP hD hS 0 rfl rfl 0 (by decide +kernel) (hts _ mm_X10_init_269) (fun _ h9 => h9) rfl hin rfl (by decide +kernel) (by first | rfl | decide) (by first | rfl | decide) (Nat.le_of_ble_eq_true rfl) dX10_init_12 (fun H locs hP0 hD0 hS0 => ?_)
  replace hP : va_P D vwCl [(cc_O a0 10 [.ref q_1]), (cc_O q_1 0 [.ref (u_3.1 0), .ref (u_3.1 2)]), ((u_3.1 0), .inr (3, [.ref (u_3.1 1), .int 0])), ((u_3.1 1), .inl (K 0, 64, .inl (fun _ => 0))), ((u_3.1 2), .inl (K 0, 9, .inl (fun _ => 0)))] H := hP0
  replace hD := as_D hP hD0 rfl
  replace hS := hS0
  clear hP0 hD0 hS0
  have hP9 := hP.sub (ws' := [(cc_O a0 10 [.ref q_1]), (cc_O q_1 0 [.ref (u_3.1 0), .ref (u_3.1 2)]), ((u_3.1 0), .inr (3, [.ref (u_3.1 1), .int 0])), ((u_3.1 1), .inl (K 0, 64, .inl (fun _ => 0))), ((u_3.1 2), .inl (K 0, 9, .inl (fun _ => 0)))]) [0, 1, 2, 3, 4] rfl
  have hD9 := sub_D hP9 hD [0, 1, 2, 3, 4] (by decide +kernel) rfl
  exact W.vret hx hb hr (fun t ht hW => ⟨⟨(fun i => match i with | 0 => q_1 | 1 => (u_3.1 0) | 2 => (u_3.1 1) | _ => (u_3.1 2), fun _ => fun _ => 0, fun _ => fun _ => 0, fun _ => 0), rfl, trivial, (⟨by rw [ht]; exact hP9, hD9⟩ : Wd D A _ t)⟩, hS.F ht⟩) hS.2.2 dX10_init_15
set_option maxHeartbeats 4000000 in
set_option maxRecDepth 100000 in
theorem n_X9 (l : Launch) (D : va_G) (K : Nat → ClassId) (a0 : Nat) (sz : Nat) : Met l yX9_init wsX9_init ({ frames := 1, cells := 4, slots := 92, locals := 12 }) (va_Pc [.ref a0] (Pre D K [(cc_O a0 9 [.null, .null, .null, .null, .int 0, .int 0, .int 0, .int 0, .int 0, .int 0])] sz)) (va_Qv (S := (Nat → Nat) × (Nat → Nat → Int32) × (Nat → Nat → Int64) × (Nat → Int32)) (fun _ => True) (fun u t => Wd D (va_A [(cc_O a0 9 [.null, .null, .null, .null, .int 0, .int 0, .int 0, .int 0, .int 0, .int 0])] sz) ((fun u => [(cc_O a0 9 [.ref (u.1 0), .ref (u.1 1), .ref (u.1 2), .ref (u.1 3), .int 0, .int 0, .int (-1), .int 0, .int 0, .int 0]), ((u.1 0), .inl (K 0, 56, .inl (fun _ => 0))), ((u.1 1), .inl (K 0, 24, .inl (fun _ => 0))), ((u.1 2), .inl (K 0, 6, .inl tm0)), ((u.1 3), .inl (K 4, 6, .inr (.inr (.inr (.inr (fun _ => none))))))]) u) t) (va_A [(cc_O a0 9 [.null, .null, .null, .null, .int 0, .int 0, .int 0, .int 0, .int 0, .int 0])] sz)) 4 92 (va_A [(cc_O a0 9 [.null, .null, .null, .null, .int 0, .int 0, .int 0, .int 0, .int 0, .int 0])] sz) := by
  refine Met.ofW (cc := cX9_init) (maxL := 1) (ret := none) (by decide +kernel) rfl ?_
  intro p e s m args below meth c s₁ B hml hv
  obtain ⟨rfl, hsz, hP, hK, hD0, hN⟩ := hv
  have hx := B.exec
  have hb := B.bytes
  have hr := B.returns
  have hts := atoms_spec (ws := wsX9_init) B.pre
  have hown : s.vm.findClass RX9 = some m.cls := findClass_of_methodNamed B.named
  have hlocks := B.notSynchronized
  have hin : meth.name = "<init>" := (name_of_methodNamed B.named B.method).1
  subst hsz
  have hD := hD0.self (sz := s.heap.size)
  generalize hAe : va_A [(cc_O a0 9 [.null, .null, .null, .null, .int 0, .int 0, .int 0, .int 0, .int 0, .int 0])] s.heap.size = A at hD ⊢
  have hA : ∀ q : Nat, s.heap.size ≤ q → A q := fun q h => by rw [← hAe]; exact Or.inr h
  clear hAe
  have hS : va_S A s.heap s.heap [] := va_S.rf
  replace hP : va_P D vwCl [(cc_O a0 9 [.null, .null, .null, .null, .int 0, .int 0, .int 0, .int 0, .int 0, .int 0])] s.heap := hP
  have hl := lv_entry [.ref a0] (n := 1) (Nat.le_of_ble_eq_true rfl)
  rw [lg_entry_eq]
  generalize (lg_sl [.ref a0] ++ List.replicate (1 - (lg_sl [.ref a0]).length) Slot.unset).toArray = ls at hl ⊢
  have hl : lv_has ls 1 [(0, .ref a0)] := hl
  have hw9 : ∀ w ∈ wsX90, w ∈ wsX9_init := fun w h => (List.mem_cons_of_mem _ (List.mem_append_right _ h))
  refine lv_aload_n hx hb dX9_init_0 rfl (lv_at hl 0 rfl) ?_
  refine W.objInit hx hb hown (hts _ mm_X9_init_172) (hts _ mm_X9_init_166) (hts _ (List.mem_cons_of_mem _ (List.mem_append_left _ (List.mem_of_getElem? (i := 2) rfl)))) rfl (by rw [hml]; exact hl.1) rfl dX9_init_1 (Nat.le_of_ble_eq_true rfl) (Nat.le_of_ble_eq_true rfl) ?_
  refine W.eq (g2 := F0 m 4 ls []) rfl ?_
  refine lv_aload_n hx hb dX9_init_4 rfl (lv_at hl 0 rfl) (lv_bipush (v := 56) hx hb dX9_init_5 (by decide +kernel) ?_)
  refine k_newa (atype := .int) (ty := .int) (cA := K 0) (a0 := (56, .inl (fun _ => 0))) (N' := 56) hx hb (hts _ mm_X9_init_194) rfl hK 0 rfl hP hD hS hA (fun _ => rfl) (by decide +kernel) (by decide +kernel) (by decide +kernel) (Nat.le_of_ble_eq_true rfl) (Nat.le_of_ble_eq_true rfl) dX9_init_7 (fun q_1 H hP0 hD0 hS0 => ?_)
  replace hP : va_P D vwCl [(cc_O a0 9 [.null, .null, .null, .null, .int 0, .int 0, .int 0, .int 0, .int 0, .int 0]), (cc_l q_1 (K 0) 56 (fun _ => 0))] H := hP0
  replace hD := as_D hP hD0 rfl
  replace hS := hS0
  clear hP0 hD0 hS0
  refine W.widen (k := 1) (n := 56) (by omega) (by omega) ?_
  refine va_putF (ci := 9) (v := .ref q_1) (ty := .array .int) (C := RX9) (T := TX9) (N := 10) hx hb hts hw9 tyX9 tyX9_ok nmX9 hown hK hP hD hS 0 rfl rfl 0 (by decide +kernel) (hts _ mm_X9_init_174) (fun _ h9 => h9) rfl hin rfl (by decide +kernel) (by first | rfl | decide) (by first | rfl | decide) (Nat.le_of_ble_eq_true rfl) dX9_init_9 (fun H locs hP0 hD0 hS0 => ?_)
  replace hP : va_P D vwCl [(cc_O a0 9 [.ref q_1, .null, .null, .null, .int 0, .int 0, .int 0, .int 0, .int 0, .int 0]), (cc_l q_1 (K 0) 56 (fun _ => 0))] H := hP0
  replace hD := as_D hP hD0 rfl
  replace hS := hS0
  clear hP0 hD0 hS0
  refine lv_aload_n hx hb dX9_init_12 rfl (lv_at hl 0 rfl) (lv_bipush (v := 24) hx hb dX9_init_13 (by decide +kernel) ?_)
  refine k_newa (atype := .int) (ty := .int) (cA := K 0) (a0 := (24, .inl (fun _ => 0))) (N' := 24) hx hb (hts _ mm_X9_init_194) rfl hK 0 rfl hP hD hS hA (fun _ => rfl) (by decide +kernel) (by decide +kernel) (by decide +kernel) (Nat.le_of_ble_eq_true rfl) (Nat.le_of_ble_eq_true rfl) dX9_init_15 (fun q_2 H hP0 hD0 hS0 => ?_)
  replace hP : va_P D vwCl [(cc_O a0 9 [.ref q_1, .null, .null, .null, .int 0, .int 0, .int 0, .int 0, .int 0, .int 0]), (cc_l q_1 (K 0) 56 (fun _ => 0)), (cc_l q_2 (K 0) 24 (fun _ => 0))] H := hP0
  replace hD := as_D hP hD0 rfl
  replace hS := hS0
  clear hP0 hD0 hS0
  refine W.widen (k := 2) (n := 80) (by omega) (by omega) ?_
  refine va_putF (ci := 9) (v := .ref q_2) (ty := .array .int) (C := RX9) (T := TX9) (N := 10) hx hb hts hw9 tyX9 tyX9_ok nmX9 hown hK hP hD hS 0 rfl rfl 1 (by decide +kernel) (hts _ mm_X9_init_175) (fun _ h9 => h9) rfl hin rfl (by decide +kernel) (by first | rfl | decide) (by first | rfl | decide) (Nat.le_of_ble_eq_true rfl) dX9_init_17 (fun H locs hP0 hD0 hS0 => ?_)
  replace hP : va_P D vwCl [(cc_O a0 9 [.ref q_1, .ref q_2, .null, .null, .int 0, .int 0, .int 0, .int 0, .int 0, .int 0]), (cc_l q_1 (K 0) 56 (fun _ => 0)), (cc_l q_2 (K 0) 24 (fun _ => 0))] H := hP0
  replace hD := as_D hP hD0 rfl
  replace hS := hS0
  clear hP0 hD0 hS0
  refine lv_aload_n hx hb dX9_init_20 rfl (lv_at hl 0 rfl) (lv_bipush (v := 6) hx hb dX9_init_21 (by decide +kernel) ?_)
  refine k_newa (atype := .int) (ty := .int) (cA := K 0) (a0 := (6, .inl (fun _ => 0))) (N' := 6) hx hb (hts _ mm_X9_init_194) rfl hK 0 rfl hP hD hS hA (fun _ => rfl) (by decide +kernel) (by decide +kernel) (by decide +kernel) (Nat.le_of_ble_eq_true rfl) (Nat.le_of_ble_eq_true rfl) dX9_init_23 (fun q_3 H hP0 hD0 hS0 => ?_)
  replace hP : va_P D vwCl [(cc_O a0 9 [.ref q_1, .ref q_2, .null, .null, .int 0, .int 0, .int 0, .int 0, .int 0, .int 0]), (cc_l q_1 (K 0) 56 (fun _ => 0)), (cc_l q_2 (K 0) 24 (fun _ => 0)), (cc_l q_3 (K 0) 6 (fun _ => 0))] H := hP0
  replace hD := as_D hP hD0 rfl
  replace hS := hS0
  clear hP0 hD0 hS0
  refine W.widen (k := 3) (n := 86) (by omega) (by omega) ?_
  refine lv_dup hx hb dX9_init_25 rfl (lv_iconst (v := 0) hx hb dX9_init_26 (by decide +kernel) (lv_iconst (v := 0) hx hb dX9_init_27 (by decide +kernel) (va_iast hx hb hK hP hD hS 3 0 rfl rfl (i_in (x := 0) rfl (by omega)) dX9_init_28 (fun H locs hP0 hD0 hS0 => ?_))))
  replace hP : va_P D vwCl [(cc_O a0 9 [.ref q_1, .ref q_2, .null, .null, .int 0, .int 0, .int 0, .int 0, .int 0, .int 0]), (cc_l q_1 (K 0) 56 (fun _ => 0)), (cc_l q_2 (K 0) 24 (fun _ => 0)), (cc_l q_3 (K 0) 6 (upd (fun _ => 0) 0 0))] H := hP0
  replace hD := as_D hP hD0 rfl
  replace hS := hS0
  clear hP0 hD0 hS0
  refine lv_dup hx hb dX9_init_29 rfl (lv_iconst (v := 1) hx hb dX9_init_30 (by decide +kernel) (lv_iconst (v := 0) hx hb dX9_init_31 (by decide +kernel) (va_iast hx hb hK hP hD hS 3 0 rfl rfl (i_in (x := 1) rfl (by omega)) dX9_init_32 (fun H locs hP0 hD0 hS0 => ?_))))
  replace hP : va_P D vwCl [(cc_O a0 9 [.ref q_1, .ref q_2, .null, .null, .int 0, .int 0, .int 0, .int 0, .int 0, .int 0]), (cc_l q_1 (K 0) 56 (fun _ => 0)), (cc_l q_2 (K 0) 24 (fun _ => 0)), (cc_l q_3 (K 0) 6 (upd (upd (fun _ => 0) 0 0) 1 0))] H := hP0
  replace hD := as_D hP hD0 rfl
  replace hS := hS0
  clear hP0 hD0 hS0
  refine lv_dup hx hb dX9_init_33 rfl (lv_iconst (v := 2) hx hb dX9_init_34 (by decide +kernel) (lv_iconst (v := 3) hx hb dX9_init_35 (by decide +kernel) (va_iast hx hb hK hP hD hS 3 0 rfl rfl (i_in (x := 2) rfl (by omega)) dX9_init_36 (fun H locs hP0 hD0 hS0 => ?_))))
  replace hP : va_P D vwCl [(cc_O a0 9 [.ref q_1, .ref q_2, .null, .null, .int 0, .int 0, .int 0, .int 0, .int 0, .int 0]), (cc_l q_1 (K 0) 56 (fun _ => 0)), (cc_l q_2 (K 0) 24 (fun _ => 0)), (cc_l q_3 (K 0) 6 (upd (upd (upd (fun _ => 0) 0 0) 1 0) 2 3))] H := hP0
  replace hD := as_D hP hD0 rfl
  replace hS := hS0
  clear hP0 hD0 hS0
  refine lv_dup hx hb dX9_init_37 rfl (lv_iconst (v := 3) hx hb dX9_init_38 (by decide +kernel) (lv_bipush (v := 12) hx hb dX9_init_39 (by decide +kernel) (va_iast hx hb hK hP hD hS 3 0 rfl rfl (i_in (x := 3) rfl (by omega)) dX9_init_41 (fun H locs hP0 hD0 hS0 => ?_))))
  replace hP : va_P D vwCl [(cc_O a0 9 [.ref q_1, .ref q_2, .null, .null, .int 0, .int 0, .int 0, .int 0, .int 0, .int 0]), (cc_l q_1 (K 0) 56 (fun _ => 0)), (cc_l q_2 (K 0) 24 (fun _ => 0)), (cc_l q_3 (K 0) 6 (upd (upd (upd (upd (fun _ => 0) 0 0) 1 0) 2 3) 3 12))] H := hP0
  replace hD := as_D hP hD0 rfl
  replace hS := hS0
  clear hP0 hD0 hS0
  refine lv_dup hx hb dX9_init_42 rfl (lv_iconst (v := 4) hx hb dX9_init_43 (by decide +kernel) (lv_iconst (v := 3) hx hb dX9_init_44 (by decide +kernel) (va_iast hx hb hK hP hD hS 3 0 rfl rfl (i_in (x := 4) rfl (by omega)) dX9_init_45 (fun H locs hP0 hD0 hS0 => ?_))))
  replace hP : va_P D vwCl [(cc_O a0 9 [.ref q_1, .ref q_2, .null, .null, .int 0, .int 0, .int 0, .int 0, .int 0, .int 0]), (cc_l q_1 (K 0) 56 (fun _ => 0)), (cc_l q_2 (K 0) 24 (fun _ => 0)), (cc_l q_3 (K 0) 6 (upd (upd (upd (upd (upd (fun _ => 0) 0 0) 1 0) 2 3) 3 12) 4 3))] H := hP0
  replace hD := as_D hP hD0 rfl
  replace hS := hS0
  clear hP0 hD0 hS0
  refine lv_dup hx hb dX9_init_46 rfl (lv_iconst (v := 5) hx hb dX9_init_47 (by decide +kernel) (lv_iconst (v := 0) hx hb dX9_init_48 (by decide +kernel) (va_iast hx hb hK hP hD hS 3 0 rfl rfl (i_in (x := 5) rfl (by omega)) dX9_init_49 (fun H locs hP0 hD0 hS0 => ?_))))
  replace hP : va_P D vwCl [(cc_O a0 9 [.ref q_1, .ref q_2, .null, .null, .int 0, .int 0, .int 0, .int 0, .int 0, .int 0]), (cc_l q_1 (K 0) 56 (fun _ => 0)), (cc_l q_2 (K 0) 24 (fun _ => 0)), (cc_l q_3 (K 0) 6 tm0)] H := hP0
  replace hD := as_D hP hD0 rfl
  replace hS := hS0
  clear hP0 hD0 hS0
  refine va_putF (ci := 9) (v := .ref q_3) (ty := .array .int) (C := RX9) (T := TX9) (N := 10) hx hb hts hw9 tyX9 tyX9_ok nmX9 hown hK hP hD hS 0 rfl rfl 2 (by decide +kernel) (hts _ mm_X9_init_176) (fun _ h9 => h9) rfl hin rfl (by decide +kernel) (by first | rfl | decide) (by first | rfl | decide) (Nat.le_of_ble_eq_true rfl) dX9_init_50 (fun H locs hP0 hD0 hS0 => ?_)
  replace hP : va_P D vwCl [(cc_O a0 9 [.ref q_1, .ref q_2, .ref q_3, .null, .int 0, .int 0, .int 0, .int 0, .int 0, .int 0]), (cc_l q_1 (K 0) 56 (fun _ => 0)), (cc_l q_2 (K 0) 24 (fun _ => 0)), (cc_l q_3 (K 0) 6 tm0)] H := hP0
  replace hD := as_D hP hD0 rfl
  replace hS := hS0
  clear hP0 hD0 hS0
  refine lv_aload_n hx hb dX9_init_53 rfl (lv_at hl 0 rfl) (lv_bipush (v := 6) hx hb dX9_init_54 (by decide +kernel) ?_)
  refine k_newq (C := "SmokeTune$Script") (cA := K 4) (N' := 6) hx hb hown (hts _ mm_X9_init_173) hN.2.2 hK 4 rfl hP hD hS hA (by decide +kernel) (by decide +kernel) (by decide +kernel) (Nat.le_of_ble_eq_true rfl) (Nat.le_of_ble_eq_true rfl) dX9_init_56 (fun q_4 H hP0 hD0 hS0 => ?_)
  replace hP : va_P D vwCl [(cc_O a0 9 [.ref q_1, .ref q_2, .ref q_3, .null, .int 0, .int 0, .int 0, .int 0, .int 0, .int 0]), (cc_l q_1 (K 0) 56 (fun _ => 0)), (cc_l q_2 (K 0) 24 (fun _ => 0)), (cc_l q_3 (K 0) 6 tm0), (cc_rrrR q_4 (K 4) 6 (fun _ => none))] H := hP0
  replace hD := as_D hP hD0 rfl
  replace hS := hS0
  clear hP0 hD0 hS0
  refine W.widen (k := 4) (n := 92) (by omega) (by omega) ?_
  refine va_putF (ci := 9) (v := .ref q_4) (ty := .array (.object "SmokeTune$Script")) (C := RX9) (T := TX9) (N := 10) hx hb hts hw9 tyX9 tyX9_ok nmX9 hown hK hP hD hS 0 rfl rfl 3 (by decide +kernel) (hts _ mm_X9_init_177) (fun _ h9 => h9) rfl hin rfl (by decide +kernel) (by first | rfl | decide) (by first | rfl | decide) (Nat.le_of_ble_eq_true rfl) dX9_init_59 (fun H locs hP0 hD0 hS0 => ?_)
  replace hP : va_P D vwCl [(cc_O a0 9 [.ref q_1, .ref q_2, .ref q_3, .ref q_4, .int 0, .int 0, .int 0, .int 0, .int 0, .int 0]), (cc_l q_1 (K 0) 56 (fun _ => 0)), (cc_l q_2 (K 0) 24 (fun _ => 0)), (cc_l q_3 (K 0) 6 tm0), (cc_rrrR q_4 (K 4) 6 (fun _ => none))] H := hP0
  replace hD := as_D hP hD0 rfl
  replace hS := hS0
  clear hP0 hD0 hS0
  refine lv_aload_n hx hb dX9_init_62 rfl (lv_at hl 0 rfl) (lv_iconst (v := 0) hx hb dX9_init_63 (by decide +kernel) (va_put (ci := 9) (v := .int 0) (ty := .int) (C := RX9) (T := TX9) (N := 10) hx hb hts hw9 tyX9 tyX9_ok nmX9 hown hK hP hD hS 0 rfl rfl 4 (by decide +kernel) (hts _ mm_X9_init_178) (fun _ h9 => h9) rfl (by decide +kernel) (by first | rfl | decide) (by first | rfl | decide) (Nat.le_of_ble_eq_true rfl) dX9_init_64 (fun H locs hP0 hD0 hS0 => ?_)))
  replace hP : va_P D vwCl [(cc_O a0 9 [.ref q_1, .ref q_2, .ref q_3, .ref q_4, .int 0, .int 0, .int 0, .int 0, .int 0, .int 0]), (cc_l q_1 (K 0) 56 (fun _ => 0)), (cc_l q_2 (K 0) 24 (fun _ => 0)), (cc_l q_3 (K 0) 6 tm0), (cc_rrrR q_4 (K 4) 6 (fun _ => none))] H := hP0
  replace hD := as_D hP hD0 rfl
  replace hS := hS0
  clear hP0 hD0 hS0
  refine lv_aload_n hx hb dX9_init_67 rfl (lv_at hl 0 rfl) (lv_iconst (v := 0) hx hb dX9_init_68 (by decide +kernel) (va_put (ci := 9) (v := .int 0) (ty := .int) (C := RX9) (T := TX9) (N := 10) hx hb hts hw9 tyX9 tyX9_ok nmX9 hown hK hP hD hS 0 rfl rfl 5 (by decide +kernel) (hts _ mm_X9_init_179) (fun _ h9 => h9) rfl (by decide +kernel) (by first | rfl | decide) (by first | rfl | decide) (Nat.le_of_ble_eq_true rfl) dX9_init_69 (fun H locs hP0 hD0 hS0 => ?_)))
  replace hP : va_P D vwCl [(cc_O a0 9 [.ref q_1, .ref q_2, .ref q_3, .ref q_4, .int 0, .int 0, .int 0, .int 0, .int 0, .int 0]), (cc_l q_1 (K 0) 56 (fun _ => 0)), (cc_l q_2 (K 0) 24 (fun _ => 0)), (cc_l q_3 (K 0) 6 tm0), (cc_rrrR q_4 (K 4) 6 (fun _ => none))] H := hP0
  replace hD := as_D hP hD0 rfl
  replace hS := hS0
  clear hP0 hD0 hS0
  refine lv_aload_n hx hb dX9_init_72 rfl (lv_at hl 0 rfl) (lv_iconst (v := (-1)) hx hb dX9_init_73 (by decide +kernel) (va_put (ci := 9) (v := .int (-1)) (ty := .int) (C := RX9) (T := TX9) (N := 10) hx hb hts hw9 tyX9 tyX9_ok nmX9 hown hK hP hD hS 0 rfl rfl 6 (by decide +kernel) (hts _ mm_X9_init_180) (fun _ h9 => h9) rfl (by decide +kernel) (by first | rfl | decide) (by first | rfl | decide) (Nat.le_of_ble_eq_true rfl) dX9_init_74 (fun H locs hP0 hD0 hS0 => ?_)))
  replace hP : va_P D vwCl [(cc_O a0 9 [.ref q_1, .ref q_2, .ref q_3, .ref q_4, .int 0, .int 0, .int (-1), .int 0, .int 0, .int 0]), (cc_l q_1 (K 0) 56 (fun _ => 0)), (cc_l q_2 (K 0) 24 (fun _ => 0)), (cc_l q_3 (K 0) 6 tm0), (cc_rrrR q_4 (K 4) 6 (fun _ => none))] H := hP0
  replace hD := as_D hP hD0 rfl
  replace hS := hS0
  clear hP0 hD0 hS0
  refine lv_aload_n hx hb dX9_init_77 rfl (lv_at hl 0 rfl) (lv_iconst (v := 0) hx hb dX9_init_78 (by decide +kernel) (va_put (ci := 9) (v := .int 0) (ty := .int) (C := RX9) (T := TX9) (N := 10) hx hb hts hw9 tyX9 tyX9_ok nmX9 hown hK hP hD hS 0 rfl rfl 7 (by decide +kernel) (hts _ mm_X9_init_181) (fun _ h9 => h9) rfl (by decide +kernel) (by first | rfl | decide) (by first | rfl | decide) (Nat.le_of_ble_eq_true rfl) dX9_init_79 (fun H locs hP0 hD0 hS0 => ?_)))
  replace hP : va_P D vwCl [(cc_O a0 9 [.ref q_1, .ref q_2, .ref q_3, .ref q_4, .int 0, .int 0, .int (-1), .int 0, .int 0, .int 0]), (cc_l q_1 (K 0) 56 (fun _ => 0)), (cc_l q_2 (K 0) 24 (fun _ => 0)), (cc_l q_3 (K 0) 6 tm0), (cc_rrrR q_4 (K 4) 6 (fun _ => none))] H := hP0
  replace hD := as_D hP hD0 rfl
  replace hS := hS0
  clear hP0 hD0 hS0
  refine lv_aload_n hx hb dX9_init_82 rfl (lv_at hl 0 rfl) (lv_iconst (v := 0) hx hb dX9_init_83 (by decide +kernel) (va_put (ci := 9) (v := .int 0) (ty := .int) (C := RX9) (T := TX9) (N := 10) hx hb hts hw9 tyX9 tyX9_ok nmX9 hown hK hP hD hS 0 rfl rfl 8 (by decide +kernel) (hts _ mm_X9_init_182) (fun _ h9 => h9) rfl (by decide +kernel) (by first | rfl | decide) (by first | rfl | decide) (Nat.le_of_ble_eq_true rfl) dX9_init_84 (fun H locs hP0 hD0 hS0 => ?_)))
  replace hP : va_P D vwCl [(cc_O a0 9 [.ref q_1, .ref q_2, .ref q_3, .ref q_4, .int 0, .int 0, .int (-1), .int 0, .int 0, .int 0]), (cc_l q_1 (K 0) 56 (fun _ => 0)), (cc_l q_2 (K 0) 24 (fun _ => 0)), (cc_l q_3 (K 0) 6 tm0), (cc_rrrR q_4 (K 4) 6 (fun _ => none))] H := hP0
  replace hD := as_D hP hD0 rfl
  replace hS := hS0
  clear hP0 hD0 hS0
  refine lv_aload_n hx hb dX9_init_87 rfl (lv_at hl 0 rfl) (lv_iconst (v := 0) hx hb dX9_init_88 (by decide +kernel) (va_put (ci := 9) (v := .int 0) (ty := .int) (C := RX9) (T := TX9) (N := 10) hx hb hts hw9 tyX9 tyX9_ok nmX9 hown hK hP hD hS 0 rfl rfl 9 (by decide +kernel) (hts _ mm_X9_init_183) (fun _ h9 => h9) rfl (by decide +kernel) (by first | rfl | decide) (by first | rfl | decide) (Nat.le_of_ble_eq_true rfl) dX9_init_89 (fun H locs hP0 hD0 hS0 => ?_)))
  replace hP : va_P D vwCl [(cc_O a0 9 [.ref q_1, .ref q_2, .ref q_3, .ref q_4, .int 0, .int 0, .int (-1), .int 0, .int 0, .int 0]), (cc_l q_1 (K 0) 56 (fun _ => 0)), (cc_l q_2 (K 0) 24 (fun _ => 0)), (cc_l q_3 (K 0) 6 tm0), (cc_rrrR q_4 (K 4) 6 (fun _ => none))] H := hP0
  replace hD := as_D hP hD0 rfl
  replace hS := hS0
  clear hP0 hD0 hS0
  have hP9 := hP.sub (ws' := [(cc_O a0 9 [.ref q_1, .ref q_2, .ref q_3, .ref q_4, .int 0, .int 0, .int (-1), .int 0, .int 0, .int 0]), (cc_l q_1 (K 0) 56 (fun _ => 0)), (cc_l q_2 (K 0) 24 (fun _ => 0)), (cc_l q_3 (K 0) 6 tm0), (cc_rrrR q_4 (K 4) 6 (fun _ => none))]) [0, 1, 2, 3, 4] rfl
  have hD9 := sub_D hP9 hD [0, 1, 2, 3, 4] (by decide +kernel) rfl
  exact W.vret hx hb hr (fun t ht hW => ⟨⟨(fun i => match i with | 0 => q_1 | 1 => q_2 | 2 => q_3 | _ => q_4, fun _ => fun _ => 0, fun _ => fun _ => 0, fun _ => 0), rfl, trivial, (⟨by rw [ht]; exact hP9, hD9⟩ : Wd D A _ t)⟩, hS.F ht⟩) hS.2.2 dX9_init_92
set_option maxHeartbeats 4000000 in
set_option maxRecDepth 100000 in
theorem n_X2 (l : Launch) (D : va_G) (K : Nat → ClassId) (a0 : Nat) (sz : Nat) : Met l yX2_init wsX2_init ({ frames := 1, cells := 1, slots := 476, locals := 12 }) (va_Pc [.ref a0] (Pre D K [(cc_O a0 2 [.null, .int 0, .int 0])] sz)) (va_Qv (S := (Nat → Nat) × (Nat → Nat → Int32) × (Nat → Nat → Int64) × (Nat → Int32)) (fun _ => True) (fun u t => Wd D (va_A [(cc_O a0 2 [.null, .int 0, .int 0])] sz) ((fun u => [(cc_O a0 2 [.ref (u.1 0), .int 0, .int 0]), ((u.1 0), .inl (K 0, 476, .inl (fun _ => 0)))]) u) t) (va_A [(cc_O a0 2 [.null, .int 0, .int 0])] sz)) 1 476 (va_A [(cc_O a0 2 [.null, .int 0, .int 0])] sz) := by
  refine Met.ofW (cc := cX2_init) (maxL := 1) (ret := none) (by decide +kernel) rfl ?_
  intro p e s m args below meth c s₁ B hml hv
  obtain ⟨rfl, hsz, hP, hK, hD0, hN⟩ := hv
  have hx := B.exec
  have hb := B.bytes
  have hr := B.returns
  have hts := atoms_spec (ws := wsX2_init) B.pre
  have hown : s.vm.findClass RX2 = some m.cls := findClass_of_methodNamed B.named
  have hlocks := B.notSynchronized
  have hin : meth.name = "<init>" := (name_of_methodNamed B.named B.method).1
  subst hsz
  have hD := hD0.self (sz := s.heap.size)
  generalize hAe : va_A [(cc_O a0 2 [.null, .int 0, .int 0])] s.heap.size = A at hD ⊢
  have hA : ∀ q : Nat, s.heap.size ≤ q → A q := fun q h => by rw [← hAe]; exact Or.inr h
  clear hAe
  have hS : va_S A s.heap s.heap [] := va_S.rf
  replace hP : va_P D vwCl [(cc_O a0 2 [.null, .int 0, .int 0])] s.heap := hP
  have hl := lv_entry [.ref a0] (n := 1) (Nat.le_of_ble_eq_true rfl)
  rw [lg_entry_eq]
  generalize (lg_sl [.ref a0] ++ List.replicate (1 - (lg_sl [.ref a0]).length) Slot.unset).toArray = ls at hl ⊢
  have hl : lv_has ls 1 [(0, .ref a0)] := hl
  have hw2 : ∀ w ∈ wsX20, w ∈ wsX2_init := fun w h => (List.mem_cons_of_mem _ (List.mem_append_right _ h))
  refine lv_aload_n hx hb dX2_init_0 rfl (lv_at hl 0 rfl) ?_
  refine W.objInit hx hb hown (hts _ mm_X2_init_277) (hts _ mm_X2_init_166) (hts _ (List.mem_cons_of_mem _ (List.mem_append_left _ (List.mem_of_getElem? (i := 2) rfl)))) rfl (by rw [hml]; exact hl.1) rfl dX2_init_1 (Nat.le_of_ble_eq_true rfl) (Nat.le_of_ble_eq_true rfl) ?_
  refine W.eq (g2 := F0 m 4 ls []) rfl ?_
  refine lv_aload_n hx hb dX2_init_4 rfl (lv_at hl 0 rfl) (lv_sipush (v := 476) hx hb dX2_init_5 (by decide +kernel) ?_)
  refine k_newa (atype := .int) (ty := .int) (cA := K 0) (a0 := (476, .inl (fun _ => 0))) (N' := 476) hx hb (hts _ mm_X2_init_194) rfl hK 0 rfl hP hD hS hA (fun _ => rfl) (by decide +kernel) (by decide +kernel) (by decide +kernel) (Nat.le_of_ble_eq_true rfl) (Nat.le_of_ble_eq_true rfl) dX2_init_8 (fun q_1 H hP0 hD0 hS0 => ?_)
  replace hP : va_P D vwCl [(cc_O a0 2 [.null, .int 0, .int 0]), (cc_l q_1 (K 0) 476 (fun _ => 0))] H := hP0
  replace hD := as_D hP hD0 rfl
  replace hS := hS0
  clear hP0 hD0 hS0
  refine W.widen (k := 1) (n := 476) (by omega) (by omega) ?_
  refine va_putF (ci := 2) (v := .ref q_1) (ty := .array .int) (C := RX2) (T := TX2) (N := 3) hx hb hts hw2 tyX2 tyX2_ok nmX2 hown hK hP hD hS 0 rfl rfl 0 (by decide +kernel) (hts _ mm_X2_init_278) (fun _ h9 => h9) rfl hin rfl (by decide +kernel) (by first | rfl | decide) (by first | rfl | decide) (Nat.le_of_ble_eq_true rfl) dX2_init_10 (fun H locs hP0 hD0 hS0 => ?_)
  replace hP : va_P D vwCl [(cc_O a0 2 [.ref q_1, .int 0, .int 0]), (cc_l q_1 (K 0) 476 (fun _ => 0))] H := hP0
  replace hD := as_D hP hD0 rfl
  replace hS := hS0
  clear hP0 hD0 hS0
  refine lv_aload_n hx hb dX2_init_13 rfl (lv_at hl 0 rfl) (lv_iconst (v := 0) hx hb dX2_init_14 (by decide +kernel) (va_put (ci := 2) (v := .int 0) (ty := .int) (C := RX2) (T := TX2) (N := 3) hx hb hts hw2 tyX2 tyX2_ok nmX2 hown hK hP hD hS 0 rfl rfl 1 (by decide +kernel) (hts _ mm_X2_init_279) (fun _ h9 => h9) rfl (by decide +kernel) (by first | rfl | decide) (by first | rfl | decide) (Nat.le_of_ble_eq_true rfl) dX2_init_15 (fun H locs hP0 hD0 hS0 => ?_)))
  replace hP : va_P D vwCl [(cc_O a0 2 [.ref q_1, .int 0, .int 0]), (cc_l q_1 (K 0) 476 (fun _ => 0))] H := hP0
  replace hD := as_D hP hD0 rfl
  replace hS := hS0
  clear hP0 hD0 hS0
  refine lv_aload_n hx hb dX2_init_18 rfl (lv_at hl 0 rfl) (lv_iconst (v := 0) hx hb dX2_init_19 (by decide +kernel) (va_put (ci := 2) (v := .int 0) (ty := .int) (C := RX2) (T := TX2) (N := 3) hx hb hts hw2 tyX2 tyX2_ok nmX2 hown hK hP hD hS 0 rfl rfl 2 (by decide +kernel) (hts _ mm_X2_init_280) (fun _ h9 => h9) rfl (by decide +kernel) (by first | rfl | decide) (by first | rfl | decide) (Nat.le_of_ble_eq_true rfl) dX2_init_20 (fun H locs hP0 hD0 hS0 => ?_)))
  replace hP : va_P D vwCl [(cc_O a0 2 [.ref q_1, .int 0, .int 0]), (cc_l q_1 (K 0) 476 (fun _ => 0))] H := hP0
  replace hD := as_D hP hD0 rfl
  replace hS := hS0
  clear hP0 hD0 hS0
  have hP9 := hP.sub (ws' := [(cc_O a0 2 [.ref q_1, .int 0, .int 0]), (cc_l q_1 (K 0) 476 (fun _ => 0))]) [0, 1] rfl
  have hD9 := sub_D hP9 hD [0, 1] (by decide +kernel) rfl
  exact W.vret hx hb hr (fun t ht hW => ⟨⟨(fun i => match i with | _ => q_1, fun _ => fun _ => 0, fun _ => fun _ => 0, fun _ => 0), rfl, trivial, (⟨by rw [ht]; exact hP9, hD9⟩ : Wd D A _ t)⟩, hS.F ht⟩) hS.2.2 dX2_init_23
set_option maxHeartbeats 4000000 in
set_option maxRecDepth 100000 in
theorem n_X8 (l : Launch) (D : va_G) (K : Nat → ClassId) (a0 : Nat) (sz : Nat) : Met l yX8_init wsX8_init ({ frames := 1, cells := 1, slots := 400, locals := 12 }) (va_Pc [.ref a0] (Pre D K [(cc_O a0 8 [.null, .int 0, .int 0, .int 0, .int 0, .int 0])] sz)) (va_Qv (S := (Nat → Nat) × (Nat → Nat → Int32) × (Nat → Nat → Int64) × (Nat → Int32)) (fun _ => True) (fun u t => Wd D (va_A [(cc_O a0 8 [.null, .int 0, .int 0, .int 0, .int 0, .int 0])] sz) ((fun u => [(cc_O a0 8 [.ref (u.1 0), .int 0, .int 0, .int 0, .int (-1), .int (-1)]), ((u.1 0), .inl (K 0, 400, .inl (fun _ => 0)))]) u) t) (va_A [(cc_O a0 8 [.null, .int 0, .int 0, .int 0, .int 0, .int 0])] sz)) 1 400 (va_A [(cc_O a0 8 [.null, .int 0, .int 0, .int 0, .int 0, .int 0])] sz) := by
  refine Met.ofW (cc := cX8_init) (maxL := 1) (ret := none) (by decide +kernel) rfl ?_
  intro p e s m args below meth c s₁ B hml hv
  obtain ⟨rfl, hsz, hP, hK, hD0, hN⟩ := hv
  have hx := B.exec
  have hb := B.bytes
  have hr := B.returns
  have hts := atoms_spec (ws := wsX8_init) B.pre
  have hown : s.vm.findClass RX8 = some m.cls := findClass_of_methodNamed B.named
  have hlocks := B.notSynchronized
  have hin : meth.name = "<init>" := (name_of_methodNamed B.named B.method).1
  subst hsz
  have hD := hD0.self (sz := s.heap.size)
  generalize hAe : va_A [(cc_O a0 8 [.null, .int 0, .int 0, .int 0, .int 0, .int 0])] s.heap.size = A at hD ⊢
  have hA : ∀ q : Nat, s.heap.size ≤ q → A q := fun q h => by rw [← hAe]; exact Or.inr h
  clear hAe
  have hS : va_S A s.heap s.heap [] := va_S.rf
  replace hP : va_P D vwCl [(cc_O a0 8 [.null, .int 0, .int 0, .int 0, .int 0, .int 0])] s.heap := hP
  have hl := lv_entry [.ref a0] (n := 1) (Nat.le_of_ble_eq_true rfl)
  rw [lg_entry_eq]
  generalize (lg_sl [.ref a0] ++ List.replicate (1 - (lg_sl [.ref a0]).length) Slot.unset).toArray = ls at hl ⊢
  have hl : lv_has ls 1 [(0, .ref a0)] := hl
  have hw8 : ∀ w ∈ wsX80, w ∈ wsX8_init := fun w h => (List.mem_cons_of_mem _ (List.mem_append_right _ h))
  refine lv_aload_n hx hb dX8_init_0 rfl (lv_at hl 0 rfl) ?_
  refine W.objInit hx hb hown (hts _ mm_X8_init_204) (hts _ mm_X8_init_166) (hts _ (List.mem_cons_of_mem _ (List.mem_append_left _ (List.mem_of_getElem? (i := 2) rfl)))) rfl (by rw [hml]; exact hl.1) rfl dX8_init_1 (Nat.le_of_ble_eq_true rfl) (Nat.le_of_ble_eq_true rfl) ?_
  refine W.eq (g2 := F0 m 4 ls []) rfl ?_
  refine lv_aload_n hx hb dX8_init_4 rfl (lv_at hl 0 rfl) (lv_sipush (v := 400) hx hb dX8_init_5 (by decide +kernel) ?_)
  refine k_newa (atype := .int) (ty := .int) (cA := K 0) (a0 := (400, .inl (fun _ => 0))) (N' := 400) hx hb (hts _ mm_X8_init_194) rfl hK 0 rfl hP hD hS hA (fun _ => rfl) (by decide +kernel) (by decide +kernel) (by decide +kernel) (Nat.le_of_ble_eq_true rfl) (Nat.le_of_ble_eq_true rfl) dX8_init_8 (fun q_1 H hP0 hD0 hS0 => ?_)
  replace hP : va_P D vwCl [(cc_O a0 8 [.null, .int 0, .int 0, .int 0, .int 0, .int 0]), (cc_l q_1 (K 0) 400 (fun _ => 0))] H := hP0
  replace hD := as_D hP hD0 rfl
  replace hS := hS0
  clear hP0 hD0 hS0
  refine W.widen (k := 1) (n := 400) (by omega) (by omega) ?_
  refine va_putF (ci := 8) (v := .ref q_1) (ty := .array .int) (C := RX8) (T := TX8) (N := 6) hx hb hts hw8 tyX8 tyX8_ok nmX8 hown hK hP hD hS 0 rfl rfl 0 (by decide +kernel) (hts _ mm_X8_init_205) (fun _ h9 => h9) rfl hin rfl (by decide +kernel) (by first | rfl | decide) (by first | rfl | decide) (Nat.le_of_ble_eq_true rfl) dX8_init_10 (fun H locs hP0 hD0 hS0 => ?_)
  replace hP : va_P D vwCl [(cc_O a0 8 [.ref q_1, .int 0, .int 0, .int 0, .int 0, .int 0]), (cc_l q_1 (K 0) 400 (fun _ => 0))] H := hP0
  replace hD := as_D hP hD0 rfl
  replace hS := hS0
  clear hP0 hD0 hS0
  refine lv_aload_n hx hb dX8_init_13 rfl (lv_at hl 0 rfl) (lv_iconst (v := 0) hx hb dX8_init_14 (by decide +kernel) (va_put (ci := 8) (v := .int 0) (ty := .int) (C := RX8) (T := TX8) (N := 6) hx hb hts hw8 tyX8 tyX8_ok nmX8 hown hK hP hD hS 0 rfl rfl 1 (by decide +kernel) (hts _ mm_X8_init_206) (fun _ h9 => h9) rfl (by decide +kernel) (by first | rfl | decide) (by first | rfl | decide) (Nat.le_of_ble_eq_true rfl) dX8_init_15 (fun H locs hP0 hD0 hS0 => ?_)))
  replace hP : va_P D vwCl [(cc_O a0 8 [.ref q_1, .int 0, .int 0, .int 0, .int 0, .int 0]), (cc_l q_1 (K 0) 400 (fun _ => 0))] H := hP0
  replace hD := as_D hP hD0 rfl
  replace hS := hS0
  clear hP0 hD0 hS0
  refine lv_aload_n hx hb dX8_init_18 rfl (lv_at hl 0 rfl) (lv_iconst (v := 0) hx hb dX8_init_19 (by decide +kernel) (va_put (ci := 8) (v := .int 0) (ty := .int) (C := RX8) (T := TX8) (N := 6) hx hb hts hw8 tyX8 tyX8_ok nmX8 hown hK hP hD hS 0 rfl rfl 2 (by decide +kernel) (hts _ mm_X8_init_207) (fun _ h9 => h9) rfl (by decide +kernel) (by first | rfl | decide) (by first | rfl | decide) (Nat.le_of_ble_eq_true rfl) dX8_init_20 (fun H locs hP0 hD0 hS0 => ?_)))
  replace hP : va_P D vwCl [(cc_O a0 8 [.ref q_1, .int 0, .int 0, .int 0, .int 0, .int 0]), (cc_l q_1 (K 0) 400 (fun _ => 0))] H := hP0
  replace hD := as_D hP hD0 rfl
  replace hS := hS0
  clear hP0 hD0 hS0
  refine lv_aload_n hx hb dX8_init_23 rfl (lv_at hl 0 rfl) (lv_iconst (v := 0) hx hb dX8_init_24 (by decide +kernel) (va_put (ci := 8) (v := .int 0) (ty := .int) (C := RX8) (T := TX8) (N := 6) hx hb hts hw8 tyX8 tyX8_ok nmX8 hown hK hP hD hS 0 rfl rfl 3 (by decide +kernel) (hts _ mm_X8_init_208) (fun _ h9 => h9) rfl (by decide +kernel) (by first | rfl | decide) (by first | rfl | decide) (Nat.le_of_ble_eq_true rfl) dX8_init_25 (fun H locs hP0 hD0 hS0 => ?_)))
  replace hP : va_P D vwCl [(cc_O a0 8 [.ref q_1, .int 0, .int 0, .int 0, .int 0, .int 0]), (cc_l q_1 (K 0) 400 (fun _ => 0))] H := hP0
  replace hD := as_D hP hD0 rfl
  replace hS := hS0
  clear hP0 hD0 hS0
  refine lv_aload_n hx hb dX8_init_28 rfl (lv_at hl 0 rfl) (lv_iconst (v := (-1)) hx hb dX8_init_29 (by decide +kernel) (va_put (ci := 8) (v := .int (-1)) (ty := .int) (C := RX8) (T := TX8) (N := 6) hx hb hts hw8 tyX8 tyX8_ok nmX8 hown hK hP hD hS 0 rfl rfl 4 (by decide +kernel) (hts _ mm_X8_init_209) (fun _ h9 => h9) rfl (by decide +kernel) (by first | rfl | decide) (by first | rfl | decide) (Nat.le_of_ble_eq_true rfl) dX8_init_30 (fun H locs hP0 hD0 hS0 => ?_)))
  replace hP : va_P D vwCl [(cc_O a0 8 [.ref q_1, .int 0, .int 0, .int 0, .int (-1), .int 0]), (cc_l q_1 (K 0) 400 (fun _ => 0))] H := hP0
  replace hD := as_D hP hD0 rfl
  replace hS := hS0
  clear hP0 hD0 hS0
  refine lv_aload_n hx hb dX8_init_33 rfl (lv_at hl 0 rfl) (lv_iconst (v := (-1)) hx hb dX8_init_34 (by decide +kernel) (va_put (ci := 8) (v := .int (-1)) (ty := .int) (C := RX8) (T := TX8) (N := 6) hx hb hts hw8 tyX8 tyX8_ok nmX8 hown hK hP hD hS 0 rfl rfl 5 (by decide +kernel) (hts _ mm_X8_init_210) (fun _ h9 => h9) rfl (by decide +kernel) (by first | rfl | decide) (by first | rfl | decide) (Nat.le_of_ble_eq_true rfl) dX8_init_35 (fun H locs hP0 hD0 hS0 => ?_)))
  replace hP : va_P D vwCl [(cc_O a0 8 [.ref q_1, .int 0, .int 0, .int 0, .int (-1), .int (-1)]), (cc_l q_1 (K 0) 400 (fun _ => 0))] H := hP0
  replace hD := as_D hP hD0 rfl
  replace hS := hS0
  clear hP0 hD0 hS0
  have hP9 := hP.sub (ws' := [(cc_O a0 8 [.ref q_1, .int 0, .int 0, .int 0, .int (-1), .int (-1)]), (cc_l q_1 (K 0) 400 (fun _ => 0))]) [0, 1] rfl
  have hD9 := sub_D hP9 hD [0, 1] (by decide +kernel) rfl
  exact W.vret hx hb hr (fun t ht hW => ⟨⟨(fun i => match i with | _ => q_1, fun _ => fun _ => 0, fun _ => fun _ => 0, fun _ => 0), rfl, trivial, (⟨by rw [ht]; exact hP9, hD9⟩ : Wd D A _ t)⟩, hS.F ht⟩) hS.2.2 dX8_init_38
set_option maxHeartbeats 4000000 in
set_option maxRecDepth 100000 in
theorem n_X7 (l : Launch) (D : va_G) (K : Nat → ClassId) (a0 : Nat) (a1 : Nat) (a2 : Nat) (f1 : Nat → Int32) (f2 : Nat → Int32) (sz : Nat) : Met l yX7_init wsX7_init ({ frames := 1, cells := 0, slots := 0, locals := 12 }) (va_Pc [.ref a0, .ref a1, .ref a2, .int 0] (Pre D K [(cc_O a0 7 [.null, .null, .int 0, .int 0]), (cc_l a1 (K 0) 60 f1), (cc_l a2 (K 0) 800 f2)] sz)) (va_Qv (S := (Nat → Nat) × (Nat → Nat → Int32) × (Nat → Nat → Int64) × (Nat → Int32)) (fun _ => True) (fun u t => Wd D (va_A [(cc_O a0 7 [.null, .null, .int 0, .int 0]), (cc_l a1 (K 0) 60 f1), (cc_l a2 (K 0) 800 f2)] sz) ((fun u => [(cc_O a0 7 [.ref a1, .ref a2, .int 0, .int 800]), (cc_l a1 (K 0) 60 f1), (cc_l a2 (K 0) 800 f2)]) u) t) (va_A [(cc_O a0 7 [.null, .null, .int 0, .int 0]), (cc_l a1 (K 0) 60 f1), (cc_l a2 (K 0) 800 f2)] sz)) 0 0 (va_A [(cc_O a0 7 [.null, .null, .int 0, .int 0]), (cc_l a1 (K 0) 60 f1), (cc_l a2 (K 0) 800 f2)] sz) := by
  refine Met.ofW (cc := cX7_init) (maxL := 4) (ret := none) (by decide +kernel) rfl ?_
  intro p e s m args below meth c s₁ B hml hv
  obtain ⟨rfl, hsz, hP, hK, hD0, hN⟩ := hv
  have hx := B.exec
  have hb := B.bytes
  have hr := B.returns
  have hts := atoms_spec (ws := wsX7_init) B.pre
  have hown : s.vm.findClass RX7 = some m.cls := findClass_of_methodNamed B.named
  have hlocks := B.notSynchronized
  have hin : meth.name = "<init>" := (name_of_methodNamed B.named B.method).1
  subst hsz
  have hD := hD0.self (sz := s.heap.size)
  generalize hAe : va_A [(cc_O a0 7 [.null, .null, .int 0, .int 0]), (cc_l a1 (K 0) 60 f1), (cc_l a2 (K 0) 800 f2)] s.heap.size = A at hD ⊢
  have hA : ∀ q : Nat, s.heap.size ≤ q → A q := fun q h => by rw [← hAe]; exact Or.inr h
  clear hAe
  have hS : va_S A s.heap s.heap [] := va_S.rf
  replace hP : va_P D vwCl [(cc_O a0 7 [.null, .null, .int 0, .int 0]), (cc_l a1 (K 0) 60 f1), (cc_l a2 (K 0) 800 f2)] s.heap := hP
  have hl := lv_entry [.ref a0, .ref a1, .ref a2, .int 0] (n := 4) (Nat.le_of_ble_eq_true rfl)
  rw [lg_entry_eq]
  generalize (lg_sl [.ref a0, .ref a1, .ref a2, .int 0] ++ List.replicate (4 - (lg_sl [.ref a0, .ref a1, .ref a2, .int 0]).length) Slot.unset).toArray = ls at hl ⊢
  have hl : lv_has ls 4 [(0, .ref a0), (1, .ref a1), (2, .ref a2), (3, .int 0)] := hl
  have hw7 : ∀ w ∈ wsX70, w ∈ wsX7_init := fun w h => (List.mem_cons_of_mem _ (List.mem_append_right _ h))
  refine lv_aload_n hx hb dX7_init_0 rfl (lv_at hl 0 rfl) ?_
  refine W.objInit hx hb hown (hts _ mm_X7_init_222) (hts _ mm_X7_init_166) (hts _ (List.mem_cons_of_mem _ (List.mem_append_left _ (List.mem_of_getElem? (i := 2) rfl)))) rfl (by rw [hml]; exact hl.1) rfl dX7_init_1 (Nat.le_of_ble_eq_true rfl) (Nat.le_of_ble_eq_true rfl) ?_
  refine W.eq (g2 := F0 m 4 ls []) rfl ?_
  refine lv_aload_n hx hb dX7_init_4 rfl (lv_at hl 0 rfl) (lv_aload_n hx hb dX7_init_5 rfl (lv_at hl 1 rfl) (va_putF (ci := 7) (v := .ref a1) (ty := .array .int) (C := RX7) (T := TX7) (N := 4) hx hb hts hw7 tyX7 tyX7_ok nmX7 hown hK hP hD hS 0 rfl rfl 0 (by decide +kernel) (hts _ mm_X7_init_223) (fun _ h9 => h9) rfl hin rfl (by decide +kernel) (by first | rfl | decide) (by first | rfl | decide) (Nat.le_of_ble_eq_true rfl) dX7_init_6 (fun H locs hP0 hD0 hS0 => ?_)))
  replace hP : va_P D vwCl [(cc_O a0 7 [.ref a1, .null, .int 0, .int 0]), (cc_l a1 (K 0) 60 f1), (cc_l a2 (K 0) 800 f2)] H := hP0
  replace hD := as_D hP hD0 rfl
  replace hS := hS0
  clear hP0 hD0 hS0
  refine lv_aload_n hx hb dX7_init_9 rfl (lv_at hl 0 rfl) (lv_aload_n hx hb dX7_init_10 rfl (lv_at hl 2 rfl) (va_putF (ci := 7) (v := .ref a2) (ty := .array .int) (C := RX7) (T := TX7) (N := 4) hx hb hts hw7 tyX7 tyX7_ok nmX7 hown hK hP hD hS 0 rfl rfl 1 (by decide +kernel) (hts _ mm_X7_init_224) (fun _ h9 => h9) rfl hin rfl (by decide +kernel) (by first | rfl | decide) (by first | rfl | decide) (Nat.le_of_ble_eq_true rfl) dX7_init_11 (fun H locs hP0 hD0 hS0 => ?_)))
  replace hP : va_P D vwCl [(cc_O a0 7 [.ref a1, .ref a2, .int 0, .int 0]), (cc_l a1 (K 0) 60 f1), (cc_l a2 (K 0) 800 f2)] H := hP0
  replace hD := as_D hP hD0 rfl
  replace hS := hS0
  clear hP0 hD0 hS0
  refine lv_aload_n hx hb dX7_init_14 rfl (lv_at hl 0 rfl) (lv_iload_n hx hb dX7_init_15 rfl (lv_at hl 3 rfl) (va_put (ci := 7) (v := .int 0) (ty := .int) (C := RX7) (T := TX7) (N := 4) hx hb hts hw7 tyX7 tyX7_ok nmX7 hown hK hP hD hS 0 rfl rfl 2 (by decide +kernel) (hts _ mm_X7_init_225) (fun _ h9 => h9) rfl (by decide +kernel) (by first | rfl | decide) (by first | rfl | decide) (Nat.le_of_ble_eq_true rfl) dX7_init_16 (fun H locs hP0 hD0 hS0 => ?_)))
  replace hP : va_P D vwCl [(cc_O a0 7 [.ref a1, .ref a2, .int 0, .int 0]), (cc_l a1 (K 0) 60 f1), (cc_l a2 (K 0) 800 f2)] H := hP0
  replace hD := as_D hP hD0 rfl
  replace hS := hS0
  clear hP0 hD0 hS0
  refine lv_aload_n hx hb dX7_init_19 rfl (lv_at hl 0 rfl) (lv_aload_n hx hb dX7_init_20 rfl (lv_at hl 2 rfl) (va_alen (v := 800) hx hb hK hP 2 0 rfl rfl rfl dX7_init_21 (va_put (ci := 7) (v := .int 800) (ty := .int) (C := RX7) (T := TX7) (N := 4) hx hb hts hw7 tyX7 tyX7_ok nmX7 hown hK hP hD hS 0 rfl rfl 3 (by decide +kernel) (hts _ mm_X7_init_226) (fun _ h9 => h9) rfl (by decide +kernel) (by first | rfl | decide) (by first | rfl | decide) (Nat.le_of_ble_eq_true rfl) dX7_init_22 (fun H locs hP0 hD0 hS0 => ?_))))
  replace hP : va_P D vwCl [(cc_O a0 7 [.ref a1, .ref a2, .int 0, .int 800]), (cc_l a1 (K 0) 60 f1), (cc_l a2 (K 0) 800 f2)] H := hP0
  replace hD := as_D hP hD0 rfl
  replace hS := hS0
  clear hP0 hD0 hS0
  have hP9 := hP.sub (ws' := [(cc_O a0 7 [.ref a1, .ref a2, .int 0, .int 800]), (cc_l a1 (K 0) 60 f1), (cc_l a2 (K 0) 800 f2)]) [0, 1, 2] rfl
  have hD9 := sub_D hP9 hD [0, 1, 2] (by decide +kernel) rfl
  exact W.vret hx hb hr (fun t ht hW => ⟨⟨(fun _ => 0, fun _ => fun _ => 0, fun _ => fun _ => 0, fun _ => 0), rfl, trivial, (⟨by rw [ht]; exact hP9, hD9⟩ : Wd D A _ t)⟩, hS.F ht⟩) hS.2.2 dX7_init_25
set_option maxHeartbeats 4000000 in
set_option maxRecDepth 100000 in
theorem n_X6 (l : Launch) (D : va_G) (K : Nat → ClassId) (a0 : Nat) (sz : Nat) : Met l yX6_init wsX6_init ({ frames := 2, cells := 5, slots := 1270, locals := 35 }) (va_Pc [.ref a0] (Pre D K [(cc_O a0 6 [.null, .null, .int 0, .int 0, .int 0])] sz)) (va_Qv (S := (Nat → Nat) × (Nat → Nat → Int32) × (Nat → Nat → Int64) × (Nat → Int32)) (fun _ => True) (fun u t => Wd D (va_A [(cc_O a0 6 [.null, .null, .int 0, .int 0, .int 0])] sz) ((fun u => [(cc_O a0 6 [.ref (u.1 0), .ref (u.1 2), .int 1, .int 0, .int (-1)]), ((u.1 0), .inr (8, [.ref (u.1 1), .int 0, .int 0, .int 0, .int (-1), .int (-1)])), ((u.1 1), .inl (K 0, 400, .inl (fun _ => 0))), ((u.1 2), .inr (7, [.ref (u.1 3), .ref (u.1 4), .int 0, .int 800])), ((u.1 3), .inl (K 0, 60, .inl (fun _ => 0))), ((u.1 4), .inl (K 0, 800, .inl (fun _ => 0)))]) u) t) (va_A [(cc_O a0 6 [.null, .null, .int 0, .int 0, .int 0])] sz)) 5 1270 (va_A [(cc_O a0 6 [.null, .null, .int 0, .int 0, .int 0])] sz) := by
  refine Met.ofW (cc := cX6_init) (maxL := 1) (ret := none) (by decide +kernel) rfl ?_
  intro p e s m args below meth c s₁ B hml hv
  obtain ⟨rfl, hsz, hP, hK, hD0, hN⟩ := hv
  have hx := B.exec
  have hb := B.bytes
  have hr := B.returns
  have hts := atoms_spec (ws := wsX6_init) B.pre
  have hown : s.vm.findClass RX6 = some m.cls := findClass_of_methodNamed B.named
  have hlocks := B.notSynchronized
  have hin : meth.name = "<init>" := (name_of_methodNamed B.named B.method).1
  subst hsz
  have hD := hD0.self (sz := s.heap.size)
  generalize hAe : va_A [(cc_O a0 6 [.null, .null, .int 0, .int 0, .int 0])] s.heap.size = A at hD ⊢
  have hA : ∀ q : Nat, s.heap.size ≤ q → A q := fun q h => by rw [← hAe]; exact Or.inr h
  clear hAe
  have hS : va_S A s.heap s.heap [] := va_S.rf
  replace hP : va_P D vwCl [(cc_O a0 6 [.null, .null, .int 0, .int 0, .int 0])] s.heap := hP
  have hl := lv_entry [.ref a0] (n := 1) (Nat.le_of_ble_eq_true rfl)
  rw [lg_entry_eq]
  generalize (lg_sl [.ref a0] ++ List.replicate (1 - (lg_sl [.ref a0]).length) Slot.unset).toArray = ls at hl ⊢
  have hl : lv_has ls 1 [(0, .ref a0)] := hl
  have hw6 : ∀ w ∈ wsX60, w ∈ wsX6_init := fun w h => (List.mem_cons_of_mem _ (List.mem_append_left _ (List.mem_append_right _ h)))
  have hw7 : ∀ w ∈ wsX70, w ∈ wsX6_init := fun w h => (List.mem_cons_of_mem _ (List.mem_append_right _ h))
  have hw8 : ∀ w ∈ wsX80, w ∈ wsX6_init := fun w h => (List.mem_cons_of_mem _ (List.mem_append_left _ (List.mem_append_left _ (List.mem_append_right _ h))))
  refine lv_aload_n hx hb dX6_init_0 rfl (lv_at hl 0 rfl) ?_
  refine W.objInit hx hb hown (hts _ mm_X6_init_199) (hts _ mm_X6_init_166) (hts _ (List.mem_cons_of_mem _ (List.mem_append_left _ (List.mem_append_left _ (List.mem_append_left _ (List.mem_append_left _ (List.mem_of_getElem? (i := 2) rfl))))))) rfl (by rw [hml]; exact hl.1) rfl dX6_init_1 (Nat.le_of_ble_eq_true rfl) (Nat.le_of_ble_eq_true rfl) ?_
  refine W.eq (g2 := F0 m 4 ls []) rfl ?_
  refine lv_aload_n hx hb dX6_init_4 rfl (lv_at hl 0 rfl) (va_new (ci := 8) (fs := [.null, .int 0, .int 0, .int 0, .int 0, .int 0]) (C := RX8) (T := TX8) (N := 6) hx hb hts hw8 tyX8 tyX8_ok hown (hts _ mm_X6_init_200) (hts _ mm_X6_init_201) (hts _ mm_X6_init_147) hK hP hD hS hA rfl dfv_X8 (Nat.le_of_ble_eq_true rfl) (Nat.le_of_ble_eq_true rfl) dX6_init_5 (fun q_1 H hP0 hD0 hS0 => ?_))
  replace hP : va_P D vwCl [(cc_O a0 6 [.null, .null, .int 0, .int 0, .int 0]), (cc_O q_1 8 [.null, .int 0, .int 0, .int 0, .int 0, .int 0])] H := hP0
  replace hD := as_D hP hD0 rfl
  replace hS := hS0
  clear hP0 hD0 hS0
  refine W.widen (k := 1) (n := 6) (by omega) (by omega) ?_
  refine lv_dup hx hb dX6_init_8 rfl (kcv (wr := [(cc_O a0 6 [.null, .null, .int 0, .int 0, .int 0])]) (va_runIN (As := []) (rest := [.ref q_1, .ref a0]) ⟨hx, hb, hml, hown, hts⟩ (n_X8 l D K q_1 H.size) ⟨va_cnB 0 hts gX6_init_X8_init_n11 rfl rfl rfl (nst_at hN 2 rfl) (hts _ mm_X6_init_147) (by decide +kernel) ⟨Nat.le_of_ble_eq_true rfl, Nat.le_of_ble_eq_true rfl⟩, rfl, (hts _ mm_X6_init_202)⟩ (mkS hK hN (hP.sub [1] rfl) (hD.sub [1] (by decide +kernel) rfl)) rfl rfl hl.1 rfl (lv_room (Nat.le_of_ble_eq_true rfl)) dX6_init_9 ⟨Nat.le_of_ble_eq_true rfl, Nat.le_of_ble_eq_true rfl⟩) hP hD hS hA [1] [0] rfl rfl (by decide +kernel) (by decide +kernel) (fun u_3 H locs hw hP0 hD0 hS0 => ?_))
  replace hP : va_P D vwCl [(cc_O a0 6 [.null, .null, .int 0, .int 0, .int 0]), (cc_O q_1 8 [.ref (u_3.1 0), .int 0, .int 0, .int 0, .int (-1), .int (-1)]), ((u_3.1 0), .inl (K 0, 400, .inl (fun _ => 0)))] H := hP0
  replace hD := as_D hP hD0 rfl
  replace hS := hS0
  clear hP0 hD0 hS0
  refine W.widen (k := 2) (n := 406) (by omega) (by omega) ?_
  refine va_putF (ci := 6) (v := .ref q_1) (ty := .object "SmokeTune$Tape") (C := RX6) (T := TX6) (N := 5) hx hb hts hw6 tyX6 tyX6_ok nmX6 hown hK hP hD hS 0 rfl rfl 0 (by decide +kernel) (hts _ mm_X6_init_231) (fun _ h9 => h9) rfl hin rfl (by decide +kernel) (by first | rfl | decide) (by first | rfl | decide) (Nat.le_of_ble_eq_true rfl) dX6_init_12 (fun H locs hP0 hD0 hS0 => ?_)
  replace hP : va_P D vwCl [(cc_O a0 6 [.ref q_1, .null, .int 0, .int 0, .int 0]), (cc_O q_1 8 [.ref (u_3.1 0), .int 0, .int 0, .int 0, .int (-1), .int (-1)]), ((u_3.1 0), .inl (K 0, 400, .inl (fun _ => 0)))] H := hP0
  replace hD := as_D hP hD0 rfl
  replace hS := hS0
  clear hP0 hD0 hS0
  refine lv_aload_n hx hb dX6_init_15 rfl (lv_at hl 0 rfl) (va_new (ci := 7) (fs := [.null, .null, .int 0, .int 0]) (C := RX7) (T := TX7) (N := 4) hx hb hts hw7 tyX7 tyX7_ok hown (hts _ mm_X6_init_218) (hts _ mm_X6_init_219) (hts _ mm_X6_init_148) hK hP hD hS hA rfl dfv_X7 (Nat.le_of_ble_eq_true rfl) (Nat.le_of_ble_eq_true rfl) dX6_init_16 (fun q_4 H hP0 hD0 hS0 => ?_))
  replace hP : va_P D vwCl [(cc_O a0 6 [.ref q_1, .null, .int 0, .int 0, .int 0]), (cc_O q_1 8 [.ref (u_3.1 0), .int 0, .int 0, .int 0, .int (-1), .int (-1)]), ((u_3.1 0), .inl (K 0, 400, .inl (fun _ => 0))), (cc_O q_4 7 [.null, .null, .int 0, .int 0])] H := hP0
  replace hD := as_D hP hD0 rfl
  replace hS := hS0
  clear hP0 hD0 hS0
  refine W.widen (k := 3) (n := 410) (by omega) (by omega) ?_
  refine lv_dup hx hb dX6_init_19 rfl (lv_bipush (v := 60) hx hb dX6_init_20 (by decide +kernel) ?_)
  refine k_newa (atype := .int) (ty := .int) (cA := K 0) (a0 := (60, .inl (fun _ => 0))) (N' := 60) hx hb (hts _ mm_X6_init_194) rfl hK 0 rfl hP hD hS hA (fun _ => rfl) (by decide +kernel) (by decide +kernel) (by decide +kernel) (Nat.le_of_ble_eq_true rfl) (Nat.le_of_ble_eq_true rfl) dX6_init_22 (fun q_5 H hP0 hD0 hS0 => ?_)
  replace hP : va_P D vwCl [(cc_O a0 6 [.ref q_1, .null, .int 0, .int 0, .int 0]), (cc_O q_1 8 [.ref (u_3.1 0), .int 0, .int 0, .int 0, .int (-1), .int (-1)]), ((u_3.1 0), .inl (K 0, 400, .inl (fun _ => 0))), (cc_O q_4 7 [.null, .null, .int 0, .int 0]), (cc_l q_5 (K 0) 60 (fun _ => 0))] H := hP0
  replace hD := as_D hP hD0 rfl
  replace hS := hS0
  clear hP0 hD0 hS0
  refine W.widen (k := 4) (n := 470) (by omega) (by omega) ?_
  refine lv_sipush (v := 800) hx hb dX6_init_24 (by decide +kernel) ?_
  refine k_newa (atype := .int) (ty := .int) (cA := K 0) (a0 := (800, .inl (fun _ => 0))) (N' := 800) hx hb (hts _ mm_X6_init_194) rfl hK 0 rfl hP hD hS hA (fun _ => rfl) (by decide +kernel) (by decide +kernel) (by decide +kernel) (Nat.le_of_ble_eq_true rfl) (Nat.le_of_ble_eq_true rfl) dX6_init_27 (fun q_6 H hP0 hD0 hS0 => ?_)
  replace hP : va_P D vwCl [(cc_O a0 6 [.ref q_1, .null, .int 0, .int 0, .int 0]), (cc_O q_1 8 [.ref (u_3.1 0), .int 0, .int 0, .int 0, .int (-1), .int (-1)]), ((u_3.1 0), .inl (K 0, 400, .inl (fun _ => 0))), (cc_O q_4 7 [.null, .null, .int 0, .int 0]), (cc_l q_5 (K 0) 60 (fun _ => 0)), (cc_l q_6 (K 0) 800 (fun _ => 0))] H := hP0
  replace hD := as_D hP hD0 rfl
  replace hS := hS0
  clear hP0 hD0 hS0
  refine W.widen (k := 5) (n := 1270) (by omega) (by omega) ?_
  refine lv_iconst (v := 0) hx hb dX6_init_29 (by decide +kernel) (kcv (wr := [(cc_O a0 6 [.ref q_1, .null, .int 0, .int 0, .int 0]), (cc_O q_1 8 [.ref (u_3.1 0), .int 0, .int 0, .int 0, .int (-1), .int (-1)]), ((u_3.1 0), .inl (K 0, 400, .inl (fun _ => 0)))]) (va_runIN (As := [.ref q_5, .ref q_6, .int 0]) (rest := [.ref q_4, .ref a0]) ⟨hx, hb, hml, hown, hts⟩ (n_X7 l D K q_4 q_5 q_6 (fun _ => 0) (fun _ => 0) H.size) ⟨va_cnB 3 hts gX6_init_X7_init_n20 rfl rfl rfl (nst_at hN 3 rfl) (hts _ mm_X6_init_148) (by decide +kernel) ⟨Nat.le_of_ble_eq_true rfl, Nat.le_of_ble_eq_true rfl⟩, rfl, (hts _ mm_X6_init_220)⟩ (mkS hK hN (hP.sub [3, 4, 5] rfl) (hD.sub [3, 4, 5] (by decide +kernel) rfl)) rfl rfl hl.1 rfl (lv_room (Nat.le_of_ble_eq_true rfl)) dX6_init_30 ⟨Nat.le_of_ble_eq_true rfl, Nat.le_of_ble_eq_true rfl⟩) hP hD hS hA [3, 4, 5] [0, 1, 2] rfl rfl (by decide +kernel) (by decide +kernel) (fun u_8 H locs hw hP0 hD0 hS0 => ?_))
  replace hP : va_P D vwCl [(cc_O a0 6 [.ref q_1, .null, .int 0, .int 0, .int 0]), (cc_O q_1 8 [.ref (u_3.1 0), .int 0, .int 0, .int 0, .int (-1), .int (-1)]), ((u_3.1 0), .inl (K 0, 400, .inl (fun _ => 0))), (cc_O q_4 7 [.ref q_5, .ref q_6, .int 0, .int 800]), (cc_l q_5 (K 0) 60 (fun _ => 0)), (cc_l q_6 (K 0) 800 (fun _ => 0))] H := hP0
  replace hD := as_D hP hD0 rfl
  replace hS := hS0
  clear hP0 hD0 hS0
  refine va_putF (ci := 6) (v := .ref q_4) (ty := .object "SmokeTune$Script") (C := RX6) (T := TX6) (N := 5) hx hb hts hw6 tyX6 tyX6_ok nmX6 hown hK hP hD hS 0 rfl rfl 1 (by decide +kernel) (hts _ mm_X6_init_232) (fun _ h9 => h9) rfl hin rfl (by decide +kernel) (by first | rfl | decide) (by first | rfl | decide) (Nat.le_of_ble_eq_true rfl) dX6_init_33 (fun H locs hP0 hD0 hS0 => ?_)
  replace hP : va_P D vwCl [(cc_O a0 6 [.ref q_1, .ref q_4, .int 0, .int 0, .int 0]), (cc_O q_1 8 [.ref (u_3.1 0), .int 0, .int 0, .int 0, .int (-1), .int (-1)]), ((u_3.1 0), .inl (K 0, 400, .inl (fun _ => 0))), (cc_O q_4 7 [.ref q_5, .ref q_6, .int 0, .int 800]), (cc_l q_5 (K 0) 60 (fun _ => 0)), (cc_l q_6 (K 0) 800 (fun _ => 0))] H := hP0
  replace hD := as_D hP hD0 rfl
  replace hS := hS0
  clear hP0 hD0 hS0
  refine lv_aload_n hx hb dX6_init_36 rfl (lv_at hl 0 rfl) (lv_iconst (v := 1) hx hb dX6_init_37 (by decide +kernel) (va_put (ci := 6) (v := .int 1) (ty := .boolean) (C := RX6) (T := TX6) (N := 5) hx hb hts hw6 tyX6 tyX6_ok nmX6 hown hK hP hD hS 0 rfl rfl 2 (by decide +kernel) (hts _ mm_X6_init_233) (fun _ h9 => h9) rfl (by decide +kernel) (by first | rfl | decide) (by first | rfl | decide) (Nat.le_of_ble_eq_true rfl) dX6_init_38 (fun H locs hP0 hD0 hS0 => ?_)))
  replace hP : va_P D vwCl [(cc_O a0 6 [.ref q_1, .ref q_4, .int 1, .int 0, .int 0]), (cc_O q_1 8 [.ref (u_3.1 0), .int 0, .int 0, .int 0, .int (-1), .int (-1)]), ((u_3.1 0), .inl (K 0, 400, .inl (fun _ => 0))), (cc_O q_4 7 [.ref q_5, .ref q_6, .int 0, .int 800]), (cc_l q_5 (K 0) 60 (fun _ => 0)), (cc_l q_6 (K 0) 800 (fun _ => 0))] H := hP0
  replace hD := as_D hP hD0 rfl
  replace hS := hS0
  clear hP0 hD0 hS0
  refine lv_aload_n hx hb dX6_init_41 rfl (lv_at hl 0 rfl) (lv_iconst (v := 0) hx hb dX6_init_42 (by decide +kernel) (va_put (ci := 6) (v := .int 0) (ty := .int) (C := RX6) (T := TX6) (N := 5) hx hb hts hw6 tyX6 tyX6_ok nmX6 hown hK hP hD hS 0 rfl rfl 3 (by decide +kernel) (hts _ mm_X6_init_234) (fun _ h9 => h9) rfl (by decide +kernel) (by first | rfl | decide) (by first | rfl | decide) (Nat.le_of_ble_eq_true rfl) dX6_init_43 (fun H locs hP0 hD0 hS0 => ?_)))
  replace hP : va_P D vwCl [(cc_O a0 6 [.ref q_1, .ref q_4, .int 1, .int 0, .int 0]), (cc_O q_1 8 [.ref (u_3.1 0), .int 0, .int 0, .int 0, .int (-1), .int (-1)]), ((u_3.1 0), .inl (K 0, 400, .inl (fun _ => 0))), (cc_O q_4 7 [.ref q_5, .ref q_6, .int 0, .int 800]), (cc_l q_5 (K 0) 60 (fun _ => 0)), (cc_l q_6 (K 0) 800 (fun _ => 0))] H := hP0
  replace hD := as_D hP hD0 rfl
  replace hS := hS0
  clear hP0 hD0 hS0
  refine lv_aload_n hx hb dX6_init_46 rfl (lv_at hl 0 rfl) (lv_iconst (v := (-1)) hx hb dX6_init_47 (by decide +kernel) (va_put (ci := 6) (v := .int (-1)) (ty := .int) (C := RX6) (T := TX6) (N := 5) hx hb hts hw6 tyX6 tyX6_ok nmX6 hown hK hP hD hS 0 rfl rfl 4 (by decide +kernel) (hts _ mm_X6_init_235) (fun _ h9 => h9) rfl (by decide +kernel) (by first | rfl | decide) (by first | rfl | decide) (Nat.le_of_ble_eq_true rfl) dX6_init_48 (fun H locs hP0 hD0 hS0 => ?_)))
  replace hP : va_P D vwCl [(cc_O a0 6 [.ref q_1, .ref q_4, .int 1, .int 0, .int (-1)]), (cc_O q_1 8 [.ref (u_3.1 0), .int 0, .int 0, .int 0, .int (-1), .int (-1)]), ((u_3.1 0), .inl (K 0, 400, .inl (fun _ => 0))), (cc_O q_4 7 [.ref q_5, .ref q_6, .int 0, .int 800]), (cc_l q_5 (K 0) 60 (fun _ => 0)), (cc_l q_6 (K 0) 800 (fun _ => 0))] H := hP0
  replace hD := as_D hP hD0 rfl
  replace hS := hS0
  clear hP0 hD0 hS0
  have hP9 := hP.sub (ws' := [(cc_O a0 6 [.ref q_1, .ref q_4, .int 1, .int 0, .int (-1)]), (cc_O q_1 8 [.ref (u_3.1 0), .int 0, .int 0, .int 0, .int (-1), .int (-1)]), ((u_3.1 0), .inl (K 0, 400, .inl (fun _ => 0))), (cc_O q_4 7 [.ref q_5, .ref q_6, .int 0, .int 800]), (cc_l q_5 (K 0) 60 (fun _ => 0)), (cc_l q_6 (K 0) 800 (fun _ => 0))]) [0, 1, 2, 3, 4, 5] rfl
  have hD9 := sub_D hP9 hD [0, 1, 2, 3, 4, 5] (by decide +kernel) rfl
  exact W.vret hx hb hr (fun t ht hW => ⟨⟨(fun i => match i with | 0 => q_1 | 1 => (u_3.1 0) | 2 => q_4 | 3 => q_5 | _ => q_6, fun _ => fun _ => 0, fun _ => fun _ => 0, fun _ => 0), rfl, trivial, (⟨by rw [ht]; exact hP9, hD9⟩ : Wd D A _ t)⟩, hS.F ht⟩) hS.2.2 dX6_init_51
set_option maxHeartbeats 4000000 in
set_option maxRecDepth 100000 in
theorem n_X1 (l : Launch) (D : va_G) (K : Nat → ClassId) (a0 : Nat) (sz : Nat) : Met l yX1_init wsX1_init ({ frames := 4, cells := 15, slots := 753, locals := 72 }) (va_Pc [.ref a0] (Pre D K [(cc_O a0 1 [.null, .null, .null, .null, .null, .int 0, .int 0, .int 0])] sz)) (va_Qv (S := (Nat → Nat) × (Nat → Nat → Int32) × (Nat → Nat → Int64) × (Nat → Int32)) (fun _ => True) (fun u t => Wd D (va_A [(cc_O a0 1 [.null, .null, .null, .null, .null, .int 0, .int 0, .int 0])] sz) ((fun u => [(cc_O a0 1 [.ref (u.1 0), .ref (u.1 5), .ref (u.1 7), .ref (u.1 8), .ref (u.1 13), .int 0, .int (-1), .int (-1)]), ((u.1 0), .inr (10, [.ref (u.1 1)])), ((u.1 1), .inr (0, [.ref (u.1 2), .ref (u.1 4)])), ((u.1 2), .inr (3, [.ref (u.1 3), .int 0])), ((u.1 3), .inl (K 0, 64, .inl (fun _ => 0))), ((u.1 4), .inl (K 0, 9, .inl (fun _ => 0))), ((u.1 5), .inr (3, [.ref (u.1 6), .int 0])), ((u.1 6), .inl (K 0, 64, .inl (fun _ => 0))), ((u.1 7), .inl (K 0, 28, .inl (fun _ => 0))), ((u.1 8), .inr (9, [.ref (u.1 9), .ref (u.1 10), .ref (u.1 11), .ref (u.1 12), .int 0, .int 0, .int (-1), .int 0, .int 0, .int 0])), ((u.1 9), .inl (K 0, 56, .inl (fun _ => 0))), ((u.1 10), .inl (K 0, 24, .inl (fun _ => 0))), ((u.1 11), .inl (K 0, 6, .inl tm0)), ((u.1 12), .inl (K 4, 6, .inr (.inr (.inr (.inr (fun _ => none)))))), ((u.1 13), .inr (2, [.ref (u.1 14), .int 0, .int 0])), ((u.1 14), .inl (K 0, 476, .inl (fun _ => 0)))]) u) t) (va_A [(cc_O a0 1 [.null, .null, .null, .null, .null, .int 0, .int 0, .int 0])] sz)) 15 753 (va_A [(cc_O a0 1 [.null, .null, .null, .null, .null, .int 0, .int 0, .int 0])] sz) := by
  refine Met.ofW (cc := cX1_init) (maxL := 1) (ret := none) (by decide +kernel) rfl ?_
  intro p e s m args below meth c s₁ B hml hv
  obtain ⟨rfl, hsz, hP, hK, hD0, hN⟩ := hv
  have hx := B.exec
  have hb := B.bytes
  have hr := B.returns
  have hts := atoms_spec (ws := wsX1_init) B.pre
  have hown : s.vm.findClass RX1 = some m.cls := findClass_of_methodNamed B.named
  have hlocks := B.notSynchronized
  have hin : meth.name = "<init>" := (name_of_methodNamed B.named B.method).1
  subst hsz
  have hD := hD0.self (sz := s.heap.size)
  generalize hAe : va_A [(cc_O a0 1 [.null, .null, .null, .null, .null, .int 0, .int 0, .int 0])] s.heap.size = A at hD ⊢
  have hA : ∀ q : Nat, s.heap.size ≤ q → A q := fun q h => by rw [← hAe]; exact Or.inr h
  clear hAe
  have hS : va_S A s.heap s.heap [] := va_S.rf
  replace hP : va_P D vwCl [(cc_O a0 1 [.null, .null, .null, .null, .null, .int 0, .int 0, .int 0])] s.heap := hP
  have hl := lv_entry [.ref a0] (n := 1) (Nat.le_of_ble_eq_true rfl)
  rw [lg_entry_eq]
  generalize (lg_sl [.ref a0] ++ List.replicate (1 - (lg_sl [.ref a0]).length) Slot.unset).toArray = ls at hl ⊢
  have hl : lv_has ls 1 [(0, .ref a0)] := hl
  have hw0 : ∀ w ∈ wsX00, w ∈ wsX1_init := fun w h => (List.mem_cons_of_mem _ (List.mem_append_right _ h))
  have hw1 : ∀ w ∈ wsX10, w ∈ wsX1_init := fun w h => (List.mem_cons_of_mem _ (List.mem_append_left _ (List.mem_append_left _ (List.mem_append_left _ (List.mem_append_left _ (List.mem_append_right _ h))))))
  have hw2 : ∀ w ∈ wsX20, w ∈ wsX1_init := fun w h => (List.mem_cons_of_mem _ (List.mem_append_left _ (List.mem_append_right _ h)))
  have hw3 : ∀ w ∈ wsX30, w ∈ wsX1_init := fun w h => (List.mem_cons_of_mem _ (List.mem_append_left _ (List.mem_append_left _ (List.mem_append_left _ (List.mem_append_right _ h)))))
  have hw9 : ∀ w ∈ wsX90, w ∈ wsX1_init := fun w h => (List.mem_cons_of_mem _ (List.mem_append_left _ (List.mem_append_left _ (List.mem_append_right _ h))))
  have hw10 : ∀ w ∈ wsX100, w ∈ wsX1_init := fun w h => (List.mem_cons_of_mem _ (List.mem_append_left _ (List.mem_append_left _ (List.mem_append_left _ (List.mem_append_left _ (List.mem_append_left _ (List.mem_append_right _ h)))))))
  refine lv_aload_n hx hb dX1_init_0 rfl (lv_at hl 0 rfl) ?_
  refine W.objInit hx hb hown (hts _ mm_X1_init_245) (hts _ mm_X1_init_166) (hts _ (List.mem_cons_of_mem _ (List.mem_append_left _ (List.mem_append_left _ (List.mem_append_left _ (List.mem_append_left _ (List.mem_append_left _ (List.mem_append_left _ (List.mem_append_left _ (List.mem_of_getElem? (i := 2) rfl)))))))))) rfl (by rw [hml]; exact hl.1) rfl dX1_init_1 (Nat.le_of_ble_eq_true rfl) (Nat.le_of_ble_eq_true rfl) ?_
  refine W.eq (g2 := F0 m 4 ls []) rfl ?_
  refine lv_aload_n hx hb dX1_init_4 rfl (lv_at hl 0 rfl) (va_new (ci := 10) (fs := [.null]) (C := RX10) (T := TX10) (N := 1) hx hb hts hw10 tyX10 tyX10_ok hown (hts _ mm_X1_init_246) (hts _ mm_X1_init_247) (hts _ mm_X1_init_150) hK hP hD hS hA rfl dfv_X10 (Nat.le_of_ble_eq_true rfl) (Nat.le_of_ble_eq_true rfl) dX1_init_5 (fun q_1 H hP0 hD0 hS0 => ?_))
  replace hP : va_P D vwCl [(cc_O a0 1 [.null, .null, .null, .null, .null, .int 0, .int 0, .int 0]), (cc_O q_1 10 [.null])] H := hP0
  replace hD := as_D hP hD0 rfl
  replace hS := hS0
  clear hP0 hD0 hS0
  refine W.widen (k := 1) (n := 1) (by omega) (by omega) ?_
  refine lv_dup hx hb dX1_init_8 rfl (kcv (wr := [(cc_O a0 1 [.null, .null, .null, .null, .null, .int 0, .int 0, .int 0])]) (va_runIN (As := []) (rest := [.ref q_1, .ref a0]) ⟨hx, hb, hml, hown, hts⟩ (n_X10 l D K q_1 H.size) ⟨va_cnB 0 hts gX1_init_X10_init_n13 rfl rfl rfl (nst_at hN 5 rfl) (hts _ mm_X1_init_150) (by decide +kernel) ⟨Nat.le_of_ble_eq_true rfl, Nat.le_of_ble_eq_true rfl⟩, rfl, (hts _ mm_X1_init_248)⟩ (mkS hK hN (hP.sub [1] rfl) (hD.sub [1] (by decide +kernel) rfl)) rfl rfl hl.1 rfl (lv_room (Nat.le_of_ble_eq_true rfl)) dX1_init_9 ⟨Nat.le_of_ble_eq_true rfl, Nat.le_of_ble_eq_true rfl⟩) hP hD hS hA [1] [0] rfl rfl (by decide +kernel) (by decide +kernel) (fun u_3 H locs hw hP0 hD0 hS0 => ?_))
  replace hP : va_P D vwCl [(cc_O a0 1 [.null, .null, .null, .null, .null, .int 0, .int 0, .int 0]), (cc_O q_1 10 [.ref (u_3.1 0)]), ((u_3.1 0), .inr (0, [.ref (u_3.1 1), .ref (u_3.1 3)])), ((u_3.1 1), .inr (3, [.ref (u_3.1 2), .int 0])), ((u_3.1 2), .inl (K 0, 64, .inl (fun _ => 0))), ((u_3.1 3), .inl (K 0, 9, .inl (fun _ => 0)))] H := hP0
  replace hD := as_D hP hD0 rfl
  replace hS := hS0
  clear hP0 hD0 hS0
  refine W.widen (k := 5) (n := 78) (by omega) (by omega) ?_
  refine va_putF (ci := 1) (v := .ref q_1) (ty := .object "SmokeTune$Works") (C := RX1) (T := TX1) (N := 8) hx hb hts hw1 tyX1 tyX1_ok nmX1 hown hK hP hD hS 0 rfl rfl 0 (by decide +kernel) (hts _ mm_X1_init_284) (fun _ h9 => h9) rfl hin rfl (by decide +kernel) (by first | rfl | decide) (by first | rfl | decide) (Nat.le_of_ble_eq_true rfl) dX1_init_12 (fun H locs hP0 hD0 hS0 => ?_)
  replace hP : va_P D vwCl [(cc_O a0 1 [.ref q_1, .null, .null, .null, .null, .int 0, .int 0, .int 0]), (cc_O q_1 10 [.ref (u_3.1 0)]), ((u_3.1 0), .inr (0, [.ref (u_3.1 1), .ref (u_3.1 3)])), ((u_3.1 1), .inr (3, [.ref (u_3.1 2), .int 0])), ((u_3.1 2), .inl (K 0, 64, .inl (fun _ => 0))), ((u_3.1 3), .inl (K 0, 9, .inl (fun _ => 0)))] H := hP0
  replace hD := as_D hP hD0 rfl
  replace hS := hS0
  clear hP0 hD0 hS0
  refine lv_aload_n hx hb dX1_init_15 rfl (lv_at hl 0 rfl) (va_new (ci := 3) (fs := [.null, .int 0]) (C := RX3) (T := TX3) (N := 2) hx hb hts hw3 tyX3 tyX3_ok hown (hts _ mm_X1_init_271) (hts _ mm_X1_init_257) (hts _ mm_X1_init_152) hK hP hD hS hA rfl dfv_X3 (Nat.le_of_ble_eq_true rfl) (Nat.le_of_ble_eq_true rfl) dX1_init_16 (fun q_4 H hP0 hD0 hS0 => ?_))
  replace hP : va_P D vwCl [(cc_O a0 1 [.ref q_1, .null, .null, .null, .null, .int 0, .int 0, .int 0]), (cc_O q_1 10 [.ref (u_3.1 0)]), ((u_3.1 0), .inr (0, [.ref (u_3.1 1), .ref (u_3.1 3)])), ((u_3.1 1), .inr (3, [.ref (u_3.1 2), .int 0])), ((u_3.1 2), .inl (K 0, 64, .inl (fun _ => 0))), ((u_3.1 3), .inl (K 0, 9, .inl (fun _ => 0))), (cc_O q_4 3 [.null, .int 0])] H := hP0
  replace hD := as_D hP hD0 rfl
  replace hS := hS0
  clear hP0 hD0 hS0
  refine W.widen (k := 6) (n := 80) (by omega) (by omega) ?_
  refine lv_dup hx hb dX1_init_19 rfl (kcv (wr := [(cc_O a0 1 [.ref q_1, .null, .null, .null, .null, .int 0, .int 0, .int 0]), (cc_O q_1 10 [.ref (u_3.1 0)]), ((u_3.1 0), .inr (0, [.ref (u_3.1 1), .ref (u_3.1 3)])), ((u_3.1 1), .inr (3, [.ref (u_3.1 2), .int 0])), ((u_3.1 2), .inl (K 0, 64, .inl (fun _ => 0))), ((u_3.1 3), .inl (K 0, 9, .inl (fun _ => 0)))]) (va_runIN (As := []) (rest := [.ref q_4, .ref a0]) ⟨hx, hb, hml, hown, hts⟩ (n_X3 l D K q_4 H.size) ⟨va_cnB 0 hts gX1_init_X3_init_n20 rfl rfl rfl (nst_at hN 8 rfl) (hts _ mm_X1_init_152) (by decide +kernel) ⟨Nat.le_of_ble_eq_true rfl, Nat.le_of_ble_eq_true rfl⟩, rfl, (hts _ mm_X1_init_258)⟩ (mkS hK hN (hP.sub [6] rfl) (hD.sub [6] (by decide +kernel) rfl)) rfl rfl hl.1 rfl (lv_room (Nat.le_of_ble_eq_true rfl)) dX1_init_20 ⟨Nat.le_of_ble_eq_true rfl, Nat.le_of_ble_eq_true rfl⟩) hP hD hS hA [6] [0, 1, 2, 3, 4, 5] rfl rfl (by decide +kernel) (by decide +kernel) (fun u_6 H locs hw hP0 hD0 hS0 => ?_))
  replace hP : va_P D vwCl [(cc_O a0 1 [.ref q_1, .null, .null, .null, .null, .int 0, .int 0, .int 0]), (cc_O q_1 10 [.ref (u_3.1 0)]), ((u_3.1 0), .inr (0, [.ref (u_3.1 1), .ref (u_3.1 3)])), ((u_3.1 1), .inr (3, [.ref (u_3.1 2), .int 0])), ((u_3.1 2), .inl (K 0, 64, .inl (fun _ => 0))), ((u_3.1 3), .inl (K 0, 9, .inl (fun _ => 0))), (cc_O q_4 3 [.ref (u_6.1 0), .int 0]), ((u_6.1 0), .inl (K 0, 64, .inl (fun _ => 0)))] H := hP0
  replace hD := as_D hP hD0 rfl
  replace hS := hS0
  clear hP0 hD0 hS0
  refine W.widen (k := 7) (n := 144) (by omega) (by omega) ?_
  refine va_putF (ci := 1) (v := .ref q_4) (ty := .object "SmokeTune$Machine") (C := RX1) (T := TX1) (N := 8) hx hb hts hw1 tyX1 tyX1_ok nmX1 hown hK hP hD hS 0 rfl rfl 1 (by decide +kernel) (hts _ mm_X1_init_285) (fun _ h9 => h9) rfl hin rfl (by decide +kernel) (by first | rfl | decide) (by first | rfl | decide) (Nat.le_of_ble_eq_true rfl) dX1_init_23 (fun H locs hP0 hD0 hS0 => ?_)
  replace hP : va_P D vwCl [(cc_O a0 1 [.ref q_1, .ref q_4, .null, .null, .null, .int 0, .int 0, .int 0]), (cc_O q_1 10 [.ref (u_3.1 0)]), ((u_3.1 0), .inr (0, [.ref (u_3.1 1), .ref (u_3.1 3)])), ((u_3.1 1), .inr (3, [.ref (u_3.1 2), .int 0])), ((u_3.1 2), .inl (K 0, 64, .inl (fun _ => 0))), ((u_3.1 3), .inl (K 0, 9, .inl (fun _ => 0))), (cc_O q_4 3 [.ref (u_6.1 0), .int 0]), ((u_6.1 0), .inl (K 0, 64, .inl (fun _ => 0)))] H := hP0
  replace hD := as_D hP hD0 rfl
  replace hS := hS0
  clear hP0 hD0 hS0
  refine lv_aload_n hx hb dX1_init_26 rfl (lv_at hl 0 rfl) (lv_bipush (v := 28) hx hb dX1_init_27 (by decide +kernel) ?_)
  refine k_newa (atype := .int) (ty := .int) (cA := K 0) (a0 := (28, .inl (fun _ => 0))) (N' := 28) hx hb (hts _ mm_X1_init_194) rfl hK 0 rfl hP hD hS hA (fun _ => rfl) (by decide +kernel) (by decide +kernel) (by decide +kernel) (Nat.le_of_ble_eq_true rfl) (Nat.le_of_ble_eq_true rfl) dX1_init_29 (fun q_7 H hP0 hD0 hS0 => ?_)
  replace hP : va_P D vwCl [(cc_O a0 1 [.ref q_1, .ref q_4, .null, .null, .null, .int 0, .int 0, .int 0]), (cc_O q_1 10 [.ref (u_3.1 0)]), ((u_3.1 0), .inr (0, [.ref (u_3.1 1), .ref (u_3.1 3)])), ((u_3.1 1), .inr (3, [.ref (u_3.1 2), .int 0])), ((u_3.1 2), .inl (K 0, 64, .inl (fun _ => 0))), ((u_3.1 3), .inl (K 0, 9, .inl (fun _ => 0))), (cc_O q_4 3 [.ref (u_6.1 0), .int 0]), ((u_6.1 0), .inl (K 0, 64, .inl (fun _ => 0))), (cc_l q_7 (K 0) 28 (fun _ => 0))] H := hP0
  replace hD := as_D hP hD0 rfl
  replace hS := hS0
  clear hP0 hD0 hS0
  refine W.widen (k := 8) (n := 172) (by omega) (by omega) ?_
  refine va_putF (ci := 1) (v := .ref q_7) (ty := .array .int) (C := RX1) (T := TX1) (N := 8) hx hb hts hw1 tyX1 tyX1_ok nmX1 hown hK hP hD hS 0 rfl rfl 2 (by decide +kernel) (hts _ mm_X1_init_286) (fun _ h9 => h9) rfl hin rfl (by decide +kernel) (by first | rfl | decide) (by first | rfl | decide) (Nat.le_of_ble_eq_true rfl) dX1_init_31 (fun H locs hP0 hD0 hS0 => ?_)
  replace hP : va_P D vwCl [(cc_O a0 1 [.ref q_1, .ref q_4, .ref q_7, .null, .null, .int 0, .int 0, .int 0]), (cc_O q_1 10 [.ref (u_3.1 0)]), ((u_3.1 0), .inr (0, [.ref (u_3.1 1), .ref (u_3.1 3)])), ((u_3.1 1), .inr (3, [.ref (u_3.1 2), .int 0])), ((u_3.1 2), .inl (K 0, 64, .inl (fun _ => 0))), ((u_3.1 3), .inl (K 0, 9, .inl (fun _ => 0))), (cc_O q_4 3 [.ref (u_6.1 0), .int 0]), ((u_6.1 0), .inl (K 0, 64, .inl (fun _ => 0))), (cc_l q_7 (K 0) 28 (fun _ => 0))] H := hP0
  replace hD := as_D hP hD0 rfl
  replace hS := hS0
  clear hP0 hD0 hS0
  refine lv_aload_n hx hb dX1_init_34 rfl (lv_at hl 0 rfl) (va_new (ci := 9) (fs := [.null, .null, .null, .null, .int 0, .int 0, .int 0, .int 0, .int 0, .int 0]) (C := RX9) (T := TX9) (N := 10) hx hb hts hw9 tyX9 tyX9_ok hown (hts _ mm_X1_init_272) (hts _ mm_X1_init_169) (hts _ mm_X1_init_145) hK hP hD hS hA rfl dfv_X9 (Nat.le_of_ble_eq_true rfl) (Nat.le_of_ble_eq_true rfl) dX1_init_35 (fun q_8 H hP0 hD0 hS0 => ?_))
  replace hP : va_P D vwCl [(cc_O a0 1 [.ref q_1, .ref q_4, .ref q_7, .null, .null, .int 0, .int 0, .int 0]), (cc_O q_1 10 [.ref (u_3.1 0)]), ((u_3.1 0), .inr (0, [.ref (u_3.1 1), .ref (u_3.1 3)])), ((u_3.1 1), .inr (3, [.ref (u_3.1 2), .int 0])), ((u_3.1 2), .inl (K 0, 64, .inl (fun _ => 0))), ((u_3.1 3), .inl (K 0, 9, .inl (fun _ => 0))), (cc_O q_4 3 [.ref (u_6.1 0), .int 0]), ((u_6.1 0), .inl (K 0, 64, .inl (fun _ => 0))), (cc_l q_7 (K 0) 28 (fun _ => 0)), (cc_O q_8 9 [.null, .null, .null, .null, .int 0, .int 0, .int 0, .int 0, .int 0, .int 0])] H := hP0
  replace hD := as_D hP hD0 rfl
  replace hS := hS0
  clear hP0 hD0 hS0
  refine W.widen (k := 9) (n := 182) (by omega) (by omega) ?_
  refine lv_dup hx hb dX1_init_38 rfl (kcv (wr := [(cc_O a0 1 [.ref q_1, .ref q_4, .ref q_7, .null, .null, .int 0, .int 0, .int 0]), (cc_O q_1 10 [.ref (u_3.1 0)]), ((u_3.1 0), .inr (0, [.ref (u_3.1 1), .ref (u_3.1 3)])), ((u_3.1 1), .inr (3, [.ref (u_3.1 2), .int 0])), ((u_3.1 2), .inl (K 0, 64, .inl (fun _ => 0))), ((u_3.1 3), .inl (K 0, 9, .inl (fun _ => 0))), (cc_O q_4 3 [.ref (u_6.1 0), .int 0]), ((u_6.1 0), .inl (K 0, 64, .inl (fun _ => 0))), (cc_l q_7 (K 0) 28 (fun _ => 0))]) (va_runIN (As := []) (rest := [.ref q_8, .ref a0]) ⟨hx, hb, hml, hown, hts⟩ (n_X9 l D K q_8 H.size) ⟨va_cnB 0 hts gX1_init_X9_init_n31 rfl rfl rfl (nst_at hN 9 rfl) (hts _ mm_X1_init_145) (by decide +kernel) ⟨Nat.le_of_ble_eq_true rfl, Nat.le_of_ble_eq_true rfl⟩, rfl, (hts _ mm_X1_init_170)⟩ (mkS hK hN (hP.sub [9] rfl) (hD.sub [9] (by decide +kernel) rfl)) rfl rfl hl.1 rfl (lv_room (Nat.le_of_ble_eq_true rfl)) dX1_init_39 ⟨Nat.le_of_ble_eq_true rfl, Nat.le_of_ble_eq_true rfl⟩) hP hD hS hA [9] [0, 1, 2, 3, 4, 5, 6, 7, 8] rfl rfl (by decide +kernel) (by decide +kernel) (fun u_10 H locs hw hP0 hD0 hS0 => ?_))
  replace hP : va_P D vwCl [(cc_O a0 1 [.ref q_1, .ref q_4, .ref q_7, .null, .null, .int 0, .int 0, .int 0]), (cc_O q_1 10 [.ref (u_3.1 0)]), ((u_3.1 0), .inr (0, [.ref (u_3.1 1), .ref (u_3.1 3)])), ((u_3.1 1), .inr (3, [.ref (u_3.1 2), .int 0])), ((u_3.1 2), .inl (K 0, 64, .inl (fun _ => 0))), ((u_3.1 3), .inl (K 0, 9, .inl (fun _ => 0))), (cc_O q_4 3 [.ref (u_6.1 0), .int 0]), ((u_6.1 0), .inl (K 0, 64, .inl (fun _ => 0))), (cc_l q_7 (K 0) 28 (fun _ => 0)), (cc_O q_8 9 [.ref (u_10.1 0), .ref (u_10.1 1), .ref (u_10.1 2), .ref (u_10.1 3), .int 0, .int 0, .int (-1), .int 0, .int 0, .int 0]), ((u_10.1 0), .inl (K 0, 56, .inl (fun _ => 0))), ((u_10.1 1), .inl (K 0, 24, .inl (fun _ => 0))), ((u_10.1 2), .inl (K 0, 6, .inl tm0)), ((u_10.1 3), .inl (K 4, 6, .inr (.inr (.inr (.inr (fun _ => none))))))] H := hP0
  replace hD := as_D hP hD0 rfl
  replace hS := hS0
  clear hP0 hD0 hS0
  refine W.widen (k := 13) (n := 274) (by omega) (by omega) ?_
  refine va_putF (ci := 1) (v := .ref q_8) (ty := .object "SmokeTune$Town") (C := RX1) (T := TX1) (N := 8) hx hb hts hw1 tyX1 tyX1_ok nmX1 hown hK hP hD hS 0 rfl rfl 3 (by decide +kernel) (hts _ mm_X1_init_287) (fun _ h9 => h9) rfl hin rfl (by decide +kernel) (by first | rfl | decide) (by first | rfl | decide) (Nat.le_of_ble_eq_true rfl) dX1_init_42 (fun H locs hP0 hD0 hS0 => ?_)
  replace hP : va_P D vwCl [(cc_O a0 1 [.ref q_1, .ref q_4, .ref q_7, .ref q_8, .null, .int 0, .int 0, .int 0]), (cc_O q_1 10 [.ref (u_3.1 0)]), ((u_3.1 0), .inr (0, [.ref (u_3.1 1), .ref (u_3.1 3)])), ((u_3.1 1), .inr (3, [.ref (u_3.1 2), .int 0])), ((u_3.1 2), .inl (K 0, 64, .inl (fun _ => 0))), ((u_3.1 3), .inl (K 0, 9, .inl (fun _ => 0))), (cc_O q_4 3 [.ref (u_6.1 0), .int 0]), ((u_6.1 0), .inl (K 0, 64, .inl (fun _ => 0))), (cc_l q_7 (K 0) 28 (fun _ => 0)), (cc_O q_8 9 [.ref (u_10.1 0), .ref (u_10.1 1), .ref (u_10.1 2), .ref (u_10.1 3), .int 0, .int 0, .int (-1), .int 0, .int 0, .int 0]), ((u_10.1 0), .inl (K 0, 56, .inl (fun _ => 0))), ((u_10.1 1), .inl (K 0, 24, .inl (fun _ => 0))), ((u_10.1 2), .inl (K 0, 6, .inl tm0)), ((u_10.1 3), .inl (K 4, 6, .inr (.inr (.inr (.inr (fun _ => none))))))] H := hP0
  replace hD := as_D hP hD0 rfl
  replace hS := hS0
  clear hP0 hD0 hS0
  refine lv_aload_n hx hb dX1_init_45 rfl (lv_at hl 0 rfl) (va_new (ci := 2) (fs := [.null, .int 0, .int 0]) (C := RX2) (T := TX2) (N := 3) hx hb hts hw2 tyX2 tyX2_ok hown (hts _ mm_X1_init_273) (hts _ mm_X1_init_274) (hts _ mm_X1_init_153) hK hP hD hS hA rfl dfv_X2 (Nat.le_of_ble_eq_true rfl) (Nat.le_of_ble_eq_true rfl) dX1_init_46 (fun q_11 H hP0 hD0 hS0 => ?_))
  replace hP : va_P D vwCl [(cc_O a0 1 [.ref q_1, .ref q_4, .ref q_7, .ref q_8, .null, .int 0, .int 0, .int 0]), (cc_O q_1 10 [.ref (u_3.1 0)]), ((u_3.1 0), .inr (0, [.ref (u_3.1 1), .ref (u_3.1 3)])), ((u_3.1 1), .inr (3, [.ref (u_3.1 2), .int 0])), ((u_3.1 2), .inl (K 0, 64, .inl (fun _ => 0))), ((u_3.1 3), .inl (K 0, 9, .inl (fun _ => 0))), (cc_O q_4 3 [.ref (u_6.1 0), .int 0]), ((u_6.1 0), .inl (K 0, 64, .inl (fun _ => 0))), (cc_l q_7 (K 0) 28 (fun _ => 0)), (cc_O q_8 9 [.ref (u_10.1 0), .ref (u_10.1 1), .ref (u_10.1 2), .ref (u_10.1 3), .int 0, .int 0, .int (-1), .int 0, .int 0, .int 0]), ((u_10.1 0), .inl (K 0, 56, .inl (fun _ => 0))), ((u_10.1 1), .inl (K 0, 24, .inl (fun _ => 0))), ((u_10.1 2), .inl (K 0, 6, .inl tm0)), ((u_10.1 3), .inl (K 4, 6, .inr (.inr (.inr (.inr (fun _ => none)))))), (cc_O q_11 2 [.null, .int 0, .int 0])] H := hP0
  replace hD := as_D hP hD0 rfl
  replace hS := hS0
  clear hP0 hD0 hS0
  refine W.widen (k := 14) (n := 277) (by omega) (by omega) ?_
  refine lv_dup hx hb dX1_init_49 rfl (kcv (wr := [(cc_O a0 1 [.ref q_1, .ref q_4, .ref q_7, .ref q_8, .null, .int 0, .int 0, .int 0]), (cc_O q_1 10 [.ref (u_3.1 0)]), ((u_3.1 0), .inr (0, [.ref (u_3.1 1), .ref (u_3.1 3)])), ((u_3.1 1), .inr (3, [.ref (u_3.1 2), .int 0])), ((u_3.1 2), .inl (K 0, 64, .inl (fun _ => 0))), ((u_3.1 3), .inl (K 0, 9, .inl (fun _ => 0))), (cc_O q_4 3 [.ref (u_6.1 0), .int 0]), ((u_6.1 0), .inl (K 0, 64, .inl (fun _ => 0))), (cc_l q_7 (K 0) 28 (fun _ => 0)), (cc_O q_8 9 [.ref (u_10.1 0), .ref (u_10.1 1), .ref (u_10.1 2), .ref (u_10.1 3), .int 0, .int 0, .int (-1), .int 0, .int 0, .int 0]), ((u_10.1 0), .inl (K 0, 56, .inl (fun _ => 0))), ((u_10.1 1), .inl (K 0, 24, .inl (fun _ => 0))), ((u_10.1 2), .inl (K 0, 6, .inl tm0)), ((u_10.1 3), .inl (K 4, 6, .inr (.inr (.inr (.inr (fun _ => none))))))]) (va_runIN (As := []) (rest := [.ref q_11, .ref a0]) ⟨hx, hb, hml, hown, hts⟩ (n_X2 l D K q_11 H.size) ⟨va_cnB 0 hts gX1_init_X2_init_n38 rfl rfl rfl (nst_at hN 10 rfl) (hts _ mm_X1_init_153) (by decide +kernel) ⟨Nat.le_of_ble_eq_true rfl, Nat.le_of_ble_eq_true rfl⟩, rfl, (hts _ mm_X1_init_275)⟩ (mkS hK hN (hP.sub [14] rfl) (hD.sub [14] (by decide +kernel) rfl)) rfl rfl hl.1 rfl (lv_room (Nat.le_of_ble_eq_true rfl)) dX1_init_50 ⟨Nat.le_of_ble_eq_true rfl, Nat.le_of_ble_eq_true rfl⟩) hP hD hS hA [14] [0, 1, 2, 3, 4, 5, 6, 7, 8, 9, 10, 11, 12, 13] rfl rfl (by decide +kernel) (by decide +kernel) (fun u_13 H locs hw hP0 hD0 hS0 => ?_))
  replace hP : va_P D vwCl [(cc_O a0 1 [.ref q_1, .ref q_4, .ref q_7, .ref q_8, .null, .int 0, .int 0, .int 0]), (cc_O q_1 10 [.ref (u_3.1 0)]), ((u_3.1 0), .inr (0, [.ref (u_3.1 1), .ref (u_3.1 3)])), ((u_3.1 1), .inr (3, [.ref (u_3.1 2), .int 0])), ((u_3.1 2), .inl (K 0, 64, .inl (fun _ => 0))), ((u_3.1 3), .inl (K 0, 9, .inl (fun _ => 0))), (cc_O q_4 3 [.ref (u_6.1 0), .int 0]), ((u_6.1 0), .inl (K 0, 64, .inl (fun _ => 0))), (cc_l q_7 (K 0) 28 (fun _ => 0)), (cc_O q_8 9 [.ref (u_10.1 0), .ref (u_10.1 1), .ref (u_10.1 2), .ref (u_10.1 3), .int 0, .int 0, .int (-1), .int 0, .int 0, .int 0]), ((u_10.1 0), .inl (K 0, 56, .inl (fun _ => 0))), ((u_10.1 1), .inl (K 0, 24, .inl (fun _ => 0))), ((u_10.1 2), .inl (K 0, 6, .inl tm0)), ((u_10.1 3), .inl (K 4, 6, .inr (.inr (.inr (.inr (fun _ => none)))))), (cc_O q_11 2 [.ref (u_13.1 0), .int 0, .int 0]), ((u_13.1 0), .inl (K 0, 476, .inl (fun _ => 0)))] H := hP0
  replace hD := as_D hP hD0 rfl
  replace hS := hS0
  clear hP0 hD0 hS0
  refine W.widen (k := 15) (n := 753) (by omega) (by omega) ?_
  refine va_putF (ci := 1) (v := .ref q_11) (ty := .object "SmokeTune$History") (C := RX1) (T := TX1) (N := 8) hx hb hts hw1 tyX1 tyX1_ok nmX1 hown hK hP hD hS 0 rfl rfl 4 (by decide +kernel) (hts _ mm_X1_init_288) (fun _ h9 => h9) rfl hin rfl (by decide +kernel) (by first | rfl | decide) (by first | rfl | decide) (Nat.le_of_ble_eq_true rfl) dX1_init_53 (fun H locs hP0 hD0 hS0 => ?_)
  replace hP : va_P D vwCl [(cc_O a0 1 [.ref q_1, .ref q_4, .ref q_7, .ref q_8, .ref q_11, .int 0, .int 0, .int 0]), (cc_O q_1 10 [.ref (u_3.1 0)]), ((u_3.1 0), .inr (0, [.ref (u_3.1 1), .ref (u_3.1 3)])), ((u_3.1 1), .inr (3, [.ref (u_3.1 2), .int 0])), ((u_3.1 2), .inl (K 0, 64, .inl (fun _ => 0))), ((u_3.1 3), .inl (K 0, 9, .inl (fun _ => 0))), (cc_O q_4 3 [.ref (u_6.1 0), .int 0]), ((u_6.1 0), .inl (K 0, 64, .inl (fun _ => 0))), (cc_l q_7 (K 0) 28 (fun _ => 0)), (cc_O q_8 9 [.ref (u_10.1 0), .ref (u_10.1 1), .ref (u_10.1 2), .ref (u_10.1 3), .int 0, .int 0, .int (-1), .int 0, .int 0, .int 0]), ((u_10.1 0), .inl (K 0, 56, .inl (fun _ => 0))), ((u_10.1 1), .inl (K 0, 24, .inl (fun _ => 0))), ((u_10.1 2), .inl (K 0, 6, .inl tm0)), ((u_10.1 3), .inl (K 4, 6, .inr (.inr (.inr (.inr (fun _ => none)))))), (cc_O q_11 2 [.ref (u_13.1 0), .int 0, .int 0]), ((u_13.1 0), .inl (K 0, 476, .inl (fun _ => 0)))] H := hP0
  replace hD := as_D hP hD0 rfl
  replace hS := hS0
  clear hP0 hD0 hS0
  refine lv_aload_n hx hb dX1_init_56 rfl (lv_at hl 0 rfl) (lv_iconst (v := 0) hx hb dX1_init_57 (by decide +kernel) (va_put (ci := 1) (v := .int 0) (ty := .int) (C := RX1) (T := TX1) (N := 8) hx hb hts hw1 tyX1 tyX1_ok nmX1 hown hK hP hD hS 0 rfl rfl 5 (by decide +kernel) (hts _ mm_X1_init_289) (fun _ h9 => h9) rfl (by decide +kernel) (by first | rfl | decide) (by first | rfl | decide) (Nat.le_of_ble_eq_true rfl) dX1_init_58 (fun H locs hP0 hD0 hS0 => ?_)))
  replace hP : va_P D vwCl [(cc_O a0 1 [.ref q_1, .ref q_4, .ref q_7, .ref q_8, .ref q_11, .int 0, .int 0, .int 0]), (cc_O q_1 10 [.ref (u_3.1 0)]), ((u_3.1 0), .inr (0, [.ref (u_3.1 1), .ref (u_3.1 3)])), ((u_3.1 1), .inr (3, [.ref (u_3.1 2), .int 0])), ((u_3.1 2), .inl (K 0, 64, .inl (fun _ => 0))), ((u_3.1 3), .inl (K 0, 9, .inl (fun _ => 0))), (cc_O q_4 3 [.ref (u_6.1 0), .int 0]), ((u_6.1 0), .inl (K 0, 64, .inl (fun _ => 0))), (cc_l q_7 (K 0) 28 (fun _ => 0)), (cc_O q_8 9 [.ref (u_10.1 0), .ref (u_10.1 1), .ref (u_10.1 2), .ref (u_10.1 3), .int 0, .int 0, .int (-1), .int 0, .int 0, .int 0]), ((u_10.1 0), .inl (K 0, 56, .inl (fun _ => 0))), ((u_10.1 1), .inl (K 0, 24, .inl (fun _ => 0))), ((u_10.1 2), .inl (K 0, 6, .inl tm0)), ((u_10.1 3), .inl (K 4, 6, .inr (.inr (.inr (.inr (fun _ => none)))))), (cc_O q_11 2 [.ref (u_13.1 0), .int 0, .int 0]), ((u_13.1 0), .inl (K 0, 476, .inl (fun _ => 0)))] H := hP0
  replace hD := as_D hP hD0 rfl
  replace hS := hS0
  clear hP0 hD0 hS0
  refine lv_aload_n hx hb dX1_init_61 rfl (lv_at hl 0 rfl) (lv_iconst (v := (-1)) hx hb dX1_init_62 (by decide +kernel) (va_put (ci := 1) (v := .int (-1)) (ty := .int) (C := RX1) (T := TX1) (N := 8) hx hb hts hw1 tyX1 tyX1_ok nmX1 hown hK hP hD hS 0 rfl rfl 6 (by decide +kernel) (hts _ mm_X1_init_290) (fun _ h9 => h9) rfl (by decide +kernel) (by first | rfl | decide) (by first | rfl | decide) (Nat.le_of_ble_eq_true rfl) dX1_init_63 (fun H locs hP0 hD0 hS0 => ?_)))
  replace hP : va_P D vwCl [(cc_O a0 1 [.ref q_1, .ref q_4, .ref q_7, .ref q_8, .ref q_11, .int 0, .int (-1), .int 0]), (cc_O q_1 10 [.ref (u_3.1 0)]), ((u_3.1 0), .inr (0, [.ref (u_3.1 1), .ref (u_3.1 3)])), ((u_3.1 1), .inr (3, [.ref (u_3.1 2), .int 0])), ((u_3.1 2), .inl (K 0, 64, .inl (fun _ => 0))), ((u_3.1 3), .inl (K 0, 9, .inl (fun _ => 0))), (cc_O q_4 3 [.ref (u_6.1 0), .int 0]), ((u_6.1 0), .inl (K 0, 64, .inl (fun _ => 0))), (cc_l q_7 (K 0) 28 (fun _ => 0)), (cc_O q_8 9 [.ref (u_10.1 0), .ref (u_10.1 1), .ref (u_10.1 2), .ref (u_10.1 3), .int 0, .int 0, .int (-1), .int 0, .int 0, .int 0]), ((u_10.1 0), .inl (K 0, 56, .inl (fun _ => 0))), ((u_10.1 1), .inl (K 0, 24, .inl (fun _ => 0))), ((u_10.1 2), .inl (K 0, 6, .inl tm0)), ((u_10.1 3), .inl (K 4, 6, .inr (.inr (.inr (.inr (fun _ => none)))))), (cc_O q_11 2 [.ref (u_13.1 0), .int 0, .int 0]), ((u_13.1 0), .inl (K 0, 476, .inl (fun _ => 0)))] H := hP0
  replace hD := as_D hP hD0 rfl
  replace hS := hS0
  clear hP0 hD0 hS0
  refine lv_aload_n hx hb dX1_init_66 rfl (lv_at hl 0 rfl) (lv_iconst (v := (-1)) hx hb dX1_init_67 (by decide +kernel) (va_put (ci := 1) (v := .int (-1)) (ty := .int) (C := RX1) (T := TX1) (N := 8) hx hb hts hw1 tyX1 tyX1_ok nmX1 hown hK hP hD hS 0 rfl rfl 7 (by decide +kernel) (hts _ mm_X1_init_291) (fun _ h9 => h9) rfl (by decide +kernel) (by first | rfl | decide) (by first | rfl | decide) (Nat.le_of_ble_eq_true rfl) dX1_init_68 (fun H locs hP0 hD0 hS0 => ?_)))
  replace hP : va_P D vwCl [(cc_O a0 1 [.ref q_1, .ref q_4, .ref q_7, .ref q_8, .ref q_11, .int 0, .int (-1), .int (-1)]), (cc_O q_1 10 [.ref (u_3.1 0)]), ((u_3.1 0), .inr (0, [.ref (u_3.1 1), .ref (u_3.1 3)])), ((u_3.1 1), .inr (3, [.ref (u_3.1 2), .int 0])), ((u_3.1 2), .inl (K 0, 64, .inl (fun _ => 0))), ((u_3.1 3), .inl (K 0, 9, .inl (fun _ => 0))), (cc_O q_4 3 [.ref (u_6.1 0), .int 0]), ((u_6.1 0), .inl (K 0, 64, .inl (fun _ => 0))), (cc_l q_7 (K 0) 28 (fun _ => 0)), (cc_O q_8 9 [.ref (u_10.1 0), .ref (u_10.1 1), .ref (u_10.1 2), .ref (u_10.1 3), .int 0, .int 0, .int (-1), .int 0, .int 0, .int 0]), ((u_10.1 0), .inl (K 0, 56, .inl (fun _ => 0))), ((u_10.1 1), .inl (K 0, 24, .inl (fun _ => 0))), ((u_10.1 2), .inl (K 0, 6, .inl tm0)), ((u_10.1 3), .inl (K 4, 6, .inr (.inr (.inr (.inr (fun _ => none)))))), (cc_O q_11 2 [.ref (u_13.1 0), .int 0, .int 0]), ((u_13.1 0), .inl (K 0, 476, .inl (fun _ => 0)))] H := hP0
  replace hD := as_D hP hD0 rfl
  replace hS := hS0
  clear hP0 hD0 hS0
  have hP9 := hP.sub (ws' := [(cc_O a0 1 [.ref q_1, .ref q_4, .ref q_7, .ref q_8, .ref q_11, .int 0, .int (-1), .int (-1)]), (cc_O q_1 10 [.ref (u_3.1 0)]), ((u_3.1 0), .inr (0, [.ref (u_3.1 1), .ref (u_3.1 3)])), ((u_3.1 1), .inr (3, [.ref (u_3.1 2), .int 0])), ((u_3.1 2), .inl (K 0, 64, .inl (fun _ => 0))), ((u_3.1 3), .inl (K 0, 9, .inl (fun _ => 0))), (cc_O q_4 3 [.ref (u_6.1 0), .int 0]), ((u_6.1 0), .inl (K 0, 64, .inl (fun _ => 0))), (cc_l q_7 (K 0) 28 (fun _ => 0)), (cc_O q_8 9 [.ref (u_10.1 0), .ref (u_10.1 1), .ref (u_10.1 2), .ref (u_10.1 3), .int 0, .int 0, .int (-1), .int 0, .int 0, .int 0]), ((u_10.1 0), .inl (K 0, 56, .inl (fun _ => 0))), ((u_10.1 1), .inl (K 0, 24, .inl (fun _ => 0))), ((u_10.1 2), .inl (K 0, 6, .inl tm0)), ((u_10.1 3), .inl (K 4, 6, .inr (.inr (.inr (.inr (fun _ => none)))))), (cc_O q_11 2 [.ref (u_13.1 0), .int 0, .int 0]), ((u_13.1 0), .inl (K 0, 476, .inl (fun _ => 0)))]) [0, 1, 2, 3, 4, 5, 6, 7, 8, 9, 10, 11, 12, 13, 14, 15] rfl
  have hD9 := sub_D hP9 hD [0, 1, 2, 3, 4, 5, 6, 7, 8, 9, 10, 11, 12, 13, 14, 15] (by decide +kernel) rfl
  exact W.vret hx hb hr (fun t ht hW => ⟨⟨(fun i => ([q_1, (u_3.1 0), (u_3.1 1), (u_3.1 2), (u_3.1 3), q_4, (u_6.1 0), q_7, q_8, (u_10.1 0), (u_10.1 1), (u_10.1 2), (u_10.1 3), q_11, (u_13.1 0)] : List _).getD i (0), fun _ => fun _ => 0, fun _ => fun _ => 0, fun _ => 0), rfl, trivial, (⟨by rw [ht]; exact hP9, hD9⟩ : Wd D A _ t)⟩, hS.F ht⟩) hS.2.2 dX1_init_71
set_option maxHeartbeats 4000000 in
set_option maxRecDepth 100000 in
theorem n_X5 (l : Launch) (D : va_G) (K : Nat → ClassId) (a0 : Nat) (sz : Nat) : Met l yX5_init wsX5_init ({ frames := 3, cells := 9, slots := 896, locals := 52 }) (va_Pc [.ref a0] (Pre D K [(cc_O a0 5 [.null, .null, .null, .null, .null, .null])] sz)) (va_Qv (S := (Nat → Nat) × (Nat → Nat → Int32) × (Nat → Nat → Int64) × (Nat → Int32)) (fun _ => True) (fun u t => Wd D (va_A [(cc_O a0 5 [.null, .null, .null, .null, .null, .null])] sz) ((fun u => [(cc_O a0 5 [.ref (u.1 0), .ref (u.1 4), .ref (u.1 5), .ref (u.1 6), .ref (u.1 7), .ref (u.1 8)]), ((u.1 0), .inr (0, [.ref (u.1 1), .ref (u.1 3)])), ((u.1 1), .inr (3, [.ref (u.1 2), .int 0])), ((u.1 2), .inl (K 0, 64, .inl (fun _ => 0))), ((u.1 3), .inl (K 0, 9, .inl (fun _ => 0))), ((u.1 4), .inl (K 0, 21, .inl (fun _ => 0))), ((u.1 5), .inl (K 0, 21, .inl (fun _ => 0))), ((u.1 6), .inl (K 0, 273, .inl (fun _ => 0))), ((u.1 7), .inl (K 0, 252, .inl (fun _ => 0))), ((u.1 8), .inl (K 0, 252, .inl (fun _ => 0)))]) u) t) (va_A [(cc_O a0 5 [.null, .null, .null, .null, .null, .null])] sz)) 9 896 (va_A [(cc_O a0 5 [.null, .null, .null, .null, .null, .null])] sz) := by
  refine Met.ofW (cc := cX5_init) (maxL := 1) (ret := none) (by decide +kernel) rfl ?_
  intro p e s m args below meth c s₁ B hml hv
  obtain ⟨rfl, hsz, hP, hK, hD0, hN⟩ := hv
  have hx := B.exec
  have hb := B.bytes
  have hr := B.returns
  have hts := atoms_spec (ws := wsX5_init) B.pre
  have hown : s.vm.findClass RX5 = some m.cls := findClass_of_methodNamed B.named
  have hlocks := B.notSynchronized
  have hin : meth.name = "<init>" := (name_of_methodNamed B.named B.method).1
  subst hsz
  have hD := hD0.self (sz := s.heap.size)
  generalize hAe : va_A [(cc_O a0 5 [.null, .null, .null, .null, .null, .null])] s.heap.size = A at hD ⊢
  have hA : ∀ q : Nat, s.heap.size ≤ q → A q := fun q h => by rw [← hAe]; exact Or.inr h
  clear hAe
  have hS : va_S A s.heap s.heap [] := va_S.rf
  replace hP : va_P D vwCl [(cc_O a0 5 [.null, .null, .null, .null, .null, .null])] s.heap := hP
  have hl := lv_entry [.ref a0] (n := 1) (Nat.le_of_ble_eq_true rfl)
  rw [lg_entry_eq]
  generalize (lg_sl [.ref a0] ++ List.replicate (1 - (lg_sl [.ref a0]).length) Slot.unset).toArray = ls at hl ⊢
  have hl : lv_has ls 1 [(0, .ref a0)] := hl
  have hw0 : ∀ w ∈ wsX00, w ∈ wsX5_init := fun w h => (List.mem_cons_of_mem _ (List.mem_append_left _ (List.mem_append_left _ (List.mem_append_right _ h))))
  have hw3 : ∀ w ∈ wsX30, w ∈ wsX5_init := fun w h => (List.mem_cons_of_mem _ (List.mem_append_right _ h))
  have hw5 : ∀ w ∈ wsX50, w ∈ wsX5_init := fun w h => (List.mem_cons_of_mem _ (List.mem_append_left _ (List.mem_append_right _ h)))
  refine lv_aload_n hx hb dX5_init_0 rfl (lv_at hl 0 rfl) ?_
  refine W.objInit hx hb hown (hts _ mm_X5_init_305) (hts _ mm_X5_init_166) (hts _ (List.mem_cons_of_mem _ (List.mem_append_left _ (List.mem_append_left _ (List.mem_append_left _ (List.mem_append_left _ (List.mem_of_getElem? (i := 2) rfl))))))) rfl (by rw [hml]; exact hl.1) rfl dX5_init_1 (Nat.le_of_ble_eq_true rfl) (Nat.le_of_ble_eq_true rfl) ?_
  refine W.eq (g2 := F0 m 4 ls []) rfl ?_
  refine lv_aload_n hx hb dX5_init_4 rfl (lv_at hl 0 rfl) (va_new (ci := 0) (fs := [.null, .null]) (C := RX0) (T := TX0) (N := 2) hx hb hts hw0 tyX0 tyX0_ok hown (hts _ mm_X5_init_306) (hts _ mm_X5_init_252) (hts _ mm_X5_init_151) hK hP hD hS hA rfl dfv_X0 (Nat.le_of_ble_eq_true rfl) (Nat.le_of_ble_eq_true rfl) dX5_init_5 (fun q_1 H hP0 hD0 hS0 => ?_))
  replace hP : va_P D vwCl [(cc_O a0 5 [.null, .null, .null, .null, .null, .null]), (cc_O q_1 0 [.null, .null])] H := hP0
  replace hD := as_D hP hD0 rfl
  replace hS := hS0
  clear hP0 hD0 hS0
  refine W.widen (k := 1) (n := 2) (by omega) (by omega) ?_
  refine lv_dup hx hb dX5_init_8 rfl (kcv (wr := [(cc_O a0 5 [.null, .null, .null, .null, .null, .null])]) (va_runIN (As := []) (rest := [.ref q_1, .ref a0]) ⟨hx, hb, hml, hown, hts⟩ (n_X0 l D K q_1 H.size) ⟨va_cnB 0 hts gX5_init_X0_init_n11 rfl rfl rfl (nst_at hN 13 rfl) (hts _ mm_X5_init_151) (by decide +kernel) ⟨Nat.le_of_ble_eq_true rfl, Nat.le_of_ble_eq_true rfl⟩, rfl, (hts _ mm_X5_init_253)⟩ (mkS hK hN (hP.sub [1] rfl) (hD.sub [1] (by decide +kernel) rfl)) rfl rfl hl.1 rfl (lv_room (Nat.le_of_ble_eq_true rfl)) dX5_init_9 ⟨Nat.le_of_ble_eq_true rfl, Nat.le_of_ble_eq_true rfl⟩) hP hD hS hA [1] [0] rfl rfl (by decide +kernel) (by decide +kernel) (fun u_3 H locs hw hP0 hD0 hS0 => ?_))
  replace hP : va_P D vwCl [(cc_O a0 5 [.null, .null, .null, .null, .null, .null]), (cc_O q_1 0 [.ref (u_3.1 0), .ref (u_3.1 2)]), ((u_3.1 0), .inr (3, [.ref (u_3.1 1), .int 0])), ((u_3.1 1), .inl (K 0, 64, .inl (fun _ => 0))), ((u_3.1 2), .inl (K 0, 9, .inl (fun _ => 0)))] H := hP0
  replace hD := as_D hP hD0 rfl
  replace hS := hS0
  clear hP0 hD0 hS0
  refine W.widen (k := 4) (n := 77) (by omega) (by omega) ?_
  refine va_putF (ci := 5) (v := .ref q_1) (ty := .object "SmokeTune$Court") (C := RX5) (T := TX5) (N := 6) hx hb hts hw5 tyX5 tyX5_ok nmX5 hown hK hP hD hS 0 rfl rfl 0 (by decide +kernel) (hts _ mm_X5_init_307) (fun _ h9 => h9) rfl hin rfl (by decide +kernel) (by first | rfl | decide) (by first | rfl | decide) (Nat.le_of_ble_eq_true rfl) dX5_init_12 (fun H locs hP0 hD0 hS0 => ?_)
  replace hP : va_P D vwCl [(cc_O a0 5 [.ref q_1, .null, .null, .null, .null, .null]), (cc_O q_1 0 [.ref (u_3.1 0), .ref (u_3.1 2)]), ((u_3.1 0), .inr (3, [.ref (u_3.1 1), .int 0])), ((u_3.1 1), .inl (K 0, 64, .inl (fun _ => 0))), ((u_3.1 2), .inl (K 0, 9, .inl (fun _ => 0)))] H := hP0
  replace hD := as_D hP hD0 rfl
  replace hS := hS0
  clear hP0 hD0 hS0
  refine lv_aload_n hx hb dX5_init_15 rfl (lv_at hl 0 rfl) (lv_bipush (v := 21) hx hb dX5_init_16 (by decide +kernel) ?_)
  refine k_newa (atype := .int) (ty := .int) (cA := K 0) (a0 := (21, .inl (fun _ => 0))) (N' := 21) hx hb (hts _ mm_X5_init_194) rfl hK 0 rfl hP hD hS hA (fun _ => rfl) (by decide +kernel) (by decide +kernel) (by decide +kernel) (Nat.le_of_ble_eq_true rfl) (Nat.le_of_ble_eq_true rfl) dX5_init_18 (fun q_4 H hP0 hD0 hS0 => ?_)
  replace hP : va_P D vwCl [(cc_O a0 5 [.ref q_1, .null, .null, .null, .null, .null]), (cc_O q_1 0 [.ref (u_3.1 0), .ref (u_3.1 2)]), ((u_3.1 0), .inr (3, [.ref (u_3.1 1), .int 0])), ((u_3.1 1), .inl (K 0, 64, .inl (fun _ => 0))), ((u_3.1 2), .inl (K 0, 9, .inl (fun _ => 0))), (cc_l q_4 (K 0) 21 (fun _ => 0))] H := hP0
  replace hD := as_D hP hD0 rfl
  replace hS := hS0
  clear hP0 hD0 hS0
  refine W.widen (k := 5) (n := 98) (by omega) (by omega) ?_
  refine va_putF (ci := 5) (v := .ref q_4) (ty := .array .int) (C := RX5) (T := TX5) (N := 6) hx hb hts hw5 tyX5 tyX5_ok nmX5 hown hK hP hD hS 0 rfl rfl 1 (by decide +kernel) (hts _ mm_X5_init_308) (fun _ h9 => h9) rfl hin rfl (by decide +kernel) (by first | rfl | decide) (by first | rfl | decide) (Nat.le_of_ble_eq_true rfl) dX5_init_20 (fun H locs hP0 hD0 hS0 => ?_)
  replace hP : va_P D vwCl [(cc_O a0 5 [.ref q_1, .ref q_4, .null, .null, .null, .null]), (cc_O q_1 0 [.ref (u_3.1 0), .ref (u_3.1 2)]), ((u_3.1 0), .inr (3, [.ref (u_3.1 1), .int 0])), ((u_3.1 1), .inl (K 0, 64, .inl (fun _ => 0))), ((u_3.1 2), .inl (K 0, 9, .inl (fun _ => 0))), (cc_l q_4 (K 0) 21 (fun _ => 0))] H := hP0
  replace hD := as_D hP hD0 rfl
  replace hS := hS0
  clear hP0 hD0 hS0
  refine lv_aload_n hx hb dX5_init_23 rfl (lv_at hl 0 rfl) (lv_bipush (v := 21) hx hb dX5_init_24 (by decide +kernel) ?_)
  refine k_newa (atype := .int) (ty := .int) (cA := K 0) (a0 := (21, .inl (fun _ => 0))) (N' := 21) hx hb (hts _ mm_X5_init_194) rfl hK 0 rfl hP hD hS hA (fun _ => rfl) (by decide +kernel) (by decide +kernel) (by decide +kernel) (Nat.le_of_ble_eq_true rfl) (Nat.le_of_ble_eq_true rfl) dX5_init_26 (fun q_5 H hP0 hD0 hS0 => ?_)
  replace hP : va_P D vwCl [(cc_O a0 5 [.ref q_1, .ref q_4, .null, .null, .null, .null]), (cc_O q_1 0 [.ref (u_3.1 0), .ref (u_3.1 2)]), ((u_3.1 0), .inr (3, [.ref (u_3.1 1), .int 0])), ((u_3.1 1), .inl (K 0, 64, .inl (fun _ => 0))), ((u_3.1 2), .inl (K 0, 9, .inl (fun _ => 0))), (cc_l q_4 (K 0) 21 (fun _ => 0)), (cc_l q_5 (K 0) 21 (fun _ => 0))] H := hP0
  replace hD := as_D hP hD0 rfl
  replace hS := hS0
  clear hP0 hD0 hS0
  refine W.widen (k := 6) (n := 119) (by omega) (by omega) ?_
  refine va_putF (ci := 5) (v := .ref q_5) (ty := .array .int) (C := RX5) (T := TX5) (N := 6) hx hb hts hw5 tyX5 tyX5_ok nmX5 hown hK hP hD hS 0 rfl rfl 2 (by decide +kernel) (hts _ mm_X5_init_309) (fun _ h9 => h9) rfl hin rfl (by decide +kernel) (by first | rfl | decide) (by first | rfl | decide) (Nat.le_of_ble_eq_true rfl) dX5_init_28 (fun H locs hP0 hD0 hS0 => ?_)
  replace hP : va_P D vwCl [(cc_O a0 5 [.ref q_1, .ref q_4, .ref q_5, .null, .null, .null]), (cc_O q_1 0 [.ref (u_3.1 0), .ref (u_3.1 2)]), ((u_3.1 0), .inr (3, [.ref (u_3.1 1), .int 0])), ((u_3.1 1), .inl (K 0, 64, .inl (fun _ => 0))), ((u_3.1 2), .inl (K 0, 9, .inl (fun _ => 0))), (cc_l q_4 (K 0) 21 (fun _ => 0)), (cc_l q_5 (K 0) 21 (fun _ => 0))] H := hP0
  replace hD := as_D hP hD0 rfl
  replace hS := hS0
  clear hP0 hD0 hS0
  refine lv_aload_n hx hb dX5_init_31 rfl (lv_at hl 0 rfl) (lv_sipush (v := 273) hx hb dX5_init_32 (by decide +kernel) ?_)
  refine k_newa (atype := .int) (ty := .int) (cA := K 0) (a0 := (273, .inl (fun _ => 0))) (N' := 273) hx hb (hts _ mm_X5_init_194) rfl hK 0 rfl hP hD hS hA (fun _ => rfl) (by decide +kernel) (by decide +kernel) (by decide +kernel) (Nat.le_of_ble_eq_true rfl) (Nat.le_of_ble_eq_true rfl) dX5_init_35 (fun q_6 H hP0 hD0 hS0 => ?_)
  replace hP : va_P D vwCl [(cc_O a0 5 [.ref q_1, .ref q_4, .ref q_5, .null, .null, .null]), (cc_O q_1 0 [.ref (u_3.1 0), .ref (u_3.1 2)]), ((u_3.1 0), .inr (3, [.ref (u_3.1 1), .int 0])), ((u_3.1 1), .inl (K 0, 64, .inl (fun _ => 0))), ((u_3.1 2), .inl (K 0, 9, .inl (fun _ => 0))), (cc_l q_4 (K 0) 21 (fun _ => 0)), (cc_l q_5 (K 0) 21 (fun _ => 0)), (cc_l q_6 (K 0) 273 (fun _ => 0))] H := hP0
  replace hD := as_D hP hD0 rfl
  replace hS := hS0
  clear hP0 hD0 hS0
  refine W.widen (k := 7) (n := 392) (by omega) (by omega) ?_
  refine va_putF (ci := 5) (v := .ref q_6) (ty := .array .int) (C := RX5) (T := TX5) (N := 6) hx hb hts hw5 tyX5 tyX5_ok nmX5 hown hK hP hD hS 0 rfl rfl 3 (by decide +kernel) (hts _ mm_X5_init_310) (fun _ h9 => h9) rfl hin rfl (by decide +kernel) (by first | rfl | decide) (by first | rfl | decide) (Nat.le_of_ble_eq_true rfl) dX5_init_37 (fun H locs hP0 hD0 hS0 => ?_)
  replace hP : va_P D vwCl [(cc_O a0 5 [.ref q_1, .ref q_4, .ref q_5, .ref q_6, .null, .null]), (cc_O q_1 0 [.ref (u_3.1 0), .ref (u_3.1 2)]), ((u_3.1 0), .inr (3, [.ref (u_3.1 1), .int 0])), ((u_3.1 1), .inl (K 0, 64, .inl (fun _ => 0))), ((u_3.1 2), .inl (K 0, 9, .inl (fun _ => 0))), (cc_l q_4 (K 0) 21 (fun _ => 0)), (cc_l q_5 (K 0) 21 (fun _ => 0)), (cc_l q_6 (K 0) 273 (fun _ => 0))] H := hP0
  replace hD := as_D hP hD0 rfl
  replace hS := hS0
  clear hP0 hD0 hS0
  refine lv_aload_n hx hb dX5_init_40 rfl (lv_at hl 0 rfl) (lv_sipush (v := 252) hx hb dX5_init_41 (by decide +kernel) ?_)
  refine k_newa (atype := .int) (ty := .int) (cA := K 0) (a0 := (252, .inl (fun _ => 0))) (N' := 252) hx hb (hts _ mm_X5_init_194) rfl hK 0 rfl hP hD hS hA (fun _ => rfl) (by decide +kernel) (by decide +kernel) (by decide +kernel) (Nat.le_of_ble_eq_true rfl) (Nat.le_of_ble_eq_true rfl) dX5_init_44 (fun q_7 H hP0 hD0 hS0 => ?_)
  replace hP : va_P D vwCl [(cc_O a0 5 [.ref q_1, .ref q_4, .ref q_5, .ref q_6, .null, .null]), (cc_O q_1 0 [.ref (u_3.1 0), .ref (u_3.1 2)]), ((u_3.1 0), .inr (3, [.ref (u_3.1 1), .int 0])), ((u_3.1 1), .inl (K 0, 64, .inl (fun _ => 0))), ((u_3.1 2), .inl (K 0, 9, .inl (fun _ => 0))), (cc_l q_4 (K 0) 21 (fun _ => 0)), (cc_l q_5 (K 0) 21 (fun _ => 0)), (cc_l q_6 (K 0) 273 (fun _ => 0)), (cc_l q_7 (K 0) 252 (fun _ => 0))] H := hP0
  replace hD := as_D hP hD0 rfl
  replace hS := hS0
  clear hP0 hD0 hS0
  refine W.widen (k := 8) (n := 644) (by omega) (by omega) ?_
  refine va_putF (ci := 5) (v := .ref q_7) (ty := .array .int) (C := RX5) (T := TX5) (N := 6) hx hb hts hw5 tyX5 tyX5_ok nmX5 hown hK hP hD hS 0 rfl rfl 4 (by decide +kernel) (hts _ mm_X5_init_311) (fun _ h9 => h9) rfl hin rfl (by decide +kernel) (by first | rfl | decide) (by first | rfl | decide) (Nat.le_of_ble_eq_true rfl) dX5_init_46 (fun H locs hP0 hD0 hS0 => ?_)
  replace hP : va_P D vwCl [(cc_O a0 5 [.ref q_1, .ref q_4, .ref q_5, .ref q_6, .ref q_7, .null]), (cc_O q_1 0 [.ref (u_3.1 0), .ref (u_3.1 2)]), ((u_3.1 0), .inr (3, [.ref (u_3.1 1), .int 0])), ((u_3.1 1), .inl (K 0, 64, .inl (fun _ => 0))), ((u_3.1 2), .inl (K 0, 9, .inl (fun _ => 0))), (cc_l q_4 (K 0) 21 (fun _ => 0)), (cc_l q_5 (K 0) 21 (fun _ => 0)), (cc_l q_6 (K 0) 273 (fun _ => 0)), (cc_l q_7 (K 0) 252 (fun _ => 0))] H := hP0
  replace hD := as_D hP hD0 rfl
  replace hS := hS0
  clear hP0 hD0 hS0
  refine lv_aload_n hx hb dX5_init_49 rfl (lv_at hl 0 rfl) (lv_sipush (v := 252) hx hb dX5_init_50 (by decide +kernel) ?_)
  refine k_newa (atype := .int) (ty := .int) (cA := K 0) (a0 := (252, .inl (fun _ => 0))) (N' := 252) hx hb (hts _ mm_X5_init_194) rfl hK 0 rfl hP hD hS hA (fun _ => rfl) (by decide +kernel) (by decide +kernel) (by decide +kernel) (Nat.le_of_ble_eq_true rfl) (Nat.le_of_ble_eq_true rfl) dX5_init_53 (fun q_8 H hP0 hD0 hS0 => ?_)
  replace hP : va_P D vwCl [(cc_O a0 5 [.ref q_1, .ref q_4, .ref q_5, .ref q_6, .ref q_7, .null]), (cc_O q_1 0 [.ref (u_3.1 0), .ref (u_3.1 2)]), ((u_3.1 0), .inr (3, [.ref (u_3.1 1), .int 0])), ((u_3.1 1), .inl (K 0, 64, .inl (fun _ => 0))), ((u_3.1 2), .inl (K 0, 9, .inl (fun _ => 0))), (cc_l q_4 (K 0) 21 (fun _ => 0)), (cc_l q_5 (K 0) 21 (fun _ => 0)), (cc_l q_6 (K 0) 273 (fun _ => 0)), (cc_l q_7 (K 0) 252 (fun _ => 0)), (cc_l q_8 (K 0) 252 (fun _ => 0))] H := hP0
  replace hD := as_D hP hD0 rfl
  replace hS := hS0
  clear hP0 hD0 hS0
  refine W.widen (k := 9) (n := 896) (by omega) (by omega) ?_
  refine va_putF (ci := 5) (v := .ref q_8) (ty := .array .int) (C := RX5) (T := TX5) (N := 6) hx hb hts hw5 tyX5 tyX5_ok nmX5 hown hK hP hD hS 0 rfl rfl 5 (by decide +kernel) (hts _ mm_X5_init_312) (fun _ h9 => h9) rfl hin rfl (by decide +kernel) (by first | rfl | decide) (by first | rfl | decide) (Nat.le_of_ble_eq_true rfl) dX5_init_55 (fun H locs hP0 hD0 hS0 => ?_)
  replace hP : va_P D vwCl [(cc_O a0 5 [.ref q_1, .ref q_4, .ref q_5, .ref q_6, .ref q_7, .ref q_8]), (cc_O q_1 0 [.ref (u_3.1 0), .ref (u_3.1 2)]), ((u_3.1 0), .inr (3, [.ref (u_3.1 1), .int 0])), ((u_3.1 1), .inl (K 0, 64, .inl (fun _ => 0))), ((u_3.1 2), .inl (K 0, 9, .inl (fun _ => 0))), (cc_l q_4 (K 0) 21 (fun _ => 0)), (cc_l q_5 (K 0) 21 (fun _ => 0)), (cc_l q_6 (K 0) 273 (fun _ => 0)), (cc_l q_7 (K 0) 252 (fun _ => 0)), (cc_l q_8 (K 0) 252 (fun _ => 0))] H := hP0
  replace hD := as_D hP hD0 rfl
  replace hS := hS0
  clear hP0 hD0 hS0
  have hP9 := hP.sub (ws' := [(cc_O a0 5 [.ref q_1, .ref q_4, .ref q_5, .ref q_6, .ref q_7, .ref q_8]), (cc_O q_1 0 [.ref (u_3.1 0), .ref (u_3.1 2)]), ((u_3.1 0), .inr (3, [.ref (u_3.1 1), .int 0])), ((u_3.1 1), .inl (K 0, 64, .inl (fun _ => 0))), ((u_3.1 2), .inl (K 0, 9, .inl (fun _ => 0))), (cc_l q_4 (K 0) 21 (fun _ => 0)), (cc_l q_5 (K 0) 21 (fun _ => 0)), (cc_l q_6 (K 0) 273 (fun _ => 0)), (cc_l q_7 (K 0) 252 (fun _ => 0)), (cc_l q_8 (K 0) 252 (fun _ => 0))]) [0, 1, 2, 3, 4, 5, 6, 7, 8, 9] rfl
  have hD9 := sub_D hP9 hD [0, 1, 2, 3, 4, 5, 6, 7, 8, 9] (by decide +kernel) rfl
  exact W.vret hx hb hr (fun t ht hW => ⟨⟨(fun i => ([q_1, (u_3.1 0), (u_3.1 1), (u_3.1 2), q_4, q_5, q_6, q_7, q_8] : List _).getD i (0), fun _ => fun _ => 0, fun _ => fun _ => 0, fun _ => 0), rfl, trivial, (⟨by rw [ht]; exact hP9, hD9⟩ : Wd D A _ t)⟩, hS.F ht⟩) hS.2.2 dX5_init_58
set_option maxHeartbeats 4000000 in
set_option maxRecDepth 100000 in
theorem n_X4 (l : Launch) (D : va_G) (K : Nat → ClassId) (a0 : Nat) (sz : Nat) : Met l yX4_init wsX4_init ({ frames := 1, cells := 5, slots := 288, locals := 12 }) (va_Pc [.ref a0] (Pre D K [(cc_O a0 4 [.null, .null, .null, .null, .null])] sz)) (va_Qv (S := (Nat → Nat) × (Nat → Nat → Int32) × (Nat → Nat → Int64) × (Nat → Int32)) (fun _ => True) (fun u t => Wd D (va_A [(cc_O a0 4 [.null, .null, .null, .null, .null])] sz) ((fun u => [(cc_O a0 4 [.ref (u.1 0), .ref (u.1 1), .ref (u.1 2), .ref (u.1 3), .ref (u.1 4)]), ((u.1 0), .inl (K 0, 8, .inl (fun _ => 0))), ((u.1 1), .inl (K 0, 8, .inl (fun _ => 0))), ((u.1 2), .inl (K 0, 8, .inl (fun _ => 0))), ((u.1 3), .inl (K 0, 8, .inl (fun _ => 0))), ((u.1 4), .inl (K 0, 256, .inl (fun _ => 0)))]) u) t) (va_A [(cc_O a0 4 [.null, .null, .null, .null, .null])] sz)) 5 288 (va_A [(cc_O a0 4 [.null, .null, .null, .null, .null])] sz) := by
  refine Met.ofW (cc := cX4_init) (maxL := 1) (ret := none) (by decide +kernel) rfl ?_
  intro p e s m args below meth c s₁ B hml hv
  obtain ⟨rfl, hsz, hP, hK, hD0, hN⟩ := hv
  have hx := B.exec
  have hb := B.bytes
  have hr := B.returns
  have hts := atoms_spec (ws := wsX4_init) B.pre
  have hown : s.vm.findClass RX4 = some m.cls := findClass_of_methodNamed B.named
  have hlocks := B.notSynchronized
  have hin : meth.name = "<init>" := (name_of_methodNamed B.named B.method).1
  subst hsz
  have hD := hD0.self (sz := s.heap.size)
  generalize hAe : va_A [(cc_O a0 4 [.null, .null, .null, .null, .null])] s.heap.size = A at hD ⊢
  have hA : ∀ q : Nat, s.heap.size ≤ q → A q := fun q h => by rw [← hAe]; exact Or.inr h
  clear hAe
  have hS : va_S A s.heap s.heap [] := va_S.rf
  replace hP : va_P D vwCl [(cc_O a0 4 [.null, .null, .null, .null, .null])] s.heap := hP
  have hl := lv_entry [.ref a0] (n := 1) (Nat.le_of_ble_eq_true rfl)
  rw [lg_entry_eq]
  generalize (lg_sl [.ref a0] ++ List.replicate (1 - (lg_sl [.ref a0]).length) Slot.unset).toArray = ls at hl ⊢
  have hl : lv_has ls 1 [(0, .ref a0)] := hl
  have hw4 : ∀ w ∈ wsX40, w ∈ wsX4_init := fun w h => (List.mem_cons_of_mem _ (List.mem_append_right _ h))
  refine lv_aload_n hx hb dX4_init_0 rfl (lv_at hl 0 rfl) ?_
  refine W.objInit hx hb hown (hts _ mm_X4_init_323) (hts _ mm_X4_init_166) (hts _ (List.mem_cons_of_mem _ (List.mem_append_left _ (List.mem_of_getElem? (i := 2) rfl)))) rfl (by rw [hml]; exact hl.1) rfl dX4_init_1 (Nat.le_of_ble_eq_true rfl) (Nat.le_of_ble_eq_true rfl) ?_
  refine W.eq (g2 := F0 m 4 ls []) rfl ?_
  refine lv_aload_n hx hb dX4_init_4 rfl (lv_at hl 0 rfl) (lv_bipush (v := 8) hx hb dX4_init_5 (by decide +kernel) ?_)
  refine k_newa (atype := .int) (ty := .int) (cA := K 0) (a0 := (8, .inl (fun _ => 0))) (N' := 8) hx hb (hts _ mm_X4_init_194) rfl hK 0 rfl hP hD hS hA (fun _ => rfl) (by decide +kernel) (by decide +kernel) (by decide +kernel) (Nat.le_of_ble_eq_true rfl) (Nat.le_of_ble_eq_true rfl) dX4_init_7 (fun q_1 H hP0 hD0 hS0 => ?_)
  replace hP : va_P D vwCl [(cc_O a0 4 [.null, .null, .null, .null, .null]), (cc_l q_1 (K 0) 8 (fun _ => 0))] H := hP0
  replace hD := as_D hP hD0 rfl
  replace hS := hS0
  clear hP0 hD0 hS0
  refine W.widen (k := 1) (n := 8) (by omega) (by omega) ?_
  refine va_putF (ci := 4) (v := .ref q_1) (ty := .array .int) (C := RX4) (T := TX4) (N := 5) hx hb hts hw4 tyX4 tyX4_ok nmX4 hown hK hP hD hS 0 rfl rfl 0 (by decide +kernel) (hts _ mm_X4_init_324) (fun _ h9 => h9) rfl hin rfl (by decide +kernel) (by first | rfl | decide) (by first | rfl | decide) (Nat.le_of_ble_eq_true rfl) dX4_init_9 (fun H locs hP0 hD0 hS0 => ?_)
  replace hP : va_P D vwCl [(cc_O a0 4 [.ref q_1, .null, .null, .null, .null]), (cc_l q_1 (K 0) 8 (fun _ => 0))] H := hP0
  replace hD := as_D hP hD0 rfl
  replace hS := hS0
  clear hP0 hD0 hS0
  refine lv_aload_n hx hb dX4_init_12 rfl (lv_at hl 0 rfl) (lv_bipush (v := 8) hx hb dX4_init_13 (by decide +kernel) ?_)
  refine k_newa (atype := .int) (ty := .int) (cA := K 0) (a0 := (8, .inl (fun _ => 0))) (N' := 8) hx hb (hts _ mm_X4_init_194) rfl hK 0 rfl hP hD hS hA (fun _ => rfl) (by decide +kernel) (by decide +kernel) (by decide +kernel) (Nat.le_of_ble_eq_true rfl) (Nat.le_of_ble_eq_true rfl) dX4_init_15 (fun q_2 H hP0 hD0 hS0 => ?_)
  replace hP : va_P D vwCl [(cc_O a0 4 [.ref q_1, .null, .null, .null, .null]), (cc_l q_1 (K 0) 8 (fun _ => 0)), (cc_l q_2 (K 0) 8 (fun _ => 0))] H := hP0
  replace hD := as_D hP hD0 rfl
  replace hS := hS0
  clear hP0 hD0 hS0
  refine W.widen (k := 2) (n := 16) (by omega) (by omega) ?_
  refine va_putF (ci := 4) (v := .ref q_2) (ty := .array .int) (C := RX4) (T := TX4) (N := 5) hx hb hts hw4 tyX4 tyX4_ok nmX4 hown hK hP hD hS 0 rfl rfl 1 (by decide +kernel) (hts _ mm_X4_init_325) (fun _ h9 => h9) rfl hin rfl (by decide +kernel) (by first | rfl | decide) (by first | rfl | decide) (Nat.le_of_ble_eq_true rfl) dX4_init_17 (fun H locs hP0 hD0 hS0 => ?_)
  replace hP : va_P D vwCl [(cc_O a0 4 [.ref q_1, .ref q_2, .null, .null, .null]), (cc_l q_1 (K 0) 8 (fun _ => 0)), (cc_l q_2 (K 0) 8 (fun _ => 0))] H := hP0
  replace hD := as_D hP hD0 rfl
  replace hS := hS0
  clear hP0 hD0 hS0
  refine lv_aload_n hx hb dX4_init_20 rfl (lv_at hl 0 rfl) (lv_bipush (v := 8) hx hb dX4_init_21 (by decide +kernel) ?_)
  refine k_newa (atype := .int) (ty := .int) (cA := K 0) (a0 := (8, .inl (fun _ => 0))) (N' := 8) hx hb (hts _ mm_X4_init_194) rfl hK 0 rfl hP hD hS hA (fun _ => rfl) (by decide +kernel) (by decide +kernel) (by decide +kernel) (Nat.le_of_ble_eq_true rfl) (Nat.le_of_ble_eq_true rfl) dX4_init_23 (fun q_3 H hP0 hD0 hS0 => ?_)
  replace hP : va_P D vwCl [(cc_O a0 4 [.ref q_1, .ref q_2, .null, .null, .null]), (cc_l q_1 (K 0) 8 (fun _ => 0)), (cc_l q_2 (K 0) 8 (fun _ => 0)), (cc_l q_3 (K 0) 8 (fun _ => 0))] H := hP0
  replace hD := as_D hP hD0 rfl
  replace hS := hS0
  clear hP0 hD0 hS0
  refine W.widen (k := 3) (n := 24) (by omega) (by omega) ?_
  refine va_putF (ci := 4) (v := .ref q_3) (ty := .array .int) (C := RX4) (T := TX4) (N := 5) hx hb hts hw4 tyX4 tyX4_ok nmX4 hown hK hP hD hS 0 rfl rfl 2 (by decide +kernel) (hts _ mm_X4_init_326) (fun _ h9 => h9) rfl hin rfl (by decide +kernel) (by first | rfl | decide) (by first | rfl | decide) (Nat.le_of_ble_eq_true rfl) dX4_init_25 (fun H locs hP0 hD0 hS0 => ?_)
  replace hP : va_P D vwCl [(cc_O a0 4 [.ref q_1, .ref q_2, .ref q_3, .null, .null]), (cc_l q_1 (K 0) 8 (fun _ => 0)), (cc_l q_2 (K 0) 8 (fun _ => 0)), (cc_l q_3 (K 0) 8 (fun _ => 0))] H := hP0
  replace hD := as_D hP hD0 rfl
  replace hS := hS0
  clear hP0 hD0 hS0
  refine lv_aload_n hx hb dX4_init_28 rfl (lv_at hl 0 rfl) (lv_bipush (v := 8) hx hb dX4_init_29 (by decide +kernel) ?_)
  refine k_newa (atype := .int) (ty := .int) (cA := K 0) (a0 := (8, .inl (fun _ => 0))) (N' := 8) hx hb (hts _ mm_X4_init_194) rfl hK 0 rfl hP hD hS hA (fun _ => rfl) (by decide +kernel) (by decide +kernel) (by decide +kernel) (Nat.le_of_ble_eq_true rfl) (Nat.le_of_ble_eq_true rfl) dX4_init_31 (fun q_4 H hP0 hD0 hS0 => ?_)
  replace hP : va_P D vwCl [(cc_O a0 4 [.ref q_1, .ref q_2, .ref q_3, .null, .null]), (cc_l q_1 (K 0) 8 (fun _ => 0)), (cc_l q_2 (K 0) 8 (fun _ => 0)), (cc_l q_3 (K 0) 8 (fun _ => 0)), (cc_l q_4 (K 0) 8 (fun _ => 0))] H := hP0
  replace hD := as_D hP hD0 rfl
  replace hS := hS0
  clear hP0 hD0 hS0
  refine W.widen (k := 4) (n := 32) (by omega) (by omega) ?_
  refine va_putF (ci := 4) (v := .ref q_4) (ty := .array .int) (C := RX4) (T := TX4) (N := 5) hx hb hts hw4 tyX4 tyX4_ok nmX4 hown hK hP hD hS 0 rfl rfl 3 (by decide +kernel) (hts _ mm_X4_init_327) (fun _ h9 => h9) rfl hin rfl (by decide +kernel) (by first | rfl | decide) (by first | rfl | decide) (Nat.le_of_ble_eq_true rfl) dX4_init_33 (fun H locs hP0 hD0 hS0 => ?_)
  replace hP : va_P D vwCl [(cc_O a0 4 [.ref q_1, .ref q_2, .ref q_3, .ref q_4, .null]), (cc_l q_1 (K 0) 8 (fun _ => 0)), (cc_l q_2 (K 0) 8 (fun _ => 0)), (cc_l q_3 (K 0) 8 (fun _ => 0)), (cc_l q_4 (K 0) 8 (fun _ => 0))] H := hP0
  replace hD := as_D hP hD0 rfl
  replace hS := hS0
  clear hP0 hD0 hS0
  refine lv_aload_n hx hb dX4_init_36 rfl (lv_at hl 0 rfl) (lv_sipush (v := 256) hx hb dX4_init_37 (by decide +kernel) ?_)
  refine k_newa (atype := .int) (ty := .int) (cA := K 0) (a0 := (256, .inl (fun _ => 0))) (N' := 256) hx hb (hts _ mm_X4_init_194) rfl hK 0 rfl hP hD hS hA (fun _ => rfl) (by decide +kernel) (by decide +kernel) (by decide +kernel) (Nat.le_of_ble_eq_true rfl) (Nat.le_of_ble_eq_true rfl) dX4_init_40 (fun q_5 H hP0 hD0 hS0 => ?_)
  replace hP : va_P D vwCl [(cc_O a0 4 [.ref q_1, .ref q_2, .ref q_3, .ref q_4, .null]), (cc_l q_1 (K 0) 8 (fun _ => 0)), (cc_l q_2 (K 0) 8 (fun _ => 0)), (cc_l q_3 (K 0) 8 (fun _ => 0)), (cc_l q_4 (K 0) 8 (fun _ => 0)), (cc_l q_5 (K 0) 256 (fun _ => 0))] H := hP0
  replace hD := as_D hP hD0 rfl
  replace hS := hS0
  clear hP0 hD0 hS0
  refine W.widen (k := 5) (n := 288) (by omega) (by omega) ?_
  refine va_putF (ci := 4) (v := .ref q_5) (ty := .array .int) (C := RX4) (T := TX4) (N := 5) hx hb hts hw4 tyX4 tyX4_ok nmX4 hown hK hP hD hS 0 rfl rfl 4 (by decide +kernel) (hts _ mm_X4_init_328) (fun _ h9 => h9) rfl hin rfl (by decide +kernel) (by first | rfl | decide) (by first | rfl | decide) (Nat.le_of_ble_eq_true rfl) dX4_init_42 (fun H locs hP0 hD0 hS0 => ?_)
  replace hP : va_P D vwCl [(cc_O a0 4 [.ref q_1, .ref q_2, .ref q_3, .ref q_4, .ref q_5]), (cc_l q_1 (K 0) 8 (fun _ => 0)), (cc_l q_2 (K 0) 8 (fun _ => 0)), (cc_l q_3 (K 0) 8 (fun _ => 0)), (cc_l q_4 (K 0) 8 (fun _ => 0)), (cc_l q_5 (K 0) 256 (fun _ => 0))] H := hP0
  replace hD := as_D hP hD0 rfl
  replace hS := hS0
  clear hP0 hD0 hS0
  have hP9 := hP.sub (ws' := [(cc_O a0 4 [.ref q_1, .ref q_2, .ref q_3, .ref q_4, .ref q_5]), (cc_l q_1 (K 0) 8 (fun _ => 0)), (cc_l q_2 (K 0) 8 (fun _ => 0)), (cc_l q_3 (K 0) 8 (fun _ => 0)), (cc_l q_4 (K 0) 8 (fun _ => 0)), (cc_l q_5 (K 0) 256 (fun _ => 0))]) [0, 1, 2, 3, 4, 5] rfl
  have hD9 := sub_D hP9 hD [0, 1, 2, 3, 4, 5] (by decide +kernel) rfl
  exact W.vret hx hb hr (fun t ht hW => ⟨⟨(fun i => match i with | 0 => q_1 | 1 => q_2 | 2 => q_3 | 3 => q_4 | _ => q_5, fun _ => fun _ => 0, fun _ => fun _ => 0, fun _ => 0), rfl, trivial, (⟨by rw [ht]; exact hP9, hD9⟩ : Wd D A _ t)⟩, hS.F ht⟩) hS.2.2 dX4_init_45
