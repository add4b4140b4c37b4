theorem BX12_goOn_0 : bsegs (ByteArray.data cX12_goOn |>.toList.drop 0) 0 [(0, [42]), (1, [180, 0, 13]), (4, [7]), (5, [92]), (6, [46]), (7, [4]), (8, [96]), (9, [79]), (10, [42]), (11, [3]), (12, [182, 0, 182]), (15, [16, 24]), (17, [160, 0, 20]), (20, [42]), (21, [180, 0, 13]), (24, [7]), (25, [3]), (26, [79]), (27, [42]), (28, [180, 0, 13]), (31, [8]), (32, [92]), (33, [46]), (34, [4])] = true := by decide +kernel
theorem dX12_goOn_0 : decode cX12_goOn 0 = .ok (.aload_n 0, 1) := dk_42 (bs_at BX12_goOn_0 0 rfl)
theorem dX12_goOn_1 : decode cX12_goOn 1 = .ok (.getfield 13, 3) := dk_180 0 13 (bs_at BX12_goOn_0 1 rfl) rfl
theorem dX12_goOn_4 : decode cX12_goOn 4 = .ok (.iconst 4, 1) := dk_7 (bs_at BX12_goOn_0 2 rfl)
theorem dX12_goOn_5 : decode cX12_goOn 5 = .ok (.dup2, 1) := dk_92 (bs_at BX12_goOn_0 3 rfl)
theorem dX12_goOn_6 : decode cX12_goOn 6 = .ok (.iaload, 1) := dk_46 (bs_at BX12_goOn_0 4 rfl)
theorem dX12_goOn_7 : decode cX12_goOn 7 = .ok (.iconst 1, 1) := dk_4 (bs_at BX12_goOn_0 5 rfl)
theorem dX12_goOn_8 : decode cX12_goOn 8 = .ok (.iadd, 1) := dk_96 (bs_at BX12_goOn_0 6 rfl)
theorem dX12_goOn_9 : decode cX12_goOn 9 = .ok (.iastore, 1) := dk_79 (bs_at BX12_goOn_0 7 rfl)
theorem dX12_goOn_10 : decode cX12_goOn 10 = .ok (.aload_n 0, 1) := dk_42 (bs_at BX12_goOn_0 8 rfl)
theorem dX12_goOn_11 : decode cX12_goOn 11 = .ok (.iconst 0, 1) := dk_3 (bs_at BX12_goOn_0 9 rfl)
theorem dX12_goOn_12 : decode cX12_goOn 12 = .ok (.invokevirtual 182, 3) := dk_182 0 182 (bs_at BX12_goOn_0 10 rfl) rfl
theorem dX12_goOn_15 : decode cX12_goOn 15 = .ok (.bipush 24, 2) := dk_16 24 (bs_at BX12_goOn_0 11 rfl) rfl
theorem dX12_goOn_17 : decode cX12_goOn 17 = .ok (.if_icmp .ne 20, 3) := dk_160 0 20 (bs_at BX12_goOn_0 12 rfl) rfl
theorem dX12_goOn_20 : decode cX12_goOn 20 = .ok (.aload_n 0, 1) := dk_42 (bs_at BX12_goOn_0 13 rfl)
theorem dX12_goOn_21 : decode cX12_goOn 21 = .ok (.getfield 13, 3) := dk_180 0 13 (bs_at BX12_goOn_0 14 rfl) rfl
theorem dX12_goOn_24 : decode cX12_goOn 24 = .ok (.iconst 4, 1) := dk_7 (bs_at BX12_goOn_0 15 rfl)
theorem dX12_goOn_25 : decode cX12_goOn 25 = .ok (.iconst 0, 1) := dk_3 (bs_at BX12_goOn_0 16 rfl)
theorem dX12_goOn_26 : decode cX12_goOn 26 = .ok (.iastore, 1) := dk_79 (bs_at BX12_goOn_0 17 rfl)
theorem dX12_goOn_27 : decode cX12_goOn 27 = .ok (.aload_n 0, 1) := dk_42 (bs_at BX12_goOn_0 18 rfl)
theorem dX12_goOn_28 : decode cX12_goOn 28 = .ok (.getfield 13, 3) := dk_180 0 13 (bs_at BX12_goOn_0 19 rfl) rfl
theorem dX12_goOn_31 : decode cX12_goOn 31 = .ok (.iconst 5, 1) := dk_8 (bs_at BX12_goOn_0 20 rfl)
theorem dX12_goOn_32 : decode cX12_goOn 32 = .ok (.dup2, 1) := dk_92 (bs_at BX12_goOn_0 21 rfl)
theorem dX12_goOn_33 : decode cX12_goOn 33 = .ok (.iaload, 1) := dk_46 (bs_at BX12_goOn_0 22 rfl)
theorem dX12_goOn_34 : decode cX12_goOn 34 = .ok (.iconst 1, 1) := dk_4 (bs_at BX12_goOn_0 23 rfl)
theorem BX12_goOn_35 : bsegs (ByteArray.data cX12_goOn |>.toList.drop 35) 35 [(35, [96]), (36, [79]), (37, [177])] = true := by decide +kernel
theorem dX12_goOn_35 : decode cX12_goOn 35 = .ok (.iadd, 1) := dk_96 (bs_at BX12_goOn_35 0 rfl)
theorem dX12_goOn_36 : decode cX12_goOn 36 = .ok (.iastore, 1) := dk_79 (bs_at BX12_goOn_35 1 rfl)
theorem dX12_goOn_37 : decode cX12_goOn 37 = .ok (.return_, 1) := dk_177 (bs_at BX12_goOn_35 2 rfl)
theorem BX12_terms_0 : bsegs (ByteArray.data cX12_terms |>.toList.drop 0) 0 [(0, [42]), (1, [3]), (2, [181, 0, 158]), (5, [27]), (6, [28]), (7, [184, 0, 223]), (10, [154, 0, 9]), (13, [42]), (14, [2]), (15, [182, 0, 171]), (18, [172]), (19, [42]), (20, [3]), (21, [181, 0, 164]), (24, [42]), (25, [7]), (26, [27]), (27, [96]), (28, [28]), (29, [182, 0, 214]), (32, [172])] = true := by decide +kernel
theorem dX12_terms_0 : decode cX12_terms 0 = .ok (.aload_n 0, 1) := dk_42 (bs_at BX12_terms_0 0 rfl)
theorem dX12_terms_1 : decode cX12_terms 1 = .ok (.iconst 0, 1) := dk_3 (bs_at BX12_terms_0 1 rfl)
theorem dX12_terms_2 : decode cX12_terms 2 = .ok (.putfield 158, 3) := dk_181 0 158 (bs_at BX12_terms_0 2 rfl) rfl
theorem dX12_terms_5 : decode cX12_terms 5 = .ok (.iload_n 1, 1) := dk_27 (bs_at BX12_terms_0 3 rfl)
theorem dX12_terms_6 : decode cX12_terms 6 = .ok (.iload_n 2, 1) := dk_28 (bs_at BX12_terms_0 4 rfl)
theorem dX12_terms_7 : decode cX12_terms 7 = .ok (.invokestatic 223, 3) := dk_184 0 223 (bs_at BX12_terms_0 5 rfl) rfl
theorem dX12_terms_10 : decode cX12_terms 10 = .ok (.ifCond .ne 9, 3) := dk_154 0 9 (bs_at BX12_terms_0 6 rfl) rfl
theorem dX12_terms_13 : decode cX12_terms 13 = .ok (.aload_n 0, 1) := dk_42 (bs_at BX12_terms_0 7 rfl)
theorem dX12_terms_14 : decode cX12_terms 14 = .ok (.iconst (-1), 1) := dk_2 (bs_at BX12_terms_0 8 rfl)
theorem dX12_terms_15 : decode cX12_terms 15 = .ok (.invokevirtual 171, 3) := dk_182 0 171 (bs_at BX12_terms_0 9 rfl) rfl
theorem dX12_terms_18 : decode cX12_terms 18 = .ok (.ireturn, 1) := dk_172 (bs_at BX12_terms_0 10 rfl)
theorem dX12_terms_19 : decode cX12_terms 19 = .ok (.aload_n 0, 1) := dk_42 (bs_at BX12_terms_0 11 rfl)
theorem dX12_terms_20 : decode cX12_terms 20 = .ok (.iconst 0, 1) := dk_3 (bs_at BX12_terms_0 12 rfl)
theorem dX12_terms_21 : decode cX12_terms 21 = .ok (.putfield 164, 3) := dk_181 0 164 (bs_at BX12_terms_0 13 rfl) rfl
theorem dX12_terms_24 : decode cX12_terms 24 = .ok (.aload_n 0, 1) := dk_42 (bs_at BX12_terms_0 14 rfl)
theorem dX12_terms_25 : decode cX12_terms 25 = .ok (.iconst 4, 1) := dk_7 (bs_at BX12_terms_0 15 rfl)
theorem dX12_terms_26 : decode cX12_terms 26 = .ok (.iload_n 1, 1) := dk_27 (bs_at BX12_terms_0 16 rfl)
theorem dX12_terms_27 : decode cX12_terms 27 = .ok (.iadd, 1) := dk_96 (bs_at BX12_terms_0 17 rfl)
theorem dX12_terms_28 : decode cX12_terms 28 = .ok (.iload_n 2, 1) := dk_28 (bs_at BX12_terms_0 18 rfl)
theorem dX12_terms_29 : decode cX12_terms 29 = .ok (.invokevirtual 214, 3) := dk_182 0 214 (bs_at BX12_terms_0 19 rfl) rfl
theorem dX12_terms_32 : decode cX12_terms 32 = .ok (.ireturn, 1) := dk_172 (bs_at BX12_terms_0 20 rfl)
theorem BX12_row_0 : bsegs (ByteArray.data cX12_row |>.toList.drop 0) 0 [(0, [42]), (1, [3]), (2, [181, 0, 158]), (5, [42]), (6, [180, 0, 227]), (9, [60]), (10, [42]), (11, [3]), (12, [181, 0, 227]), (15, [27]), (16, [154, 0, 10]), (19, [42]), (20, [16, 250]), (22, [182, 0, 171]), (25, [172]), (26, [42]), (27, [3]), (28, [181, 0, 230]), (31, [3]), (32, [61]), (33, [3]), (34, [62]), (35, [29]), (36, [27])] = true := by decide +kernel
theorem dX12_row_0 : decode cX12_row 0 = .ok (.aload_n 0, 1) := dk_42 (bs_at BX12_row_0 0 rfl)
theorem dX12_row_1 : decode cX12_row 1 = .ok (.iconst 0, 1) := dk_3 (bs_at BX12_row_0 1 rfl)
theorem dX12_row_2 : decode cX12_row 2 = .ok (.putfield 158, 3) := dk_181 0 158 (bs_at BX12_row_0 2 rfl) rfl
theorem dX12_row_5 : decode cX12_row 5 = .ok (.aload_n 0, 1) := dk_42 (bs_at BX12_row_0 3 rfl)
theorem dX12_row_6 : decode cX12_row 6 = .ok (.getfield 227, 3) := dk_180 0 227 (bs_at BX12_row_0 4 rfl) rfl
theorem dX12_row_9 : decode cX12_row 9 = .ok (.istore_n 1, 1) := dk_60 (bs_at BX12_row_0 5 rfl)
theorem dX12_row_10 : decode cX12_row 10 = .ok (.aload_n 0, 1) := dk_42 (bs_at BX12_row_0 6 rfl)
theorem dX12_row_11 : decode cX12_row 11 = .ok (.iconst 0, 1) := dk_3 (bs_at BX12_row_0 7 rfl)
theorem dX12_row_12 : decode cX12_row 12 = .ok (.putfield 227, 3) := dk_181 0 227 (bs_at BX12_row_0 8 rfl) rfl
theorem dX12_row_15 : decode cX12_row 15 = .ok (.iload_n 1, 1) := dk_27 (bs_at BX12_row_0 9 rfl)
theorem dX12_row_16 : decode cX12_row 16 = .ok (.ifCond .ne 10, 3) := dk_154 0 10 (bs_at BX12_row_0 10 rfl) rfl
theorem dX12_row_19 : decode cX12_row 19 = .ok (.aload_n 0, 1) := dk_42 (bs_at BX12_row_0 11 rfl)
theorem dX12_row_20 : decode cX12_row 20 = .ok (.bipush (-6), 2) := dk_16 250 (bs_at BX12_row_0 12 rfl) rfl
theorem dX12_row_22 : decode cX12_row 22 = .ok (.invokevirtual 171, 3) := dk_182 0 171 (bs_at BX12_row_0 13 rfl) rfl
theorem dX12_row_25 : decode cX12_row 25 = .ok (.ireturn, 1) := dk_172 (bs_at BX12_row_0 14 rfl)
theorem dX12_row_26 : decode cX12_row 26 = .ok (.aload_n 0, 1) := dk_42 (bs_at BX12_row_0 15 rfl)
theorem dX12_row_27 : decode cX12_row 27 = .ok (.iconst 0, 1) := dk_3 (bs_at BX12_row_0 16 rfl)
theorem dX12_row_28 : decode cX12_row 28 = .ok (.putfield 230, 3) := dk_181 0 230 (bs_at BX12_row_0 17 rfl) rfl
theorem dX12_row_31 : decode cX12_row 31 = .ok (.iconst 0, 1) := dk_3 (bs_at BX12_row_0 18 rfl)
theorem dX12_row_32 : decode cX12_row 32 = .ok (.istore_n 2, 1) := dk_61 (bs_at BX12_row_0 19 rfl)
theorem dX12_row_33 : decode cX12_row 33 = .ok (.iconst 0, 1) := dk_3 (bs_at BX12_row_0 20 rfl)
theorem dX12_row_34 : decode cX12_row 34 = .ok (.istore_n 3, 1) := dk_62 (bs_at BX12_row_0 21 rfl)
theorem dX12_row_35 : decode cX12_row 35 = .ok (.iload_n 3, 1) := dk_29 (bs_at BX12_row_0 22 rfl)
theorem dX12_row_36 : decode cX12_row 36 = .ok (.iload_n 1, 1) := dk_27 (bs_at BX12_row_0 23 rfl)
theorem BX12_row_37 : bsegs (ByteArray.data cX12_row |>.toList.drop 37) 37 [(37, [162, 0, 58]), (40, [29]), (41, [16, 24]), (43, [162, 0, 36]), (46, [42]), (47, [180, 0, 35]), (50, [29]), (51, [46]), (52, [17, 0, 128]), (55, [162, 0, 24]), (58, [42]), (59, [180, 0, 13]), (62, [16, 67]), (64, [29]), (65, [96]), (66, [42]), (67, [180, 0, 35]), (70, [29]), (71, [46]), (72, [79]), (73, [132, 2, 1]), (76, [167, 0, 13]), (79, [42]), (80, [89])] = true := by decide +kernel
theorem dX12_row_37 : decode cX12_row 37 = .ok (.if_icmp .ge 58, 3) := dk_162 0 58 (bs_at BX12_row_37 0 rfl) rfl
theorem dX12_row_40 : decode cX12_row 40 = .ok (.iload_n 3, 1) := dk_29 (bs_at BX12_row_37 1 rfl)
theorem dX12_row_41 : decode cX12_row 41 = .ok (.bipush 24, 2) := dk_16 24 (bs_at BX12_row_37 2 rfl) rfl
theorem dX12_row_43 : decode cX12_row 43 = .ok (.if_icmp .ge 36, 3) := dk_162 0 36 (bs_at BX12_row_37 3 rfl) rfl
theorem dX12_row_46 : decode cX12_row 46 = .ok (.aload_n 0, 1) := dk_42 (bs_at BX12_row_37 4 rfl)
theorem dX12_row_47 : decode cX12_row 47 = .ok (.getfield 35, 3) := dk_180 0 35 (bs_at BX12_row_37 5 rfl) rfl
theorem dX12_row_50 : decode cX12_row 50 = .ok (.iload_n 3, 1) := dk_29 (bs_at BX12_row_37 6 rfl)
theorem dX12_row_51 : decode cX12_row 51 = .ok (.iaload, 1) := dk_46 (bs_at BX12_row_37 7 rfl)
theorem dX12_row_52 : decode cX12_row 52 = .ok (.sipush 128, 3) := dk_17 0 128 (bs_at BX12_row_37 8 rfl) rfl
theorem dX12_row_55 : decode cX12_row 55 = .ok (.if_icmp .ge 24, 3) := dk_162 0 24 (bs_at BX12_row_37 9 rfl) rfl
theorem dX12_row_58 : decode cX12_row 58 = .ok (.aload_n 0, 1) := dk_42 (bs_at BX12_row_37 10 rfl)
theorem dX12_row_59 : decode cX12_row 59 = .ok (.getfield 13, 3) := dk_180 0 13 (bs_at BX12_row_37 11 rfl) rfl
theorem dX12_row_62 : decode cX12_row 62 = .ok (.bipush 67, 2) := dk_16 67 (bs_at BX12_row_37 12 rfl) rfl
theorem dX12_row_64 : decode cX12_row 64 = .ok (.iload_n 3, 1) := dk_29 (bs_at BX12_row_37 13 rfl)
theorem dX12_row_65 : decode cX12_row 65 = .ok (.iadd, 1) := dk_96 (bs_at BX12_row_37 14 rfl)
theorem dX12_row_66 : decode cX12_row 66 = .ok (.aload_n 0, 1) := dk_42 (bs_at BX12_row_37 15 rfl)
theorem dX12_row_67 : decode cX12_row 67 = .ok (.getfield 35, 3) := dk_180 0 35 (bs_at BX12_row_37 16 rfl) rfl
theorem dX12_row_70 : decode cX12_row 70 = .ok (.iload_n 3, 1) := dk_29 (bs_at BX12_row_37 17 rfl)
theorem dX12_row_71 : decode cX12_row 71 = .ok (.iaload, 1) := dk_46 (bs_at BX12_row_37 18 rfl)
theorem dX12_row_72 : decode cX12_row 72 = .ok (.iastore, 1) := dk_79 (bs_at BX12_row_37 19 rfl)
theorem dX12_row_73 : decode cX12_row 73 = .ok (.iinc 2 1, 3) := dk_132 2 1 (bs_at BX12_row_37 20 rfl) rfl
theorem dX12_row_76 : decode cX12_row 76 = .ok (.goto 13, 3) := dk_167 0 13 (bs_at BX12_row_37 21 rfl) rfl
theorem dX12_row_79 : decode cX12_row 79 = .ok (.aload_n 0, 1) := dk_42 (bs_at BX12_row_37 22 rfl)
theorem dX12_row_80 : decode cX12_row 80 = .ok (.dup, 1) := dk_89 (bs_at BX12_row_37 23 rfl)
theorem BX12_row_81 : bsegs (ByteArray.data cX12_row |>.toList.drop 81) 81 [(81, [180, 0, 230]), (84, [4]), (85, [96]), (86, [181, 0, 230]), (89, [132, 3, 1]), (92, [167, 255, 199]), (95, [42]), (96, [28]), (97, [182, 0, 171]), (100, [172])] = true := by decide +kernel
theorem dX12_row_81 : decode cX12_row 81 = .ok (.getfield 230, 3) := dk_180 0 230 (bs_at BX12_row_81 0 rfl) rfl
theorem dX12_row_84 : decode cX12_row 84 = .ok (.iconst 1, 1) := dk_4 (bs_at BX12_row_81 1 rfl)
theorem dX12_row_85 : decode cX12_row 85 = .ok (.iadd, 1) := dk_96 (bs_at BX12_row_81 2 rfl)
theorem dX12_row_86 : decode cX12_row 86 = .ok (.putfield 230, 3) := dk_181 0 230 (bs_at BX12_row_81 3 rfl) rfl
theorem dX12_row_89 : decode cX12_row 89 = .ok (.iinc 3 1, 3) := dk_132 3 1 (bs_at BX12_row_81 4 rfl) rfl
theorem dX12_row_92 : decode cX12_row 92 = .ok (.goto (-57), 3) := dk_167 255 199 (bs_at BX12_row_81 5 rfl) rfl
theorem dX12_row_95 : decode cX12_row 95 = .ok (.aload_n 0, 1) := dk_42 (bs_at BX12_row_81 6 rfl)
theorem dX12_row_96 : decode cX12_row 96 = .ok (.iload_n 2, 1) := dk_28 (bs_at BX12_row_81 7 rfl)
theorem dX12_row_97 : decode cX12_row 97 = .ok (.invokevirtual 171, 3) := dk_182 0 171 (bs_at BX12_row_81 8 rfl) rfl
theorem dX12_row_100 : decode cX12_row 100 = .ok (.ireturn, 1) := dk_172 (bs_at BX12_row_81 9 rfl)
theorem BX12_ash_0 : bsegs (ByteArray.data cX12_ash |>.toList.drop 0) 0 [(0, [42]), (1, [3]), (2, [181, 0, 158]), (5, [42]), (6, [180, 0, 230]), (9, [172])] = true := by decide +kernel
theorem dX12_ash_0 : decode cX12_ash 0 = .ok (.aload_n 0, 1) := dk_42 (bs_at BX12_ash_0 0 rfl)
theorem dX12_ash_1 : decode cX12_ash 1 = .ok (.iconst 0, 1) := dk_3 (bs_at BX12_ash_0 1 rfl)
theorem dX12_ash_2 : decode cX12_ash 2 = .ok (.putfield 158, 3) := dk_181 0 158 (bs_at BX12_ash_0 2 rfl) rfl
theorem dX12_ash_5 : decode cX12_ash 5 = .ok (.aload_n 0, 1) := dk_42 (bs_at BX12_ash_0 3 rfl)
theorem dX12_ash_6 : decode cX12_ash 6 = .ok (.getfield 230, 3) := dk_180 0 230 (bs_at BX12_ash_0 4 rfl) rfl
theorem dX12_ash_9 : decode cX12_ash 9 = .ok (.ireturn, 1) := dk_172 (bs_at BX12_ash_0 5 rfl)
theorem BX12_feed_0 : bsegs (ByteArray.data cX12_feed |>.toList.drop 0) 0 [(0, [42]), (1, [3]), (2, [181, 0, 158]), (5, [42]), (6, [180, 0, 227]), (9, [16, 20]), (11, [96]), (12, [17, 1, 144]), (15, [164, 0, 5]), (18, [2]), (19, [172]), (20, [42]), (21, [27]), (22, [182, 0, 233]), (25, [42]), (26, [28]), (27, [182, 0, 233]), (30, [42]), (31, [29]), (32, [182, 0, 233]), (35, [42]), (36, [21, 4]), (38, [182, 0, 233]), (41, [42])] = true := by decide +kernel
theorem dX12_feed_0 : decode cX12_feed 0 = .ok (.aload_n 0, 1) := dk_42 (bs_at BX12_feed_0 0 rfl)
theorem dX12_feed_1 : decode cX12_feed 1 = .ok (.iconst 0, 1) := dk_3 (bs_at BX12_feed_0 1 rfl)
theorem dX12_feed_2 : decode cX12_feed 2 = .ok (.putfield 158, 3) := dk_181 0 158 (bs_at BX12_feed_0 2 rfl) rfl
theorem dX12_feed_5 : decode cX12_feed 5 = .ok (.aload_n 0, 1) := dk_42 (bs_at BX12_feed_0 3 rfl)
theorem dX12_feed_6 : decode cX12_feed 6 = .ok (.getfield 227, 3) := dk_180 0 227 (bs_at BX12_feed_0 4 rfl) rfl
theorem dX12_feed_9 : decode cX12_feed 9 = .ok (.bipush 20, 2) := dk_16 20 (bs_at BX12_feed_0 5 rfl) rfl
theorem dX12_feed_11 : decode cX12_feed 11 = .ok (.iadd, 1) := dk_96 (bs_at BX12_feed_0 6 rfl)
theorem dX12_feed_12 : decode cX12_feed 12 = .ok (.sipush 400, 3) := dk_17 1 144 (bs_at BX12_feed_0 7 rfl) rfl
theorem dX12_feed_15 : decode cX12_feed 15 = .ok (.if_icmp .le 5, 3) := dk_164 0 5 (bs_at BX12_feed_0 8 rfl) rfl
theorem dX12_feed_18 : decode cX12_feed 18 = .ok (.iconst (-1), 1) := dk_2 (bs_at BX12_feed_0 9 rfl)
theorem dX12_feed_19 : decode cX12_feed 19 = .ok (.ireturn, 1) := dk_172 (bs_at BX12_feed_0 10 rfl)
theorem dX12_feed_20 : decode cX12_feed 20 = .ok (.aload_n 0, 1) := dk_42 (bs_at BX12_feed_0 11 rfl)
theorem dX12_feed_21 : decode cX12_feed 21 = .ok (.iload_n 1, 1) := dk_27 (bs_at BX12_feed_0 12 rfl)
theorem dX12_feed_22 : decode cX12_feed 22 = .ok (.invokevirtual 233, 3) := dk_182 0 233 (bs_at BX12_feed_0 13 rfl) rfl
theorem dX12_feed_25 : decode cX12_feed 25 = .ok (.aload_n 0, 1) := dk_42 (bs_at BX12_feed_0 14 rfl)
theorem dX12_feed_26 : decode cX12_feed 26 = .ok (.iload_n 2, 1) := dk_28 (bs_at BX12_feed_0 15 rfl)
theorem dX12_feed_27 : decode cX12_feed 27 = .ok (.invokevirtual 233, 3) := dk_182 0 233 (bs_at BX12_feed_0 16 rfl) rfl
theorem dX12_feed_30 : decode cX12_feed 30 = .ok (.aload_n 0, 1) := dk_42 (bs_at BX12_feed_0 17 rfl)
theorem dX12_feed_31 : decode cX12_feed 31 = .ok (.iload_n 3, 1) := dk_29 (bs_at BX12_feed_0 18 rfl)
theorem dX12_feed_32 : decode cX12_feed 32 = .ok (.invokevirtual 233, 3) := dk_182 0 233 (bs_at BX12_feed_0 19 rfl) rfl
theorem dX12_feed_35 : decode cX12_feed 35 = .ok (.aload_n 0, 1) := dk_42 (bs_at BX12_feed_0 20 rfl)
theorem dX12_feed_36 : decode cX12_feed 36 = .ok (.iload 4, 2) := dk_21 4 (bs_at BX12_feed_0 21 rfl)
theorem dX12_feed_38 : decode cX12_feed 38 = .ok (.invokevirtual 233, 3) := dk_182 0 233 (bs_at BX12_feed_0 22 rfl) rfl
theorem dX12_feed_41 : decode cX12_feed 41 = .ok (.aload_n 0, 1) := dk_42 (bs_at BX12_feed_0 23 rfl)
theorem BX12_feed_42 : bsegs (ByteArray.data cX12_feed |>.toList.drop 42) 42 [(42, [21, 5]), (44, [182, 0, 233]), (47, [42]), (48, [180, 0, 227]), (51, [172])] = true := by decide +kernel
theorem dX12_feed_42 : decode cX12_feed 42 = .ok (.iload 5, 2) := dk_21 5 (bs_at BX12_feed_42 0 rfl)
theorem dX12_feed_44 : decode cX12_feed 44 = .ok (.invokevirtual 233, 3) := dk_182 0 233 (bs_at BX12_feed_42 1 rfl) rfl
theorem dX12_feed_47 : decode cX12_feed 47 = .ok (.aload_n 0, 1) := dk_42 (bs_at BX12_feed_42 2 rfl)
theorem dX12_feed_48 : decode cX12_feed 48 = .ok (.getfield 227, 3) := dk_180 0 227 (bs_at BX12_feed_42 3 rfl) rfl
theorem dX12_feed_51 : decode cX12_feed 51 = .ok (.ireturn, 1) := dk_172 (bs_at BX12_feed_42 4 rfl)
theorem BX12_end_0 : bsegs (ByteArray.data cX12_end |>.toList.drop 0) 0 [(0, [42]), (1, [3]), (2, [181, 0, 158]), (5, [27]), (6, [155, 0, 11]), (9, [27]), (10, [42]), (11, [180, 0, 227]), (14, [164, 0, 5]), (17, [2]), (18, [172]), (19, [42]), (20, [27]), (21, [181, 0, 227]), (24, [27]), (25, [172])] = true := by decide +kernel
theorem dX12_end_0 : decode cX12_end 0 = .ok (.aload_n 0, 1) := dk_42 (bs_at BX12_end_0 0 rfl)
theorem dX12_end_1 : decode cX12_end 1 = .ok (.iconst 0, 1) := dk_3 (bs_at BX12_end_0 1 rfl)
theorem dX12_end_2 : decode cX12_end 2 = .ok (.putfield 158, 3) := dk_181 0 158 (bs_at BX12_end_0 2 rfl) rfl
theorem dX12_end_5 : decode cX12_end 5 = .ok (.iload_n 1, 1) := dk_27 (bs_at BX12_end_0 3 rfl)
theorem dX12_end_6 : decode cX12_end 6 = .ok (.ifCond .lt 11, 3) := dk_155 0 11 (bs_at BX12_end_0 4 rfl) rfl
theorem dX12_end_9 : decode cX12_end 9 = .ok (.iload_n 1, 1) := dk_27 (bs_at BX12_end_0 5 rfl)
theorem dX12_end_10 : decode cX12_end 10 = .ok (.aload_n 0, 1) := dk_42 (bs_at BX12_end_0 6 rfl)
theorem dX12_end_11 : decode cX12_end 11 = .ok (.getfield 227, 3) := dk_180 0 227 (bs_at BX12_end_0 7 rfl) rfl
theorem dX12_end_14 : decode cX12_end 14 = .ok (.if_icmp .le 5, 3) := dk_164 0 5 (bs_at BX12_end_0 8 rfl) rfl
theorem dX12_end_17 : decode cX12_end 17 = .ok (.iconst (-1), 1) := dk_2 (bs_at BX12_end_0 9 rfl)
theorem dX12_end_18 : decode cX12_end 18 = .ok (.ireturn, 1) := dk_172 (bs_at BX12_end_0 10 rfl)
theorem dX12_end_19 : decode cX12_end 19 = .ok (.aload_n 0, 1) := dk_42 (bs_at BX12_end_0 11 rfl)
theorem dX12_end_20 : decode cX12_end 20 = .ok (.iload_n 1, 1) := dk_27 (bs_at BX12_end_0 12 rfl)
theorem dX12_end_21 : decode cX12_end 21 = .ok (.putfield 227, 3) := dk_181 0 227 (bs_at BX12_end_0 13 rfl) rfl
theorem dX12_end_24 : decode cX12_end 24 = .ok (.iload_n 1, 1) := dk_27 (bs_at BX12_end_0 14 rfl)
theorem dX12_end_25 : decode cX12_end 25 = .ok (.ireturn, 1) := dk_172 (bs_at BX12_end_0 15 rfl)
theorem BX12_isLaw_0 : bsegs (ByteArray.data cX12_isLaw |>.toList.drop 0) 0 [(0, [27]), (1, [2]), (2, [159, 0, 21]), (5, [27]), (6, [133]), (7, [9]), (8, [42]), (9, [180, 0, 13]), (12, [5]), (13, [46]), (14, [133]), (15, [10]), (16, [101]), (17, [184, 0, 178]), (20, [153, 0, 7]), (23, [4]), (24, [167, 0, 4]), (27, [3]), (28, [172])] = true := by decide +kernel
theorem dX12_isLaw_0 : decode cX12_isLaw 0 = .ok (.iload_n 1, 1) := dk_27 (bs_at BX12_isLaw_0 0 rfl)
theorem dX12_isLaw_1 : decode cX12_isLaw 1 = .ok (.iconst (-1), 1) := dk_2 (bs_at BX12_isLaw_0 1 rfl)
theorem dX12_isLaw_2 : decode cX12_isLaw 2 = .ok (.if_icmp .eq 21, 3) := dk_159 0 21 (bs_at BX12_isLaw_0 2 rfl) rfl
theorem dX12_isLaw_5 : decode cX12_isLaw 5 = .ok (.iload_n 1, 1) := dk_27 (bs_at BX12_isLaw_0 3 rfl)
theorem dX12_isLaw_6 : decode cX12_isLaw 6 = .ok (.i2l, 1) := dk_133 (bs_at BX12_isLaw_0 4 rfl)
theorem dX12_isLaw_7 : decode cX12_isLaw 7 = .ok (.lconst 0, 1) := dk_9 (bs_at BX12_isLaw_0 5 rfl)
theorem dX12_isLaw_8 : decode cX12_isLaw 8 = .ok (.aload_n 0, 1) := dk_42 (bs_at BX12_isLaw_0 6 rfl)
theorem dX12_isLaw_9 : decode cX12_isLaw 9 = .ok (.getfield 13, 3) := dk_180 0 13 (bs_at BX12_isLaw_0 7 rfl) rfl
theorem dX12_isLaw_12 : decode cX12_isLaw 12 = .ok (.iconst 2, 1) := dk_5 (bs_at BX12_isLaw_0 8 rfl)
theorem dX12_isLaw_13 : decode cX12_isLaw 13 = .ok (.iaload, 1) := dk_46 (bs_at BX12_isLaw_0 9 rfl)
theorem dX12_isLaw_14 : decode cX12_isLaw 14 = .ok (.i2l, 1) := dk_133 (bs_at BX12_isLaw_0 10 rfl)
theorem dX12_isLaw_15 : decode cX12_isLaw 15 = .ok (.lconst 1, 1) := dk_10 (bs_at BX12_isLaw_0 11 rfl)
theorem dX12_isLaw_16 : decode cX12_isLaw 16 = .ok (.lsub, 1) := dk_101 (bs_at BX12_isLaw_0 12 rfl)
theorem dX12_isLaw_17 : decode cX12_isLaw 17 = .ok (.invokestatic 178, 3) := dk_184 0 178 (bs_at BX12_isLaw_0 13 rfl) rfl
theorem dX12_isLaw_20 : decode cX12_isLaw 20 = .ok (.ifCond .eq 7, 3) := dk_153 0 7 (bs_at BX12_isLaw_0 14 rfl) rfl
theorem dX12_isLaw_23 : decode cX12_isLaw 23 = .ok (.iconst 1, 1) := dk_4 (bs_at BX12_isLaw_0 15 rfl)
theorem dX12_isLaw_24 : decode cX12_isLaw 24 = .ok (.goto 4, 3) := dk_167 0 4 (bs_at BX12_isLaw_0 16 rfl) rfl
theorem dX12_isLaw_27 : decode cX12_isLaw 27 = .ok (.iconst 0, 1) := dk_3 (bs_at BX12_isLaw_0 17 rfl)
theorem dX12_isLaw_28 : decode cX12_isLaw 28 = .ok (.ireturn, 1) := dk_172 (bs_at BX12_isLaw_0 18 rfl)
theorem BX12_force_0 : bsegs (ByteArray.data cX12_force |>.toList.drop 0) 0 [(0, [42]), (1, [3]), (2, [181, 0, 158]), (5, [42]), (6, [27]), (7, [182, 1, 127]), (10, [153, 0, 12]), (13, [42]), (14, [6]), (15, [27]), (16, [182, 0, 214]), (19, [167, 0, 9]), (22, [42]), (23, [16, 254]), (25, [182, 0, 171]), (28, [172])] = true := by decide +kernel
theorem dX12_force_0 : decode cX12_force 0 = .ok (.aload_n 0, 1) := dk_42 (bs_at BX12_force_0 0 rfl)
theorem dX12_force_1 : decode cX12_force 1 = .ok (.iconst 0, 1) := dk_3 (bs_at BX12_force_0 1 rfl)
theorem dX12_force_2 : decode cX12_force 2 = .ok (.putfield 158, 3) := dk_181 0 158 (bs_at BX12_force_0 2 rfl) rfl
theorem dX12_force_5 : decode cX12_force 5 = .ok (.aload_n 0, 1) := dk_42 (bs_at BX12_force_0 3 rfl)
theorem dX12_force_6 : decode cX12_force 6 = .ok (.iload_n 1, 1) := dk_27 (bs_at BX12_force_0 4 rfl)
theorem dX12_force_7 : decode cX12_force 7 = .ok (.invokevirtual 383, 3) := dk_182 1 127 (bs_at BX12_force_0 5 rfl) rfl
theorem dX12_force_10 : decode cX12_force 10 = .ok (.ifCond .eq 12, 3) := dk_153 0 12 (bs_at BX12_force_0 6 rfl) rfl
theorem dX12_force_13 : decode cX12_force 13 = .ok (.aload_n 0, 1) := dk_42 (bs_at BX12_force_0 7 rfl)
theorem dX12_force_14 : decode cX12_force 14 = .ok (.iconst 3, 1) := dk_6 (bs_at BX12_force_0 8 rfl)
theorem dX12_force_15 : decode cX12_force 15 = .ok (.iload_n 1, 1) := dk_27 (bs_at BX12_force_0 9 rfl)
theorem dX12_force_16 : decode cX12_force 16 = .ok (.invokevirtual 214, 3) := dk_182 0 214 (bs_at BX12_force_0 10 rfl) rfl
theorem dX12_force_19 : decode cX12_force 19 = .ok (.goto 9, 3) := dk_167 0 9 (bs_at BX12_force_0 11 rfl) rfl
theorem dX12_force_22 : decode cX12_force 22 = .ok (.aload_n 0, 1) := dk_42 (bs_at BX12_force_0 12 rfl)
theorem dX12_force_23 : decode cX12_force 23 = .ok (.bipush (-2), 2) := dk_16 254 (bs_at BX12_force_0 13 rfl) rfl
theorem dX12_force_25 : decode cX12_force 25 = .ok (.invokevirtual 171, 3) := dk_182 0 171 (bs_at BX12_force_0 14 rfl) rfl
theorem dX12_force_28 : decode cX12_force 28 = .ok (.ireturn, 1) := dk_172 (bs_at BX12_force_0 15 rfl)
theorem BX12_canPass_0 : bsegs (ByteArray.data cX12_canPass |>.toList.drop 0) 0 [(0, [42]), (1, [4]), (2, [182, 0, 182]), (5, [17, 3, 231]), (8, [161, 0, 13]), (11, [42]), (12, [3]), (13, [182, 0, 182]), (16, [16, 23]), (18, [162, 0, 7]), (21, [4]), (22, [167, 0, 4]), (25, [3]), (26, [172])] = true := by decide +kernel
theorem dX12_canPass_0 : decode cX12_canPass 0 = .ok (.aload_n 0, 1) := dk_42 (bs_at BX12_canPass_0 0 rfl)
theorem dX12_canPass_1 : decode cX12_canPass 1 = .ok (.iconst 1, 1) := dk_4 (bs_at BX12_canPass_0 1 rfl)
theorem dX12_canPass_2 : decode cX12_canPass 2 = .ok (.invokevirtual 182, 3) := dk_182 0 182 (bs_at BX12_canPass_0 2 rfl) rfl
theorem dX12_canPass_5 : decode cX12_canPass 5 = .ok (.sipush 999, 3) := dk_17 3 231 (bs_at BX12_canPass_0 3 rfl) rfl
theorem dX12_canPass_8 : decode cX12_canPass 8 = .ok (.if_icmp .lt 13, 3) := dk_161 0 13 (bs_at BX12_canPass_0 4 rfl) rfl
theorem dX12_canPass_11 : decode cX12_canPass 11 = .ok (.aload_n 0, 1) := dk_42 (bs_at BX12_canPass_0 5 rfl)
theorem dX12_canPass_12 : decode cX12_canPass 12 = .ok (.iconst 0, 1) := dk_3 (bs_at BX12_canPass_0 6 rfl)
theorem dX12_canPass_13 : decode cX12_canPass 13 = .ok (.invokevirtual 182, 3) := dk_182 0 182 (bs_at BX12_canPass_0 7 rfl) rfl
theorem dX12_canPass_16 : decode cX12_canPass 16 = .ok (.bipush 23, 2) := dk_16 23 (bs_at BX12_canPass_0 8 rfl) rfl
theorem dX12_canPass_18 : decode cX12_canPass 18 = .ok (.if_icmp .ge 7, 3) := dk_162 0 7 (bs_at BX12_canPass_0 9 rfl) rfl
theorem dX12_canPass_21 : decode cX12_canPass 21 = .ok (.iconst 1, 1) := dk_4 (bs_at BX12_canPass_0 10 rfl)
theorem dX12_canPass_22 : decode cX12_canPass 22 = .ok (.goto 4, 3) := dk_167 0 4 (bs_at BX12_canPass_0 11 rfl) rfl
theorem dX12_canPass_25 : decode cX12_canPass 25 = .ok (.iconst 0, 1) := dk_3 (bs_at BX12_canPass_0 12 rfl)
theorem dX12_canPass_26 : decode cX12_canPass 26 = .ok (.ireturn, 1) := dk_172 (bs_at BX12_canPass_0 13 rfl)
theorem BX12_passIt_0 : bsegs (ByteArray.data cX12_passIt |>.toList.drop 0) 0 [(0, [42]), (1, [182, 1, 183]), (4, [60]), (5, [42]), (6, [180, 0, 13]), (9, [16, 10]), (11, [42]), (12, [180, 0, 13]), (15, [16, 10]), (17, [46]), (18, [42]), (19, [182, 1, 172]), (22, [96]), (23, [133]), (24, [3]), (25, [19, 1, 207]), (28, [184, 1, 163]), (31, [79]), (32, [3]), (33, [61]), (34, [28]), (35, [42]), (36, [180, 0, 13]), (39, [3])] = true := by decide +kernel
theorem dX12_passIt_0 : decode cX12_passIt 0 = .ok (.aload_n 0, 1) := dk_42 (bs_at BX12_passIt_0 0 rfl)
theorem dX12_passIt_1 : decode cX12_passIt 1 = .ok (.invokevirtual 439, 3) := dk_182 1 183 (bs_at BX12_passIt_0 1 rfl) rfl
theorem dX12_passIt_4 : decode cX12_passIt 4 = .ok (.istore_n 1, 1) := dk_60 (bs_at BX12_passIt_0 2 rfl)
theorem dX12_passIt_5 : decode cX12_passIt 5 = .ok (.aload_n 0, 1) := dk_42 (bs_at BX12_passIt_0 3 rfl)
theorem dX12_passIt_6 : decode cX12_passIt 6 = .ok (.getfield 13, 3) := dk_180 0 13 (bs_at BX12_passIt_0 4 rfl) rfl
theorem dX12_passIt_9 : decode cX12_passIt 9 = .ok (.bipush 10, 2) := dk_16 10 (bs_at BX12_passIt_0 5 rfl) rfl
theorem dX12_passIt_11 : decode cX12_passIt 11 = .ok (.aload_n 0, 1) := dk_42 (bs_at BX12_passIt_0 6 rfl)
theorem dX12_passIt_12 : decode cX12_passIt 12 = .ok (.getfield 13, 3) := dk_180 0 13 (bs_at BX12_passIt_0 7 rfl) rfl
theorem dX12_passIt_15 : decode cX12_passIt 15 = .ok (.bipush 10, 2) := dk_16 10 (bs_at BX12_passIt_0 8 rfl) rfl
theorem dX12_passIt_17 : decode cX12_passIt 17 = .ok (.iaload, 1) := dk_46 (bs_at BX12_passIt_0 9 rfl)
theorem dX12_passIt_18 : decode cX12_passIt 18 = .ok (.aload_n 0, 1) := dk_42 (bs_at BX12_passIt_0 10 rfl)
theorem dX12_passIt_19 : decode cX12_passIt 19 = .ok (.invokevirtual 428, 3) := dk_182 1 172 (bs_at BX12_passIt_0 11 rfl) rfl
theorem dX12_passIt_22 : decode cX12_passIt 22 = .ok (.iadd, 1) := dk_96 (bs_at BX12_passIt_0 12 rfl)
theorem dX12_passIt_23 : decode cX12_passIt 23 = .ok (.i2l, 1) := dk_133 (bs_at BX12_passIt_0 13 rfl)
theorem dX12_passIt_24 : decode cX12_passIt 24 = .ok (.iconst 0, 1) := dk_3 (bs_at BX12_passIt_0 14 rfl)
theorem dX12_passIt_25 : decode cX12_passIt 25 = .ok (.ldc_w 463, 3) := dk_19 1 207 (bs_at BX12_passIt_0 15 rfl) rfl
theorem dX12_passIt_28 : decode cX12_passIt 28 = .ok (.invokestatic 419, 3) := dk_184 1 163 (bs_at BX12_passIt_0 16 rfl) rfl
theorem dX12_passIt_31 : decode cX12_passIt 31 = .ok (.iastore, 1) := dk_79 (bs_at BX12_passIt_0 17 rfl)
theorem dX12_passIt_32 : decode cX12_passIt 32 = .ok (.iconst 0, 1) := dk_3 (bs_at BX12_passIt_0 18 rfl)
theorem dX12_passIt_33 : decode cX12_passIt 33 = .ok (.istore_n 2, 1) := dk_61 (bs_at BX12_passIt_0 19 rfl)
theorem dX12_passIt_34 : decode cX12_passIt 34 = .ok (.iload_n 2, 1) := dk_28 (bs_at BX12_passIt_0 20 rfl)
theorem dX12_passIt_35 : decode cX12_passIt 35 = .ok (.aload_n 0, 1) := dk_42 (bs_at BX12_passIt_0 21 rfl)
theorem dX12_passIt_36 : decode cX12_passIt 36 = .ok (.getfield 13, 3) := dk_180 0 13 (bs_at BX12_passIt_0 22 rfl) rfl
theorem dX12_passIt_39 : decode cX12_passIt 39 = .ok (.iconst 0, 1) := dk_3 (bs_at BX12_passIt_0 23 rfl)
theorem BX12_passIt_40 : bsegs (ByteArray.data cX12_passIt |>.toList.drop 40) 40 [(40, [46]), (41, [162, 0, 26]), (44, [42]), (45, [180, 0, 108]), (48, [28]), (49, [42]), (50, [42]), (51, [180, 0, 13]), (54, [6]), (55, [46]), (56, [28]), (57, [182, 0, 200]), (60, [79]), (61, [132, 2, 1]), (64, [167, 255, 226]), (67, [3]), (68, [61]), (69, [28]), (70, [42]), (71, [180, 0, 13]), (74, [3]), (75, [46]), (76, [162, 0, 77]), (79, [42])] = true := by decide +kernel
theorem dX12_passIt_40 : decode cX12_passIt 40 = .ok (.iaload, 1) := dk_46 (bs_at BX12_passIt_40 0 rfl)
theorem dX12_passIt_41 : decode cX12_passIt 41 = .ok (.if_icmp .ge 26, 3) := dk_162 0 26 (bs_at BX12_passIt_40 1 rfl) rfl
theorem dX12_passIt_44 : decode cX12_passIt 44 = .ok (.aload_n 0, 1) := dk_42 (bs_at BX12_passIt_40 2 rfl)
theorem dX12_passIt_45 : decode cX12_passIt 45 = .ok (.getfield 108, 3) := dk_180 0 108 (bs_at BX12_passIt_40 3 rfl) rfl
theorem dX12_passIt_48 : decode cX12_passIt 48 = .ok (.iload_n 2, 1) := dk_28 (bs_at BX12_passIt_40 4 rfl)
theorem dX12_passIt_49 : decode cX12_passIt 49 = .ok (.aload_n 0, 1) := dk_42 (bs_at BX12_passIt_40 5 rfl)
theorem dX12_passIt_50 : decode cX12_passIt 50 = .ok (.aload_n 0, 1) := dk_42 (bs_at BX12_passIt_40 6 rfl)
theorem dX12_passIt_51 : decode cX12_passIt 51 = .ok (.getfield 13, 3) := dk_180 0 13 (bs_at BX12_passIt_40 7 rfl) rfl
theorem dX12_passIt_54 : decode cX12_passIt 54 = .ok (.iconst 3, 1) := dk_6 (bs_at BX12_passIt_40 8 rfl)
theorem dX12_passIt_55 : decode cX12_passIt 55 = .ok (.iaload, 1) := dk_46 (bs_at BX12_passIt_40 9 rfl)
theorem dX12_passIt_56 : decode cX12_passIt 56 = .ok (.iload_n 2, 1) := dk_28 (bs_at BX12_passIt_40 10 rfl)
theorem dX12_passIt_57 : decode cX12_passIt 57 = .ok (.invokevirtual 200, 3) := dk_182 0 200 (bs_at BX12_passIt_40 11 rfl) rfl
theorem dX12_passIt_60 : decode cX12_passIt 60 = .ok (.iastore, 1) := dk_79 (bs_at BX12_passIt_40 12 rfl)
theorem dX12_passIt_61 : decode cX12_passIt 61 = .ok (.iinc 2 1, 3) := dk_132 2 1 (bs_at BX12_passIt_40 13 rfl) rfl
theorem dX12_passIt_64 : decode cX12_passIt 64 = .ok (.goto (-30), 3) := dk_167 255 226 (bs_at BX12_passIt_40 14 rfl) rfl
theorem dX12_passIt_67 : decode cX12_passIt 67 = .ok (.iconst 0, 1) := dk_3 (bs_at BX12_passIt_40 15 rfl)
theorem dX12_passIt_68 : decode cX12_passIt 68 = .ok (.istore_n 2, 1) := dk_61 (bs_at BX12_passIt_40 16 rfl)
theorem dX12_passIt_69 : decode cX12_passIt 69 = .ok (.iload_n 2, 1) := dk_28 (bs_at BX12_passIt_40 17 rfl)
theorem dX12_passIt_70 : decode cX12_passIt 70 = .ok (.aload_n 0, 1) := dk_42 (bs_at BX12_passIt_40 18 rfl)
theorem dX12_passIt_71 : decode cX12_passIt 71 = .ok (.getfield 13, 3) := dk_180 0 13 (bs_at BX12_passIt_40 19 rfl) rfl
theorem dX12_passIt_74 : decode cX12_passIt 74 = .ok (.iconst 0, 1) := dk_3 (bs_at BX12_passIt_40 20 rfl)
theorem dX12_passIt_75 : decode cX12_passIt 75 = .ok (.iaload, 1) := dk_46 (bs_at BX12_passIt_40 21 rfl)
theorem dX12_passIt_76 : decode cX12_passIt 76 = .ok (.if_icmp .ge 77, 3) := dk_162 0 77 (bs_at BX12_passIt_40 22 rfl) rfl
theorem dX12_passIt_79 : decode cX12_passIt 79 = .ok (.aload_n 0, 1) := dk_42 (bs_at BX12_passIt_40 23 rfl)
theorem BX12_passIt_80 : bsegs (ByteArray.data cX12_passIt |>.toList.drop 80) 80 [(80, [180, 0, 13]), (83, [16, 27]), (85, [28]), (86, [96]), (87, [42]), (88, [180, 0, 13]), (91, [16, 27]), (93, [28]), (94, [96]), (95, [46]), (96, [42]), (97, [180, 0, 13]), (100, [16, 11]), (102, [28]), (103, [96]), (104, [46]), (105, [96]), (106, [133]), (107, [3]), (108, [17, 39, 15]), (111, [184, 1, 163]), (114, [79]), (115, [42]), (116, [180, 0, 13])] = true := by decide +kernel
theorem dX12_passIt_80 : decode cX12_passIt 80 = .ok (.getfield 13, 3) := dk_180 0 13 (bs_at BX12_passIt_80 0 rfl) rfl
theorem dX12_passIt_83 : decode cX12_passIt 83 = .ok (.bipush 27, 2) := dk_16 27 (bs_at BX12_passIt_80 1 rfl) rfl
theorem dX12_passIt_85 : decode cX12_passIt 85 = .ok (.iload_n 2, 1) := dk_28 (bs_at BX12_passIt_80 2 rfl)
theorem dX12_passIt_86 : decode cX12_passIt 86 = .ok (.iadd, 1) := dk_96 (bs_at BX12_passIt_80 3 rfl)
theorem dX12_passIt_87 : decode cX12_passIt 87 = .ok (.aload_n 0, 1) := dk_42 (bs_at BX12_passIt_80 4 rfl)
theorem dX12_passIt_88 : decode cX12_passIt 88 = .ok (.getfield 13, 3) := dk_180 0 13 (bs_at BX12_passIt_80 5 rfl) rfl
theorem dX12_passIt_91 : decode cX12_passIt 91 = .ok (.bipush 27, 2) := dk_16 27 (bs_at BX12_passIt_80 6 rfl) rfl
theorem dX12_passIt_93 : decode cX12_passIt 93 = .ok (.iload_n 2, 1) := dk_28 (bs_at BX12_passIt_80 7 rfl)
theorem dX12_passIt_94 : decode cX12_passIt 94 = .ok (.iadd, 1) := dk_96 (bs_at BX12_passIt_80 8 rfl)
theorem dX12_passIt_95 : decode cX12_passIt 95 = .ok (.iaload, 1) := dk_46 (bs_at BX12_passIt_80 9 rfl)
theorem dX12_passIt_96 : decode cX12_passIt 96 = .ok (.aload_n 0, 1) := dk_42 (bs_at BX12_passIt_80 10 rfl)
theorem dX12_passIt_97 : decode cX12_passIt 97 = .ok (.getfield 13, 3) := dk_180 0 13 (bs_at BX12_passIt_80 11 rfl) rfl
theorem dX12_passIt_100 : decode cX12_passIt 100 = .ok (.bipush 11, 2) := dk_16 11 (bs_at BX12_passIt_80 12 rfl) rfl
theorem dX12_passIt_102 : decode cX12_passIt 102 = .ok (.iload_n 2, 1) := dk_28 (bs_at BX12_passIt_80 13 rfl)
theorem dX12_passIt_103 : decode cX12_passIt 103 = .ok (.iadd, 1) := dk_96 (bs_at BX12_passIt_80 14 rfl)
theorem dX12_passIt_104 : decode cX12_passIt 104 = .ok (.iaload, 1) := dk_46 (bs_at BX12_passIt_80 15 rfl)
theorem dX12_passIt_105 : decode cX12_passIt 105 = .ok (.iadd, 1) := dk_96 (bs_at BX12_passIt_80 16 rfl)
theorem dX12_passIt_106 : decode cX12_passIt 106 = .ok (.i2l, 1) := dk_133 (bs_at BX12_passIt_80 17 rfl)
theorem dX12_passIt_107 : decode cX12_passIt 107 = .ok (.iconst 0, 1) := dk_3 (bs_at BX12_passIt_80 18 rfl)
theorem dX12_passIt_108 : decode cX12_passIt 108 = .ok (.sipush 9999, 3) := dk_17 39 15 (bs_at BX12_passIt_80 19 rfl) rfl
theorem dX12_passIt_111 : decode cX12_passIt 111 = .ok (.invokestatic 419, 3) := dk_184 1 163 (bs_at BX12_passIt_80 20 rfl) rfl
theorem dX12_passIt_114 : decode cX12_passIt 114 = .ok (.iastore, 1) := dk_79 (bs_at BX12_passIt_80 21 rfl)
theorem dX12_passIt_115 : decode cX12_passIt 115 = .ok (.aload_n 0, 1) := dk_42 (bs_at BX12_passIt_80 22 rfl)
theorem dX12_passIt_116 : decode cX12_passIt 116 = .ok (.getfield 13, 3) := dk_180 0 13 (bs_at BX12_passIt_80 23 rfl) rfl
theorem BX12_passIt_119 : bsegs (ByteArray.data cX12_passIt |>.toList.drop 119) 119 [(119, [16, 11]), (121, [28]), (122, [96]), (123, [42]), (124, [180, 0, 13]), (127, [16, 11]), (129, [28]), (130, [96]), (131, [46]), (132, [42]), (133, [180, 0, 108]), (136, [28]), (137, [46]), (138, [100]), (139, [133]), (140, [3]), (141, [16, 20]), (143, [184, 1, 163]), (146, [79]), (147, [132, 2, 1]), (150, [167, 255, 175]), (153, [42]), (154, [182, 1, 208]), (157, [27])] = true := by decide +kernel
theorem dX12_passIt_119 : decode cX12_passIt 119 = .ok (.bipush 11, 2) := dk_16 11 (bs_at BX12_passIt_119 0 rfl) rfl
theorem dX12_passIt_121 : decode cX12_passIt 121 = .ok (.iload_n 2, 1) := dk_28 (bs_at BX12_passIt_119 1 rfl)
theorem dX12_passIt_122 : decode cX12_passIt 122 = .ok (.iadd, 1) := dk_96 (bs_at BX12_passIt_119 2 rfl)
theorem dX12_passIt_123 : decode cX12_passIt 123 = .ok (.aload_n 0, 1) := dk_42 (bs_at BX12_passIt_119 3 rfl)
theorem dX12_passIt_124 : decode cX12_passIt 124 = .ok (.getfield 13, 3) := dk_180 0 13 (bs_at BX12_passIt_119 4 rfl) rfl
theorem dX12_passIt_127 : decode cX12_passIt 127 = .ok (.bipush 11, 2) := dk_16 11 (bs_at BX12_passIt_119 5 rfl) rfl
theorem dX12_passIt_129 : decode cX12_passIt 129 = .ok (.iload_n 2, 1) := dk_28 (bs_at BX12_passIt_119 6 rfl)
theorem dX12_passIt_130 : decode cX12_passIt 130 = .ok (.iadd, 1) := dk_96 (bs_at BX12_passIt_119 7 rfl)
theorem dX12_passIt_131 : decode cX12_passIt 131 = .ok (.iaload, 1) := dk_46 (bs_at BX12_passIt_119 8 rfl)
theorem dX12_passIt_132 : decode cX12_passIt 132 = .ok (.aload_n 0, 1) := dk_42 (bs_at BX12_passIt_119 9 rfl)
theorem dX12_passIt_133 : decode cX12_passIt 133 = .ok (.getfield 108, 3) := dk_180 0 108 (bs_at BX12_passIt_119 10 rfl) rfl
theorem dX12_passIt_136 : decode cX12_passIt 136 = .ok (.iload_n 2, 1) := dk_28 (bs_at BX12_passIt_119 11 rfl)
theorem dX12_passIt_137 : decode cX12_passIt 137 = .ok (.iaload, 1) := dk_46 (bs_at BX12_passIt_119 12 rfl)
theorem dX12_passIt_138 : decode cX12_passIt 138 = .ok (.isub, 1) := dk_100 (bs_at BX12_passIt_119 13 rfl)
theorem dX12_passIt_139 : decode cX12_passIt 139 = .ok (.i2l, 1) := dk_133 (bs_at BX12_passIt_119 14 rfl)
theorem dX12_passIt_140 : decode cX12_passIt 140 = .ok (.iconst 0, 1) := dk_3 (bs_at BX12_passIt_119 15 rfl)
theorem dX12_passIt_141 : decode cX12_passIt 141 = .ok (.bipush 20, 2) := dk_16 20 (bs_at BX12_passIt_119 16 rfl) rfl
theorem dX12_passIt_143 : decode cX12_passIt 143 = .ok (.invokestatic 419, 3) := dk_184 1 163 (bs_at BX12_passIt_119 17 rfl) rfl
theorem dX12_passIt_146 : decode cX12_passIt 146 = .ok (.iastore, 1) := dk_79 (bs_at BX12_passIt_119 18 rfl)
theorem dX12_passIt_147 : decode cX12_passIt 147 = .ok (.iinc 2 1, 3) := dk_132 2 1 (bs_at BX12_passIt_119 19 rfl) rfl
theorem dX12_passIt_150 : decode cX12_passIt 150 = .ok (.goto (-81), 3) := dk_167 255 175 (bs_at BX12_passIt_119 20 rfl) rfl
theorem dX12_passIt_153 : decode cX12_passIt 153 = .ok (.aload_n 0, 1) := dk_42 (bs_at BX12_passIt_119 21 rfl)
theorem dX12_passIt_154 : decode cX12_passIt 154 = .ok (.invokevirtual 464, 3) := dk_182 1 208 (bs_at BX12_passIt_119 22 rfl) rfl
theorem dX12_passIt_157 : decode cX12_passIt 157 = .ok (.iload_n 1, 1) := dk_27 (bs_at BX12_passIt_119 23 rfl)
theorem BX12_passIt_158 : bsegs (ByteArray.data cX12_passIt |>.toList.drop 158) 158 [(158, [172])] = true := by decide +kernel
theorem dX12_passIt_158 : decode cX12_passIt 158 = .ok (.ireturn, 1) := dk_172 (bs_at BX12_passIt_158 0 rfl)
theorem BX12_passNow_0 : bsegs (ByteArray.data cX12_passNow |>.toList.drop 0) 0 [(0, [42]), (1, [182, 1, 211]), (4, [154, 0, 6]), (7, [16, 253]), (9, [172]), (10, [42]), (11, [6]), (12, [182, 1, 192]), (15, [42]), (16, [182, 1, 214]), (19, [153, 0, 7]), (22, [4]), (23, [167, 0, 4]), (26, [3]), (27, [172])] = true := by decide +kernel
theorem dX12_passNow_0 : decode cX12_passNow 0 = .ok (.aload_n 0, 1) := dk_42 (bs_at BX12_passNow_0 0 rfl)
theorem dX12_passNow_1 : decode cX12_passNow 1 = .ok (.invokevirtual 467, 3) := dk_182 1 211 (bs_at BX12_passNow_0 1 rfl) rfl
theorem dX12_passNow_4 : decode cX12_passNow 4 = .ok (.ifCond .ne 6, 3) := dk_154 0 6 (bs_at BX12_passNow_0 2 rfl) rfl
theorem dX12_passNow_7 : decode cX12_passNow 7 = .ok (.bipush (-3), 2) := dk_16 253 (bs_at BX12_passNow_0 3 rfl) rfl
theorem dX12_passNow_9 : decode cX12_passNow 9 = .ok (.ireturn, 1) := dk_172 (bs_at BX12_passNow_0 4 rfl)
theorem dX12_passNow_10 : decode cX12_passNow 10 = .ok (.aload_n 0, 1) := dk_42 (bs_at BX12_passNow_0 5 rfl)
theorem dX12_passNow_11 : decode cX12_passNow 11 = .ok (.iconst 3, 1) := dk_6 (bs_at BX12_passNow_0 6 rfl)
theorem dX12_passNow_12 : decode cX12_passNow 12 = .ok (.invokevirtual 448, 3) := dk_182 1 192 (bs_at BX12_passNow_0 7 rfl) rfl
theorem dX12_passNow_15 : decode cX12_passNow 15 = .ok (.aload_n 0, 1) := dk_42 (bs_at BX12_passNow_0 8 rfl)
theorem dX12_passNow_16 : decode cX12_passNow 16 = .ok (.invokevirtual 470, 3) := dk_182 1 214 (bs_at BX12_passNow_0 9 rfl) rfl
theorem dX12_passNow_19 : decode cX12_passNow 19 = .ok (.ifCond .eq 7, 3) := dk_153 0 7 (bs_at BX12_passNow_0 10 rfl) rfl
theorem dX12_passNow_22 : decode cX12_passNow 22 = .ok (.iconst 1, 1) := dk_4 (bs_at BX12_passNow_0 11 rfl)
theorem dX12_passNow_23 : decode cX12_passNow 23 = .ok (.goto 4, 3) := dk_167 0 4 (bs_at BX12_passNow_0 12 rfl) rfl
theorem dX12_passNow_26 : decode cX12_passNow 26 = .ok (.iconst 0, 1) := dk_3 (bs_at BX12_passNow_0 13 rfl)
theorem dX12_passNow_27 : decode cX12_passNow 27 = .ok (.ireturn, 1) := dk_172 (bs_at BX12_passNow_0 14 rfl)
theorem BX12_pass_0 : bsegs (ByteArray.data cX12_pass |>.toList.drop 0) 0 [(0, [42]), (1, [3]), (2, [181, 0, 158]), (5, [42]), (6, [42]), (7, [182, 1, 217]), (10, [182, 0, 171]), (13, [172])] = true := by decide +kernel
theorem dX12_pass_0 : decode cX12_pass 0 = .ok (.aload_n 0, 1) := dk_42 (bs_at BX12_pass_0 0 rfl)
theorem dX12_pass_1 : decode cX12_pass 1 = .ok (.iconst 0, 1) := dk_3 (bs_at BX12_pass_0 1 rfl)
theorem dX12_pass_2 : decode cX12_pass 2 = .ok (.putfield 158, 3) := dk_181 0 158 (bs_at BX12_pass_0 2 rfl) rfl
theorem dX12_pass_5 : decode cX12_pass 5 = .ok (.aload_n 0, 1) := dk_42 (bs_at BX12_pass_0 3 rfl)
theorem dX12_pass_6 : decode cX12_pass 6 = .ok (.aload_n 0, 1) := dk_42 (bs_at BX12_pass_0 4 rfl)
theorem dX12_pass_7 : decode cX12_pass 7 = .ok (.invokevirtual 473, 3) := dk_182 1 217 (bs_at BX12_pass_0 5 rfl) rfl
theorem dX12_pass_10 : decode cX12_pass 10 = .ok (.invokevirtual 171, 3) := dk_182 0 171 (bs_at BX12_pass_0 6 rfl) rfl
theorem dX12_pass_13 : decode cX12_pass 13 = .ok (.ireturn, 1) := dk_172 (bs_at BX12_pass_0 7 rfl)
theorem ggX12_goOn_X12_term : GoodIn wsX12_goOn wsX12_term := gi_ch ch_X12_goOn ch_X12_term (by decide +kernel)
theorem gX12_goOn_X12_term : GoodIn wsX12_goOn (wsV RX12 182 RX12 yX12_term wsX12_term) := gi_ch ch_X12_goOn (ch_v [990, 991, 78, 156] rfl ch_X12_term) (by decide +kernel)
theorem ggX12_terms_X12_canBe : GoodIn wsX12_terms wsX12_canBe := gi_ch ch_X12_terms ch_X12_canBe (by decide +kernel)
theorem gX12_terms_X12_canBe : GoodIn wsX12_terms (va_wsS RX12 223 yX12_canBe wsX12_canBe) := gi_ch ch_X12_terms (ch_s [1041, 1042, 156] rfl ch_X12_canBe) (by decide +kernel)
theorem ggX12_terms_X12_change : GoodIn wsX12_terms wsX12_change := gi_ch ch_X12_terms ch_X12_change (by decide +kernel)
theorem gX12_terms_X12_change : GoodIn wsX12_terms (wsV RX12 214 RX12 yX12_change wsX12_change) := gi_ch ch_X12_terms (ch_v [1030, 1031, 87, 156] rfl ch_X12_change) (by decide +kernel)
theorem ggX12_terms_X12_tell : GoodIn wsX12_terms wsX12_tell := gi_ch ch_X12_terms ch_X12_tell (by decide +kernel)
theorem gX12_terms_X12_tell : GoodIn wsX12_terms (wsV RX12 171 RX12 yX12_tell wsX12_tell) := gi_ch ch_X12_terms (ch_v [955, 956, 74, 156] rfl ch_X12_tell) (by decide +kernel)
theorem ggX12_row_X12_tell : GoodIn wsX12_row wsX12_tell := gi_ch ch_X12_row ch_X12_tell (by decide +kernel)
theorem gX12_row_X12_tell : GoodIn wsX12_row (wsV RX12 171 RX12 yX12_tell wsX12_tell) := gi_ch ch_X12_row (ch_v [955, 956, 74, 156] rfl ch_X12_tell) (by decide +kernel)
theorem ggX12_feed_X12_four : GoodIn wsX12_feed wsX12_four := gi_ch ch_X12_feed ch_X12_four (by decide +kernel)
theorem gX12_feed_X12_four : GoodIn wsX12_feed (wsV RX12 233 RX12 yX12_four wsX12_four) := gi_ch ch_X12_feed (ch_v [1059, 1060, 88, 156] rfl ch_X12_four) (by decide +kernel)
theorem ggX12_isLaw_X12_in : GoodIn wsX12_isLaw wsX12_in := gi_ch ch_X12_isLaw ch_X12_in (by decide +kernel)
theorem gX12_isLaw_X12_in : GoodIn wsX12_isLaw (va_wsS RX12 178 yX12_in wsX12_in) := gi_ch ch_X12_isLaw (ch_s [965, 966, 156] rfl ch_X12_in) (by decide +kernel)
theorem ggX12_force_X12_isLaw : GoodIn wsX12_force wsX12_isLaw := gi_ch ch_X12_force ch_X12_isLaw (by decide +kernel)
theorem gX12_force_X12_isLaw : GoodIn wsX12_force (wsV RX12 383 RX12 yX12_isLaw wsX12_isLaw) := gi_ch ch_X12_force (ch_v [1168, 1169, 112, 156] rfl ch_X12_isLaw) (by decide +kernel)
theorem ggX12_force_X12_change : GoodIn wsX12_force wsX12_change := gi_ch ch_X12_force ch_X12_change (by decide +kernel)
theorem gX12_force_X12_change : GoodIn wsX12_force (wsV RX12 214 RX12 yX12_change wsX12_change) := gi_ch ch_X12_force (ch_v [1030, 1031, 87, 156] rfl ch_X12_change) (by decide +kernel)
theorem ggX12_force_X12_tell : GoodIn wsX12_force wsX12_tell := gi_ch ch_X12_force ch_X12_tell (by decide +kernel)
theorem gX12_force_X12_tell : GoodIn wsX12_force (wsV RX12 171 RX12 yX12_tell wsX12_tell) := gi_ch ch_X12_force (ch_v [955, 956, 74, 156] rfl ch_X12_tell) (by decide +kernel)
theorem ggX12_canPass_X12_term : GoodIn wsX12_canPass wsX12_term := gi_ch ch_X12_canPass ch_X12_term (by decide +kernel)
theorem gX12_canPass_X12_term : GoodIn wsX12_canPass (wsV RX12 182 RX12 yX12_term wsX12_term) := gi_ch ch_X12_canPass (ch_v [990, 991, 78, 156] rfl ch_X12_term) (by decide +kernel)
theorem ggX12_passIt_X12_isMet : GoodIn wsX12_passIt wsX12_isMet := gi_ch ch_X12_passIt ch_X12_isMet (by decide +kernel)
theorem gX12_passIt_X12_isMet : GoodIn wsX12_passIt (wsV RX12 439 RX12 yX12_isMet wsX12_isMet) := gi_ch ch_X12_passIt (ch_v [1192, 1193, 115, 156] rfl ch_X12_isMet) (by decide +kernel)
theorem ggX12_passIt_X12_discords : GoodIn wsX12_passIt wsX12_discords := gi_ch ch_X12_passIt ch_X12_discords (by decide +kernel)
theorem gX12_passIt_X12_discords : GoodIn wsX12_passIt (wsV RX12 428 RX12 yX12_discords wsX12_discords) := gi_ch ch_X12_passIt (ch_v [1175, 1176, 113, 156] rfl ch_X12_discords) (by decide +kernel)
theorem ggX12_passIt_X12_within : GoodIn wsX12_passIt wsX12_within := gi_ch ch_X12_passIt ch_X12_within (by decide +kernel)
theorem gX12_passIt_X12_within : GoodIn wsX12_passIt (va_wsS RX12 419 yX12_within wsX12_within) := gi_ch ch_X12_passIt (ch_s [1014, 1015, 156] rfl ch_X12_within) (by decide +kernel)
theorem ggX12_passIt_X12_goOn : GoodIn wsX12_passIt wsX12_goOn := gi_ch ch_X12_passIt ch_X12_goOn (by decide +kernel)
theorem gX12_passIt_X12_goOn : GoodIn wsX12_passIt (wsV RX12 464 RX12 yX12_goOn wsX12_goOn) := gi_ch ch_X12_passIt (ch_v [1245, 1246, 127, 156] rfl ch_X12_goOn) (by decide +kernel)
theorem ggX12_passIt_X12_burnsOf : GoodIn wsX12_passIt wsX12_burnsOf := gi_ch ch_X12_passIt ch_X12_burnsOf (by decide +kernel)
theorem gX12_passIt_X12_burnsOf : GoodIn wsX12_passIt (wsV RX12 200 RX12 yX12_burnsOf wsX12_burnsOf) := gi_ch ch_X12_passIt (ch_v [993, 994, 79, 156] rfl ch_X12_burnsOf) (by decide +kernel)
theorem ggX12_passNow_X12_canPass : GoodIn wsX12_passNow wsX12_canPass := gi_ch ch_X12_passNow ch_X12_canPass (by decide +kernel)
theorem gX12_passNow_X12_canPass : GoodIn wsX12_passNow (wsV RX12 467 RX12 yX12_canPass wsX12_canPass) := gi_ch ch_X12_passNow (ch_v [1238, 1239, 125, 156] rfl ch_X12_canPass) (by decide +kernel)
theorem ggX12_passNow_X12_remember : GoodIn wsX12_passNow wsX12_remember := gi_ch ch_X12_passNow ch_X12_remember (by decide +kernel)
theorem gX12_passNow_X12_remember : GoodIn wsX12_passNow (wsV RX12 448 RX12 yX12_remember wsX12_remember) := gi_ch ch_X12_passNow (ch_v [1205, 1206, 118, 156] rfl ch_X12_remember) (by decide +kernel)
theorem ggX12_passNow_X12_passIt : GoodIn wsX12_passNow wsX12_passIt := gi_ch ch_X12_passNow ch_X12_passIt (by decide +kernel)
theorem gX12_passNow_X12_passIt : GoodIn wsX12_passNow (wsV RX12 470 RX12 yX12_passIt wsX12_passIt) := gi_ch ch_X12_passNow (ch_v [1241, 1242, 126, 156] rfl ch_X12_passIt) (by decide +kernel)
theorem ggX12_pass_X12_passNow : GoodIn wsX12_pass wsX12_passNow := gi_ch ch_X12_pass ch_X12_passNow (by decide +kernel)
theorem gX12_pass_X12_passNow : GoodIn wsX12_pass (wsV RX12 473 RX12 yX12_passNow wsX12_passNow) := gi_ch ch_X12_pass (ch_v [1235, 1236, 124, 156] rfl ch_X12_passNow) (by decide +kernel)
theorem ggX12_pass_X12_tell : GoodIn wsX12_pass wsX12_tell := gi_ch ch_X12_pass ch_X12_tell (by decide +kernel)
theorem gX12_pass_X12_tell : GoodIn wsX12_pass (wsV RX12 171 RX12 yX12_tell wsX12_tell) := gi_ch ch_X12_pass (ch_v [955, 956, 74, 156] rfl ch_X12_tell) (by decide +kernel)
theorem PR_terms {i : Nat} {v : Int} (h : (i = 4 ∧ 0 ≤ v ∧ v ≤ 23) ∨ (5 ≤ i ∧ i ≤ 9)) : PR i v := by
  rcases h with ⟨rfl, h⟩ | h
  · exact PR.w_4 (by omega) h
  · exact PR.free (by omega)
noncomputable def RowQ (f : Nat → Int32) : Prop := (∀ j, j < 100 → j ≠ 4 → PR j (f j).toInt) ∧ Laws f
theorem RowQ.of {f : Nat → Int32} (h : RwOK f) (v : Int32) : RowQ (upd f 4 v) := ⟨fun j hj hn => by rw [pk_un hn]; exact h.1 j hj, fun k hk => (h.2 k hk).same (fun j h1 h2 => pk_un (by omega))⟩
theorem RowQ.fin {f : Nat → Int32} (h : RowQ f) {v : Int32} (e : f 4 = v) (hv : 0 ≤ v.toInt ∧ v.toInt ≤ 23) : RwOK f := ⟨fun j hj => by
  by_cases q : j = 4
  · subst q; rw [e]; exact PR.w_4 (by omega) hv
  · exact h.1 j hj q, h.2⟩
theorem RowQ.put {f : Nat → Int32} (h : RowQ f) {v : Int32} (hv : 0 ≤ v.toInt ∧ v.toInt ≤ 23) : RwOK (upd f 4 v) := ⟨fun j hj => by
  by_cases q : j = 4
  · subst q; rw [pk_us]; exact PR.w_4 (by omega) hv
  · rw [pk_un q]; exact h.1 j hj q, fun k hk => (h.2 k hk).same (fun j h1 h2 => pk_un (by omega))⟩
set_option maxRecDepth 100000 in
noncomputable def E_v_term_k (kv : Int32) (fw : Nat → Int32) : Int32 :=
  Lt (fw (4 : Int32).toNatClampNeg : Int32) (fun x_66 => (x_66 : Int32))
set_option maxHeartbeats 4000000 in
set_option maxRecDepth 100000 in
theorem v_term_k (l : Launch) (D : va_G) (K : Nat → ClassId) (kv : Int32) (m0 : Nat) (m_0 : Value) (m_1 : Value) (m_2 : Value) (w0 : Nat) (m_4 : Value) (m_5 : Value) (m_6 : Value) (m_7 : Value) (m_8 : Value) (m_9 : Value) (m_10 : Value) (m_11 : Value) (m_12 : Value) (m_13 : Value) (m_14 : Value) (m_15 : Value) (m_16 : Value) (m_17 : Value) (m_18 : Value) (m_19 : Value) (m_20 : Value) (m_21 : Value) (m_22 : Value) (m_23 : Value) (m_24 : Value) (m_25 : Value) (m_26 : Value) (m_27 : Value) (m_28 : Value) (m_29 : Value) (m_30 : Value) (m_31 : Value) (m_32 : Value) (m_33 : Value) (m_34 : Value) (m_35 : Value) (m_36 : Value) (m_37 : Value) (m_38 : Value) (m_39 : Value) (m_40 : Value) (m_41 : Value) (m_42 : Value) (m_43 : Value) (m_44 : Value) (m_45 : Value) (m_46 : Value) (m_47 : Value) (m_48 : Value) (m_49 : Value) (m_50 : Value) (m_51 : Value) (m_52 : Value) (m_53 : Value) (m_54 : Value) (m_55 : Value) (m_56 : Value) (m_57 : Value) (m_58 : Value) (m_59 : Value) (fw : Nat → Int32) (sz : Nat) (zk : fw 4 = kv) : Met l yX12_term wsX12_term ({ frames := 0, cells := 0, slots := 0, locals := 0 }) (va_Pc [.ref m0, .int 0] (Pre D K [(cc_O m0 12 [m_0, m_1, m_2, .ref w0, m_4, m_5, m_6, m_7, m_8, m_9, m_10, m_11, m_12, m_13, m_14, m_15, m_16, m_17, m_18, m_19, m_20, m_21, m_22, m_23, m_24, m_25, m_26, m_27, m_28, m_29, m_30, m_31, m_32, m_33, m_34, m_35, m_36, m_37, m_38, m_39, m_40, m_41, m_42, m_43, m_44, m_45, m_46, m_47, m_48, m_49, m_50, m_51, m_52, m_53, m_54, m_55, m_56, m_57, m_58, m_59]), (cc_l w0 (K 0) 5500 fw)] sz)) (vp_Si (fun r : Int32 => ((r = kv)) ∧ (r = E_v_term_k kv fw) ∧ True)) 0 0 (fun _ => False) := by
  refine Met.ofW (cc := cX12_term) (maxL := 2) (ret := (some .int)) (by decide +kernel) rfl ?_
  intro p e s m args below meth c s₁ B hml hv
  obtain ⟨rfl, hsz, hP, hK, hD0, hN⟩ := hv
  have hx := B.exec
  have hb := B.bytes
  have hr := B.returns
  have hts := atoms_spec (ws := wsX12_term) B.pre
  have hown : s.vm.findClass RX12 = some m.cls := findClass_of_methodNamed B.named
  have hlocks := B.notSynchronized
  subst hsz
  have hD := hD0
  replace hP : va_P D vwCl [(cc_O m0 12 [m_0, m_1, m_2, .ref w0, m_4, m_5, m_6, m_7, m_8, m_9, m_10, m_11, m_12, m_13, m_14, m_15, m_16, m_17, m_18, m_19, m_20, m_21, m_22, m_23, m_24, m_25, m_26, m_27, m_28, m_29, m_30, m_31, m_32, m_33, m_34, m_35, m_36, m_37, m_38, m_39, m_40, m_41, m_42, m_43, m_44, m_45, m_46, m_47, m_48, m_49, m_50, m_51, m_52, m_53, m_54, m_55, m_56, m_57, m_58, m_59]), (cc_l w0 (K 0) 5500 fw)] s.heap := hP
  have hl := lv_entry [.ref m0, .int 0] (n := 2) (Nat.le_of_ble_eq_true rfl)
  rw [lg_entry_eq]
  generalize (lg_sl [.ref m0, .int 0] ++ List.replicate (2 - (lg_sl [.ref m0, .int 0]).length) Slot.unset).toArray = ls at hl ⊢
  have hl : lv_has ls 2 [(0, .ref m0), (1, .int 0)] := hl
  have hw12 : ∀ w ∈ wsX120, w ∈ wsX12_term := fun w h => (List.mem_cons_of_mem _ (List.mem_append_right _ h))
  generalize hQ : MQ below _ _ s _ _ _ = Q
  have hE := E_v_term_k.eq_def kv fw
  refine lv_aload_n hx hb dX12_term_0 rfl (lv_at hl 0 rfl) (va_get (ci := 12) (v := .ref w0) (C := RX12) (T := TX12) (N := 60) hx hb hts hw12 hown hK hP 0 rfl rfl 3 (by decide +kernel) (hts _ mm_X12_term_833) (fun _ h9 => h9) rfl dX12_term_1 (lv_iconst (v := 4) hx hb dX12_term_4 (by decide +kernel) (lv_iload_n hx hb dX12_term_5 rfl (lv_at hl 1 rfl) (lv_iadd hx hb dX12_term_6 (lv_topi (fun x_65 ex_65 => ?_))))))
  obtain rfl : x_65 = 4 := ex_65.trans (by first | rfl | decide)
  refine va_iald hx hb hK hP 1 0 rfl rfl (i_in (x := 4) rfl (by omega)) dX12_term_7 (lv_topi (fun x_66 ex_66 => ?_))
  replace hE := hE.trans (Lt_in ex_66)
  have erx_66 : x_66 = kv := ex_66.trans zk
  have hrx_66 : x_66.toInt = kv.toInt := (congrArg Int32.toInt erx_66).trans rfl
  rw [← hQ]
  exact W.iret (v := x_66) hx hb hr (fun t ht hW => ⟨_, rfl, ⟨(by first | exact rfl | assumption), hE.symm, trivial⟩, ht⟩) (fun q hq => by cases hq) dX12_term_8
set_option maxRecDepth 100000 in
noncomputable def E_v_goOn (fw : Nat → Int32) : (Nat → Int32) :=
  Lt (fw (4 : Int32).toNatClampNeg : Int32) (fun x_81 => Lt (x_81 + 1 : Int32) (fun x_82 => Lt (upd fw (4 : Int32).toNatClampNeg x_82 : Nat → Int32) (fun f_83 => Lt (E_v_term_k x_82 f_83) (fun r_84 => if r_84 = 24 then (Lt (upd f_83 (4 : Int32).toNatClampNeg 0 : Nat → Int32) (fun f_87 => Lt (f_87 (5 : Int32).toNatClampNeg : Int32) (fun x_88 => Lt (x_88 + 1 : Int32) (fun x_89 => Lt (upd f_87 (5 : Int32).toNatClampNeg x_89 : Nat → Int32) (fun f_90 => (f_90 : (Nat → Int32))))))) else ((f_83 : (Nat → Int32)))))))
set_option maxHeartbeats 4000000 in
set_option maxRecDepth 100000 in
theorem v_goOn (l : Launch) (D : va_G) (K : Nat → ClassId) (m0 : Nat) (m_0 : Value) (m_1 : Value) (m_2 : Value) (w0 : Nat) (m_4 : Value) (m_5 : Value) (m_6 : Value) (m_7 : Value) (m_8 : Value) (m_9 : Value) (m_10 : Value) (m_11 : Value) (m_12 : Value) (m_13 : Value) (m_14 : Value) (m_15 : Value) (m_16 : Value) (m_17 : Value) (m_18 : Value) (m_19 : Value) (m_20 : Value) (m_21 : Value) (m_22 : Value) (m_23 : Value) (m_24 : Value) (m_25 : Value) (m_26 : Value) (m_27 : Value) (m_28 : Value) (m_29 : Value) (m_30 : Value) (m_31 : Value) (m_32 : Value) (m_33 : Value) (m_34 : Value) (m_35 : Value) (m_36 : Value) (m_37 : Value) (m_38 : Value) (m_39 : Value) (m_40 : Value) (m_41 : Value) (m_42 : Value) (m_43 : Value) (m_44 : Value) (m_45 : Value) (m_46 : Value) (m_47 : Value) (m_48 : Value) (m_49 : Value) (m_50 : Value) (m_51 : Value) (m_52 : Value) (m_53 : Value) (m_54 : Value) (m_55 : Value) (m_56 : Value) (m_57 : Value) (m_58 : Value) (m_59 : Value) (fw : Nat → Int32) (gr : Nat → Int32) (sz : Nat) (zfw : RwOK fw) (zgr : FzM gr fw) : Met l yX12_goOn wsX12_goOn ({ frames := 1, cells := 0, slots := 0, locals := 21 }) (va_Pc [.ref m0] (Pre D K [(cc_O m0 12 [m_0, m_1, m_2, .ref w0, m_4, m_5, m_6, m_7, m_8, m_9, m_10, m_11, m_12, m_13, m_14, m_15, m_16, m_17, m_18, m_19, m_20, m_21, m_22, m_23, m_24, m_25, m_26, m_27, m_28, m_29, m_30, m_31, m_32, m_33, m_34, m_35, m_36, m_37, m_38, m_39, m_40, m_41, m_42, m_43, m_44, m_45, m_46, m_47, m_48, m_49, m_50, m_51, m_52, m_53, m_54, m_55, m_56, m_57, m_58, m_59]), (cc_l w0 (K 0) 5500 fw)] sz)) (va_Qv (S := Su) (fun (u : Su) => (RwOK (u.2.1 0)) ∧ (FzM gr (u.2.1 0)) ∧ ((u.2.1 0) = E_v_goOn fw) ∧ True) (fun u t => Wd D (va_A [(cc_O m0 12 [m_0, m_1, m_2, .ref w0, m_4, m_5, m_6, m_7, m_8, m_9, m_10, m_11, m_12, m_13, m_14, m_15, m_16, m_17, m_18, m_19, m_20, m_21, m_22, m_23, m_24, m_25, m_26, m_27, m_28, m_29, m_30, m_31, m_32, m_33, m_34, m_35, m_36, m_37, m_38, m_39, m_40, m_41, m_42, m_43, m_44, m_45, m_46, m_47, m_48, m_49, m_50, m_51, m_52, m_53, m_54, m_55, m_56, m_57, m_58, m_59]), (cc_l w0 (K 0) 5500 fw)] sz) ((fun u => [(cc_O m0 12 [m_0, m_1, m_2, .ref w0, m_4, m_5, m_6, m_7, m_8, m_9, m_10, m_11, m_12, m_13, m_14, m_15, m_16, m_17, m_18, m_19, m_20, m_21, m_22, m_23, m_24, m_25, m_26, m_27, m_28, m_29, m_30, m_31, m_32, m_33, m_34, m_35, m_36, m_37, m_38, m_39, m_40, m_41, m_42, m_43, m_44, m_45, m_46, m_47, m_48, m_49, m_50, m_51, m_52, m_53, m_54, m_55, m_56, m_57, m_58, m_59]), (cc_l w0 (K 0) 5500 (u.2.1 0))]) u) t) (va_A [(cc_O m0 12 [m_0, m_1, m_2, .ref w0, m_4, m_5, m_6, m_7, m_8, m_9, m_10, m_11, m_12, m_13, m_14, m_15, m_16, m_17, m_18, m_19, m_20, m_21, m_22, m_23, m_24, m_25, m_26, m_27, m_28, m_29, m_30, m_31, m_32, m_33, m_34, m_35, m_36, m_37, m_38, m_39, m_40, m_41, m_42, m_43, m_44, m_45, m_46, m_47, m_48, m_49, m_50, m_51, m_52, m_53, m_54, m_55, m_56, m_57, m_58, m_59]), (cc_l w0 (K 0) 5500 fw)] sz)) 0 0 (va_A [(cc_O m0 12 [m_0, m_1, m_2, .ref w0, m_4, m_5, m_6, m_7, m_8, m_9, m_10, m_11, m_12, m_13, m_14, m_15, m_16, m_17, m_18, m_19, m_20, m_21, m_22, m_23, m_24, m_25, m_26, m_27, m_28, m_29, m_30, m_31, m_32, m_33, m_34, m_35, m_36, m_37, m_38, m_39, m_40, m_41, m_42, m_43, m_44, m_45, m_46, m_47, m_48, m_49, m_50, m_51, m_52, m_53, m_54, m_55, m_56, m_57, m_58, m_59]), (cc_l w0 (K 0) 5500 fw)] sz) := by
  refine Met.ofW (cc := cX12_goOn) (maxL := 1) (ret := none) (by decide +kernel) rfl ?_
  intro p e s m args below meth c s₁ B hml hv
  obtain ⟨rfl, hsz, hP, hK, hD0, hN⟩ := hv
  have hx := B.exec
  have hb := B.bytes
  have hr := B.returns
  have hts := atoms_spec (ws := wsX12_goOn) B.pre
  have hown : s.vm.findClass RX12 = some m.cls := findClass_of_methodNamed B.named
  have hlocks := B.notSynchronized
  subst hsz
  have hD := hD0.self (sz := s.heap.size)
  generalize hAe : va_A [(cc_O m0 12 [m_0, m_1, m_2, .ref w0, m_4, m_5, m_6, m_7, m_8, m_9, m_10, m_11, m_12, m_13, m_14, m_15, m_16, m_17, m_18, m_19, m_20, m_21, m_22, m_23, m_24, m_25, m_26, m_27, m_28, m_29, m_30, m_31, m_32, m_33, m_34, m_35, m_36, m_37, m_38, m_39, m_40, m_41, m_42, m_43, m_44, m_45, m_46, m_47, m_48, m_49, m_50, m_51, m_52, m_53, m_54, m_55, m_56, m_57, m_58, m_59]), (cc_l w0 (K 0) 5500 fw)] s.heap.size = A at hD ⊢
  have hA : ∀ q : Nat, s.heap.size ≤ q → A q := fun q h => by rw [← hAe]; exact Or.inr h
  clear hAe
  have hS : va_S A s.heap s.heap [] := va_S.rf
  replace hP : va_P D vwCl [(cc_O m0 12 [m_0, m_1, m_2, .ref w0, m_4, m_5, m_6, m_7, m_8, m_9, m_10, m_11, m_12, m_13, m_14, m_15, m_16, m_17, m_18, m_19, m_20, m_21, m_22, m_23, m_24, m_25, m_26, m_27, m_28, m_29, m_30, m_31, m_32, m_33, m_34, m_35, m_36, m_37, m_38, m_39, m_40, m_41, m_42, m_43, m_44, m_45, m_46, m_47, m_48, m_49, m_50, m_51, m_52, m_53, m_54, m_55, m_56, m_57, m_58, m_59]), (cc_l w0 (K 0) 5500 fw)] s.heap := hP
  have hl := lv_entry [.ref m0] (n := 1) (Nat.le_of_ble_eq_true rfl)
  rw [lg_entry_eq]
  generalize (lg_sl [.ref m0] ++ List.replicate (1 - (lg_sl [.ref m0]).length) Slot.unset).toArray = ls at hl ⊢
  have hl : lv_has ls 1 [(0, .ref m0)] := hl
  have hw12 : ∀ w ∈ wsX120, w ∈ wsX12_goOn := fun w h => (List.mem_cons_of_mem _ (List.mem_append_right _ h))
  generalize hQ : MQ below _ _ s _ _ _ = Q
  have hE := E_v_goOn.eq_def fw
  refine lv_aload_n hx hb dX12_goOn_0 rfl (lv_at hl 0 rfl) (va_get (ci := 12) (v := .ref w0) (C := RX12) (T := TX12) (N := 60) hx hb hts hw12 hown hK hP 0 rfl rfl 3 (by decide +kernel) (hts _ mm_X12_goOn_833) (fun _ h9 => h9) rfl dX12_goOn_1 (lv_iconst (v := 4) hx hb dX12_goOn_4 (by decide +kernel) (lv_dup2_11 hx hb dX12_goOn_5 rfl rfl (va_iald hx hb hK hP 1 0 rfl rfl (i_in (x := 4) rfl (by omega)) dX12_goOn_6 (lv_topi (fun x_81 ex_81 => ?_))))))
  replace hE := hE.trans (Lt_in ex_81)
  have px_81 := RwOK.at zfw (show (4 : Int32).toInt = 4 from rfl) (show 0 ≤ 4 ∧ 4 < 100 by omega)
  rw [← ex_81] at px_81
  have hx_81 := PR.r_4 px_81 (by omega)
  have kx_81 : fw 4 = x_81 := ex_81.symm
  refine lv_iconst (v := 1) hx hb dX12_goOn_7 (by decide +kernel) (lv_iadd hx hb dX12_goOn_8 (lv_topi (fun x_82 ex_82 => ?_)))
  replace hE := hE.trans (Lt_in ex_82)
  have hx_82 : x_82.toInt = (x_81.toInt + 1) := by rw [ex_82]; exact i_add rfl (show (1 : Int32).toInt = 1 from rfl) (by omega)
  refine va_iast hx hb hK hP hD hS 1 0 rfl rfl (i_in (x := 4) rfl (by omega)) dX12_goOn_9 (fun H locs hP0 hD0 hS0 => ?_)
  replace hP := hP0
  replace hD := hD0
  replace hS := hS0
  clear hP0 hD0 hS0
  generalize hf_83 : (upd fw (4 : Int32).toNatClampNeg x_82) = f_83 at hP hD
  replace hE := hE.trans (Lt_in hf_83.symm)
  have hf_83_1 : FzM gr f_83 := by rw [← hf_83]; exact FzM.put zgr (show (4 : Int32).toInt = 4 from rfl) (by omega)
  have kf_83 : f_83 4 = x_82 := by rw [← hf_83]; exact pk_us
  have hq_f_83 : RowQ f_83 := by rw [← hf_83]; exact RowQ.of zfw _
  replace hP : va_P D vwCl [(cc_O m0 12 [m_0, m_1, m_2, .ref w0, m_4, m_5, m_6, m_7, m_8, m_9, m_10, m_11, m_12, m_13, m_14, m_15, m_16, m_17, m_18, m_19, m_20, m_21, m_22, m_23, m_24, m_25, m_26, m_27, m_28, m_29, m_30, m_31, m_32, m_33, m_34, m_35, m_36, m_37, m_38, m_39, m_40, m_41, m_42, m_43, m_44, m_45, m_46, m_47, m_48, m_49, m_50, m_51, m_52, m_53, m_54, m_55, m_56, m_57, m_58, m_59]), (cc_l w0 (K 0) 5500 f_83)] H := hP
  replace hD := as_D hP hD rfl
  refine lv_aload_n hx hb dX12_goOn_10 rfl (lv_at hl 0 rfl) (lv_iconst (v := 0) hx hb dX12_goOn_11 (by decide +kernel) (pci (va_runV (As := [.int 0]) (rest := []) ⟨hx, hb, hml, hown, hts⟩ (v_term_k l D K x_82 m0 m_0 m_1 m_2 w0 m_4 m_5 m_6 m_7 m_8 m_9 m_10 m_11 m_12 m_13 m_14 m_15 m_16 m_17 m_18 m_19 m_20 m_21 m_22 m_23 m_24 m_25 m_26 m_27 m_28 m_29 m_30 m_31 m_32 m_33 m_34 m_35 m_36 m_37 m_38 m_39 m_40 m_41 m_42 m_43 m_44 m_45 m_46 m_47 m_48 m_49 m_50 m_51 m_52 m_53 m_54 m_55 m_56 m_57 m_58 m_59 f_83 H.size kf_83) (cwV 1 hts gX12_goOn_X12_term rfl rfl rfl (by decide +kernel) ⟨Nat.le_of_ble_eq_true rfl, Nat.le_of_ble_eq_true rfl⟩) (mkV hK hN (hP.sub [0, 1] rfl) (hD.sub [0, 1] (by decide +kernel) rfl) (ci := 12) (q0 := 0) rfl rfl) rfl rfl hl.1 rfl (lv_room (Nat.le_of_ble_eq_true rfl)) dX12_goOn_12 ⟨Nat.le_of_ble_eq_true rfl, Nat.le_of_ble_eq_true rfl⟩) (fun r_84 hw => ?_)))
  obtain ⟨hw, k_85, -⟩ := hw
  replace hE := hE.trans (Lt_in k_85)
  have er_r_84 := hw
  have hr_r_84 : r_84.toInt = (x_81.toInt + 1) := (congrArg Int32.toInt er_r_84).trans hx_82
  refine lv_bipush (v := 24) hx hb dX12_goOn_15 (by decide +kernel) (lv_icmp_ne (tgt := 37) hx hb dX12_goOn_17 (by decide +kernel) (fun c_86 => ?_) (fun c_86 => ?_))
  · have c_86i := i_ne (x := (x_81.toInt + 1)) (y := 24) hr_r_84 rfl c_86
    replace hE := hE.trans (if_neg c_86)
    have hok_f_83 : RwOK f_83 := RowQ.fin hq_f_83 kf_83 (by omega)
    rw [← hQ]
    have hP9 := hP.sub (ws' := [(cc_O m0 12 [m_0, m_1, m_2, .ref w0, m_4, m_5, m_6, m_7, m_8, m_9, m_10, m_11, m_12, m_13, m_14, m_15, m_16, m_17, m_18, m_19, m_20, m_21, m_22, m_23, m_24, m_25, m_26, m_27, m_28, m_29, m_30, m_31, m_32, m_33, m_34, m_35, m_36, m_37, m_38, m_39, m_40, m_41, m_42, m_43, m_44, m_45, m_46, m_47, m_48, m_49, m_50, m_51, m_52, m_53, m_54, m_55, m_56, m_57, m_58, m_59]), (cc_l w0 (K 0) 5500 f_83)]) [0, 1] rfl
    have hD9 := sub_D hP9 hD [0, 1] (by decide +kernel) rfl
    exact W.vret hx hb hr (fun t ht hW => ⟨⟨((fun _ => 0, fun i => match i with | _ => f_83, fun _ => fun _ => 0, fun _ => 0, fun _ => 0, fun _ => fun _ => none) : Su), rfl, ⟨hok_f_83, hf_83_1, hE.symm, trivial⟩, (⟨by rw [ht]; exact hP9, hD9⟩ : Wd D A _ t)⟩, hS.F ht⟩) hS.2.2 dX12_goOn_37
  · have c_86i := i_eq (x := (x_81.toInt + 1)) (y := 24) hr_r_84 rfl c_86
    replace hE := hE.trans (if_pos c_86)
    refine lv_aload_n hx hb dX12_goOn_20 rfl (lv_at hl 0 rfl) (va_get (ci := 12) (v := .ref w0) (C := RX12) (T := TX12) (N := 60) hx hb hts hw12 hown hK hP 0 rfl rfl 3 (by decide +kernel) (hts _ mm_X12_goOn_833) (fun _ h9 => h9) rfl dX12_goOn_21 (lv_iconst (v := 4) hx hb dX12_goOn_24 (by decide +kernel) (lv_iconst (v := 0) hx hb dX12_goOn_25 (by decide +kernel) (va_iast hx hb hK hP hD hS 1 0 rfl rfl (i_in (x := 4) rfl (by omega)) dX12_goOn_26 (fun H locs hP0 hD0 hS0 => ?_)))))
    replace hP := hP0
    replace hD := hD0
    replace hS := hS0
    clear hP0 hD0 hS0
    generalize hf_87 : (upd f_83 (4 : Int32).toNatClampNeg 0) = f_87 at hP hD
    replace hE := hE.trans (Lt_in hf_87.symm)
    have hf_87_0 : FzM gr f_87 := by rw [← hf_87]; exact FzM.put hf_83_1 (show (4 : Int32).toInt = 4 from rfl) (by omega)
    have hok_f_87 : RwOK f_87 := by rw [← hf_87]; exact RowQ.put hq_f_83 (by decide +kernel)
    replace hP : va_P D vwCl [(cc_O m0 12 [m_0, m_1, m_2, .ref w0, m_4, m_5, m_6, m_7, m_8, m_9, m_10, m_11, m_12, m_13, m_14, m_15, m_16, m_17, m_18, m_19, m_20, m_21, m_22, m_23, m_24, m_25, m_26, m_27, m_28, m_29, m_30, m_31, m_32, m_33, m_34, m_35, m_36, m_37, m_38, m_39, m_40, m_41, m_42, m_43, m_44, m_45, m_46, m_47, m_48, m_49, m_50, m_51, m_52, m_53, m_54, m_55, m_56, m_57, m_58, m_59]), (cc_l w0 (K 0) 5500 f_87)] H := hP
    replace hD := as_D hP hD rfl
    refine lv_aload_n hx hb dX12_goOn_27 rfl (lv_at hl 0 rfl) (va_get (ci := 12) (v := .ref w0) (C := RX12) (T := TX12) (N := 60) hx hb hts hw12 hown hK hP 0 rfl rfl 3 (by decide +kernel) (hts _ mm_X12_goOn_833) (fun _ h9 => h9) rfl dX12_goOn_28 (lv_iconst (v := 5) hx hb dX12_goOn_31 (by decide +kernel) (lv_dup2_11 hx hb dX12_goOn_32 rfl rfl (va_iald hx hb hK hP 1 0 rfl rfl (i_in (x := 5) rfl (by omega)) dX12_goOn_33 (lv_topi (fun x_88 ex_88 => ?_))))))
    replace hE := hE.trans (Lt_in ex_88)
    have px_88 := RwOK.at hok_f_87 (show (5 : Int32).toInt = 5 from rfl) (show 0 ≤ 5 ∧ 5 < 100 by omega)
    rw [← ex_88] at px_88
    refine lv_iconst (v := 1) hx hb dX12_goOn_34 (by decide +kernel) (lv_iadd hx hb dX12_goOn_35 (lv_topi (fun x_89 ex_89 => ?_)))
    replace hE := hE.trans (Lt_in ex_89)
    refine va_iast hx hb hK hP hD hS 1 0 rfl rfl (i_in (x := 5) rfl (by omega)) dX12_goOn_36 (fun H locs hP0 hD0 hS0 => ?_)
    replace hP := hP0
    replace hD := hD0
    replace hS := hS0
    clear hP0 hD0 hS0
    generalize hf_90 : (upd f_87 (5 : Int32).toNatClampNeg x_89) = f_90 at hP hD
    replace hE := hE.trans (Lt_in hf_90.symm)
    have hf_90_0 : RwOK f_90 := by rw [← hf_90]; exact RwOK.upd hok_f_87 (show (5 : Int32).toInt = 5 from rfl) (by omega) rfl (PR.free (by omega))
    have hf_90_1 : FzM gr f_90 := by rw [← hf_90]; exact FzM.put hf_87_0 (show (5 : Int32).toInt = 5 from rfl) (by omega)
    replace hP : va_P D vwCl [(cc_O m0 12 [m_0, m_1, m_2, .ref w0, m_4, m_5, m_6, m_7, m_8, m_9, m_10, m_11, m_12, m_13, m_14, m_15, m_16, m_17, m_18, m_19, m_20, m_21, m_22, m_23, m_24, m_25, m_26, m_27, m_28, m_29, m_30, m_31, m_32, m_33, m_34, m_35, m_36, m_37, m_38, m_39, m_40, m_41, m_42, m_43, m_44, m_45, m_46, m_47, m_48, m_49, m_50, m_51, m_52, m_53, m_54, m_55, m_56, m_57, m_58, m_59]), (cc_l w0 (K 0) 5500 f_90)] H := hP
    replace hD := as_D hP hD rfl
    rw [← hQ]
    have hP9 := hP.sub (ws' := [(cc_O m0 12 [m_0, m_1, m_2, .ref w0, m_4, m_5, m_6, m_7, m_8, m_9, m_10, m_11, m_12, m_13, m_14, m_15, m_16, m_17, m_18, m_19, m_20, m_21, m_22, m_23, m_24, m_25, m_26, m_27, m_28, m_29, m_30, m_31, m_32, m_33, m_34, m_35, m_36, m_37, m_38, m_39, m_40, m_41, m_42, m_43, m_44, m_45, m_46, m_47, m_48, m_49, m_50, m_51, m_52, m_53, m_54, m_55, m_56, m_57, m_58, m_59]), (cc_l w0 (K 0) 5500 f_90)]) [0, 1] rfl
    have hD9 := sub_D hP9 hD [0, 1] (by decide +kernel) rfl
    exact W.vret hx hb hr (fun t ht hW => ⟨⟨((fun _ => 0, fun i => match i with | _ => f_90, fun _ => fun _ => 0, fun _ => 0, fun _ => 0, fun _ => fun _ => none) : Su), rfl, ⟨hf_90_0, hf_90_1, hE.symm, trivial⟩, (⟨by rw [ht]; exact hP9, hD9⟩ : Wd D A _ t)⟩, hS.F ht⟩) hS.2.2 dX12_goOn_37
set_option maxRecDepth 100000 in
noncomputable def E_v_terms (x : Int32) (y : Int32) (thr : Int32) (sta : Int32) (nu : Int32) (fw : Nat → Int32) (frf : Nat → Int32) : Int32 × Int32 × Int32 × (Nat → Int32) × (Nat → Int32) :=
  Lt (E_v_canBe x y) (fun r_93 => if r_93 = 1 then (Lt (4 + x : Int32) (fun x_97 => Lt2 (E_v_changeF x_97 y sta fw) (fun r_98 u_99_2_1_0 => ((r_98, 0, 0, u_99_2_1_0, frf) : Int32 × Int32 × Int32 × (Nat → Int32) × (Nat → Int32))))) else (Lt2 (E_v_tell (-1) sta frf) (fun r_104 q0_r_104 => Lt2 q0_r_104 (fun u_105_2_2_2_1_0 u_105_2_1_0 => ((r_104, u_105_2_2_2_1_0, nu, fw, u_105_2_1_0) : Int32 × Int32 × Int32 × (Nat → Int32) × (Nat → Int32))))))
set_option maxHeartbeats 4000000 in
set_option maxRecDepth 100000 in
theorem v_terms (l : Launch) (D : va_G) (K : Nat → ClassId) (m0 : Nat) (x : Int32) (y : Int32) (thr : Int32) (sta : Int32) (r0 : Nat) (w0 : Nat) (m_4 : Value) (m_5 : Value) (m_6 : Value) (m_7 : Value) (nu : Int32) (m_9 : Value) (m_10 : Value) (m_11 : Value) (m_12 : Value) (m_13 : Value) (m_14 : Value) (m_15 : Value) (m_16 : Value) (m_17 : Value) (m_18 : Value) (m_19 : Value) (m_20 : Value) (m_21 : Value) (m_22 : Value) (m_23 : Value) (m_24 : Value) (m_25 : Value) (m_26 : Value) (m_27 : Value) (m_28 : Value) (m_29 : Value) (m_30 : Value) (m_31 : Value) (m_32 : Value) (m_33 : Value) (m_34 : Value) (m_35 : Value) (m_36 : Value) (m_37 : Value) (m_38 : Value) (m_39 : Value) (m_40 : Value) (m_41 : Value) (m_42 : Value) (m_43 : Value) (m_44 : Value) (m_45 : Value) (m_46 : Value) (m_47 : Value) (m_48 : Value) (m_49 : Value) (m_50 : Value) (m_51 : Value) (m_52 : Value) (m_53 : Value) (m_54 : Value) (m_55 : Value) (m_56 : Value) (m_57 : Value) (m_58 : Value) (m_59 : Value) (fw : Nat → Int32) (gr : Nat → Int32) (frf : Nat → Int32) (sz : Nat) (zfw : RwOK fw) (zgr : FzM gr fw) : Met l yX12_terms wsX12_terms ({ frames := 2, cells := 0, slots := 0, locals := 46 }) (va_Pc [.ref m0, .int x, .int y] (Pre D K [(cc_O m0 12 [.int thr, .int sta, .ref r0, .ref w0, m_4, m_5, m_6, m_7, .int nu, m_9, m_10, m_11, m_12, m_13, m_14, m_15, m_16, m_17, m_18, m_19, m_20, m_21, m_22, m_23, m_24, m_25, m_26, m_27, m_28, m_29, m_30, m_31, m_32, m_33, m_34, m_35, m_36, m_37, m_38, m_39, m_40, m_41, m_42, m_43, m_44, m_45, m_46, m_47, m_48, m_49, m_50, m_51, m_52, m_53, m_54, m_55, m_56, m_57, m_58, m_59]), (cc_l w0 (K 0) 5500 fw), (cc_l r0 (K 0) 7 frf)] sz)) (va_Qi (S := Su) (fun (r : Int32) (u : Su) => ((-6) ≤ (u.2.2.2.1 0).toInt ∧ (u.2.2.2.1 0).toInt ≤ 0) ∧ (RwOK (u.2.1 0)) ∧ (FzM gr (u.2.1 0)) ∧ ((r, (u.2.2.2.1 0), (u.2.2.2.1 1), (u.2.1 0), (u.2.1 1)) = E_v_terms x y thr sta nu fw frf) ∧ True) (fun u t => Wd D (va_A [(cc_O m0 12 [.int thr, .int sta, .ref r0, .ref w0, m_4, m_5, m_6, m_7, .int nu, m_9, m_10, m_11, m_12, m_13, m_14, m_15, m_16, m_17, m_18, m_19, m_20, m_21, m_22, m_23, m_24, m_25, m_26, m_27, m_28, m_29, m_30, m_31, m_32, m_33, m_34, m_35, m_36, m_37, m_38, m_39, m_40, m_41, m_42, m_43, m_44, m_45, m_46, m_47, m_48, m_49, m_50, m_51, m_52, m_53, m_54, m_55, m_56, m_57, m_58, m_59]), (cc_l w0 (K 0) 5500 fw), (cc_l r0 (K 0) 7 frf)] sz) ((fun u => [(cc_O m0 12 [.int 0, .int (u.2.2.2.1 0), .ref r0, .ref w0, m_4, m_5, m_6, m_7, .int (u.2.2.2.1 1), m_9, m_10, m_11, m_12, m_13, m_14, m_15, m_16, m_17, m_18, m_19, m_20, m_21, m_22, m_23, m_24, m_25, m_26, m_27, m_28, m_29, m_30, m_31, m_32, m_33, m_34, m_35, m_36, m_37, m_38, m_39, m_40, m_41, m_42, m_43, m_44, m_45, m_46, m_47, m_48, m_49, m_50, m_51, m_52, m_53, m_54, m_55, m_56, m_57, m_58, m_59]), (cc_l w0 (K 0) 5500 (u.2.1 0)), (cc_l r0 (K 0) 7 (u.2.1 1))]) u) t) (va_A [(cc_O m0 12 [.int thr, .int sta, .ref r0, .ref w0, m_4, m_5, m_6, m_7, .int nu, m_9, m_10, m_11, m_12, m_13, m_14, m_15, m_16, m_17, m_18, m_19, m_20, m_21, m_22, m_23, m_24, m_25, m_26, m_27, m_28, m_29, m_30, m_31, m_32, m_33, m_34, m_35, m_36, m_37, m_38, m_39, m_40, m_41, m_42, m_43, m_44, m_45, m_46, m_47, m_48, m_49, m_50, m_51, m_52, m_53, m_54, m_55, m_56, m_57, m_58, m_59]), (cc_l w0 (K 0) 5500 fw), (cc_l r0 (K 0) 7 frf)] sz)) 0 0 (va_A [(cc_O m0 12 [.int thr, .int sta, .ref r0, .ref w0, m_4, m_5, m_6, m_7, .int nu, m_9, m_10, m_11, m_12, m_13, m_14, m_15, m_16, m_17, m_18, m_19, m_20, m_21, m_22, m_23, m_24, m_25, m_26, m_27, m_28, m_29, m_30, m_31, m_32, m_33, m_34, m_35, m_36, m_37, m_38, m_39, m_40, m_41, m_42, m_43, m_44, m_45, m_46, m_47, m_48, m_49, m_50, m_51, m_52, m_53, m_54, m_55, m_56, m_57, m_58, m_59]), (cc_l w0 (K 0) 5500 fw), (cc_l r0 (K 0) 7 frf)] sz) := by
  refine Met.ofW (cc := cX12_terms) (maxL := 3) (ret := (some .int)) (by decide +kernel) rfl ?_
  intro p e s m args below meth c s₁ B hml hv
  obtain ⟨rfl, hsz, hP, hK, hD0, hN⟩ := hv
  have hx := B.exec
  have hb := B.bytes
  have hr := B.returns
  have hts := atoms_spec (ws := wsX12_terms) B.pre
  have hown : s.vm.findClass RX12 = some m.cls := findClass_of_methodNamed B.named
  have hlocks := B.notSynchronized
  subst hsz
  have hD := hD0.self (sz := s.heap.size)
  generalize hAe : va_A [(cc_O m0 12 [.int thr, .int sta, .ref r0, .ref w0, m_4, m_5, m_6, m_7, .int nu, m_9, m_10, m_11, m_12, m_13, m_14, m_15, m_16, m_17, m_18, m_19, m_20, m_21, m_22, m_23, m_24, m_25, m_26, m_27, m_28, m_29, m_30, m_31, m_32, m_33, m_34, m_35, m_36, m_37, m_38, m_39, m_40, m_41, m_42, m_43, m_44, m_45, m_46, m_47, m_48, m_49, m_50, m_51, m_52, m_53, m_54, m_55, m_56, m_57, m_58, m_59]), (cc_l w0 (K 0) 5500 fw), (cc_l r0 (K 0) 7 frf)] s.heap.size = A at hD ⊢
  have hA : ∀ q : Nat, s.heap.size ≤ q → A q := fun q h => by rw [← hAe]; exact Or.inr h
  clear hAe
  have hS : va_S A s.heap s.heap [] := va_S.rf
  replace hP : va_P D vwCl [(cc_O m0 12 [.int thr, .int sta, .ref r0, .ref w0, m_4, m_5, m_6, m_7, .int nu, m_9, m_10, m_11, m_12, m_13, m_14, m_15, m_16, m_17, m_18, m_19, m_20, m_21, m_22, m_23, m_24, m_25, m_26, m_27, m_28, m_29, m_30, m_31, m_32, m_33, m_34, m_35, m_36, m_37, m_38, m_39, m_40, m_41, m_42, m_43, m_44, m_45, m_46, m_47, m_48, m_49, m_50, m_51, m_52, m_53, m_54, m_55, m_56, m_57, m_58, m_59]), (cc_l w0 (K 0) 5500 fw), (cc_l r0 (K 0) 7 frf)] s.heap := hP
  have hl := lv_entry [.ref m0, .int x, .int y] (n := 3) (Nat.le_of_ble_eq_true rfl)
  rw [lg_entry_eq]
  generalize (lg_sl [.ref m0, .int x, .int y] ++ List.replicate (3 - (lg_sl [.ref m0, .int x, .int y]).length) Slot.unset).toArray = ls at hl ⊢
  have hl : lv_has ls 3 [(0, .ref m0), (1, .int x), (2, .int y)] := hl
  have hw12 : ∀ w ∈ wsX120, w ∈ wsX12_terms := fun w h => (List.mem_cons_of_mem _ (List.mem_append_right _ h))
  generalize hQ : MQ below _ _ s _ _ _ = Q
  have hE := E_v_terms.eq_def x y thr sta nu fw frf
  refine lv_aload_n hx hb dX12_terms_0 rfl (lv_at hl 0 rfl) (lv_iconst (v := 0) hx hb dX12_terms_1 (by decide +kernel) (va_put (ci := 12) (v := .int 0) (ty := .int) (C := RX12) (T := TX12) (N := 60) hx hb hts hw12 tyX12 tyX12_ok nmX12 hown hK hP hD hS 0 rfl rfl 0 (by decide +kernel) (hts _ mm_X12_terms_830) (fun _ h9 => h9) rfl (by decide +kernel) (by first | rfl | decide) (by first | rfl | decide) (Nat.le_of_ble_eq_true rfl) dX12_terms_2 (fun H locs hP0 hD0 hS0 => ?_)))
  replace hP : va_P D vwCl [(cc_O m0 12 [.int 0, .int sta, .ref r0, .ref w0, m_4, m_5, m_6, m_7, .int nu, m_9, m_10, m_11, m_12, m_13, m_14, m_15, m_16, m_17, m_18, m_19, m_20, m_21, m_22, m_23, m_24, m_25, m_26, m_27, m_28, m_29, m_30, m_31, m_32, m_33, m_34, m_35, m_36, m_37, m_38, m_39, m_40, m_41, m_42, m_43, m_44, m_45, m_46, m_47, m_48, m_49, m_50, m_51, m_52, m_53, m_54, m_55, m_56, m_57, m_58, m_59]), (cc_l w0 (K 0) 5500 fw), (cc_l r0 (K 0) 7 frf)] H := hP0
  replace hD := as_D hP hD0 rfl
  replace hS := hS0
  clear hP0 hD0 hS0
  refine lv_iload_n hx hb dX12_terms_5 rfl (lv_at hl 1 rfl) (lv_iload_n hx hb dX12_terms_6 rfl (lv_at hl 2 rfl) (pci (va_runS (As := [.int x, .int y]) (rest := []) ⟨hx, hb, hml, hown, hts⟩ (v_canBe l D K x y H.size) (va_cwS 2 hts gX12_terms_X12_canBe rfl rfl rfl (by decide +kernel) ⟨Nat.le_of_ble_eq_true rfl, Nat.le_of_ble_eq_true rfl⟩) (mkS hK hN (va_P.nil) (va_D.nil (A := fun _ => True))) rfl rfl hl.1 rfl (lv_room (Nat.le_of_ble_eq_true rfl)) dX12_terms_7 ⟨Nat.le_of_ble_eq_true rfl, Nat.le_of_ble_eq_true rfl⟩) (fun r_93 hw => ?_)))
  obtain ⟨hw, k_94, -⟩ := hw
  replace hE := hE.trans (Lt_in k_94)
  rcases hw with ⟨rfl, h_95⟩ | rfl
  · replace hE := (hE).trans (if_pos rfl)
    refine lv_if_ne (tgt := 19) hx hb dX12_terms_10 (by decide +kernel) (fun c_96 => ?_) (fun c_96 => absurd c_96 (by decide +kernel))
    refine lv_aload_n hx hb dX12_terms_19 rfl (lv_at hl 0 rfl) ?_
    have hx05 : 0 ≤ x.toInt ∧ x.toInt ≤ 5 := by omega
    refine lv_iconst (v := 0) hx hb dX12_terms_20 (by decide +kernel) (va_put (ci := 12) (v := .int 0) (ty := .int) (C := RX12) (T := TX12) (N := 60) hx hb hts hw12 tyX12 tyX12_ok nmX12 hown hK hP hD hS 0 rfl rfl 8 (by decide +kernel) (hts _ mm_X12_terms_838) (fun _ h9 => h9) rfl (by decide +kernel) (by first | rfl | decide) (by first | rfl | decide) (Nat.le_of_ble_eq_true rfl) dX12_terms_21 (fun H locs hP0 hD0 hS0 => ?_))
    replace hP : va_P D vwCl [(cc_O m0 12 [.int 0, .int sta, .ref r0, .ref w0, m_4, m_5, m_6, m_7, .int 0, m_9, m_10, m_11, m_12, m_13, m_14, m_15, m_16, m_17, m_18, m_19, m_20, m_21, m_22, m_23, m_24, m_25, m_26, m_27, m_28, m_29, m_30, m_31, m_32, m_33, m_34, m_35, m_36, m_37, m_38, m_39, m_40, m_41, m_42, m_43, m_44, m_45, m_46, m_47, m_48, m_49, m_50, m_51, m_52, m_53, m_54, m_55, m_56, m_57, m_58, m_59]), (cc_l w0 (K 0) 5500 fw), (cc_l r0 (K 0) 7 frf)] H := hP0
    replace hD := as_D hP hD0 rfl
    replace hS := hS0
    clear hP0 hD0 hS0
    refine lv_aload_n hx hb dX12_terms_24 rfl (lv_at hl 0 rfl) (lv_iconst (v := 4) hx hb dX12_terms_25 (by decide +kernel) (lv_iload_n hx hb dX12_terms_26 rfl (lv_at hl 1 rfl) (lv_iadd hx hb dX12_terms_27 (lv_topi (fun x_97 ex_97 => ?_)))))
    replace hE := hE.trans (Lt_in ex_97)
    have hx_97 : x_97.toInt = (4 + x.toInt) := by rw [ex_97]; exact i_add (show (4 : Int32).toInt = 4 from rfl) rfl (by omega)
    refine lv_iload_n hx hb dX12_terms_28 rfl (lv_at hl 2 rfl) (kci (S := Su) (wr := [(cc_l r0 (K 0) 7 frf)]) (va_runV (As := [.int x_97, .int y]) (rest := []) ⟨hx, hb, hml, hown, hts⟩ (v_changeF l D K m0 x_97 y (.int 0) sta (.ref r0) w0 m_4 m_5 m_6 m_7 (.int 0) m_9 m_10 m_11 m_12 m_13 m_14 m_15 m_16 m_17 m_18 m_19 m_20 m_21 m_22 m_23 m_24 m_25 m_26 m_27 m_28 m_29 m_30 m_31 m_32 m_33 m_34 m_35 m_36 m_37 m_38 m_39 m_40 m_41 m_42 m_43 m_44 m_45 m_46 m_47 m_48 m_49 m_50 m_51 m_52 m_53 m_54 m_55 m_56 m_57 m_58 m_59 fw gr H.size (by first | omega | decide) (PR_terms (by omega)) zfw zgr) (cwV 2 hts gX12_terms_X12_change rfl rfl rfl (by decide +kernel) ⟨Nat.le_of_ble_eq_true rfl, Nat.le_of_ble_eq_true rfl⟩) (mkV hK hN (hP.sub [0, 1] rfl) (hD.sub [0, 1] (by decide +kernel) rfl) (ci := 12) (q0 := 0) rfl rfl) rfl rfl hl.1 rfl (lv_room (Nat.le_of_ble_eq_true rfl)) dX12_terms_29 ⟨Nat.le_of_ble_eq_true rfl, Nat.le_of_ble_eq_true rfl⟩) hP hD hS hA [0, 1] [2] rfl rfl (by decide +kernel) (by decide +kernel) (fun r_98 u_99 H locs hw hP0 hD0 hS0 => ?_))
    replace hP : va_P D vwCl [(cc_l r0 (K 0) 7 frf), (cc_O m0 12 [.int 0, .int 0, .ref r0, .ref w0, m_4, m_5, m_6, m_7, .int 0, m_9, m_10, m_11, m_12, m_13, m_14, m_15, m_16, m_17, m_18, m_19, m_20, m_21, m_22, m_23, m_24, m_25, m_26, m_27, m_28, m_29, m_30, m_31, m_32, m_33, m_34, m_35, m_36, m_37, m_38, m_39, m_40, m_41, m_42, m_43, m_44, m_45, m_46, m_47, m_48, m_49, m_50, m_51, m_52, m_53, m_54, m_55, m_56, m_57, m_58, m_59]), (cc_l w0 (K 0) 5500 (u_99.2.1 0))] H := hP0
    replace hD := as_D hP hD0 rfl
    replace hS := hS0
    clear hP0 hD0 hS0
    obtain ⟨k_100, k_101, k_102, -⟩ := hw
    replace hE := hE.trans (Lt2_in k_102)
    rw [← hQ]
    have hP9 := hP.sub (ws' := [(cc_O m0 12 [.int 0, .int 0, .ref r0, .ref w0, m_4, m_5, m_6, m_7, .int 0, m_9, m_10, m_11, m_12, m_13, m_14, m_15, m_16, m_17, m_18, m_19, m_20, m_21, m_22, m_23, m_24, m_25, m_26, m_27, m_28, m_29, m_30, m_31, m_32, m_33, m_34, m_35, m_36, m_37, m_38, m_39, m_40, m_41, m_42, m_43, m_44, m_45, m_46, m_47, m_48, m_49, m_50, m_51, m_52, m_53, m_54, m_55, m_56, m_57, m_58, m_59]), (cc_l w0 (K 0) 5500 (u_99.2.1 0)), (cc_l r0 (K 0) 7 frf)]) [1, 2, 0] rfl
    have hD9 := sub_D hP9 hD [1, 2, 0] (by decide +kernel) rfl
    exact W.iret (v := r_98) hx hb hr (fun t ht hW => ⟨⟨r_98, ((fun _ => 0, fun i => match i with | 0 => (u_99.2.1 0) | _ => frf, fun _ => fun _ => 0, fun i => match i with | 0 => 0 | _ => 0, fun _ => 0, fun _ => fun _ => none) : Su), rfl, ⟨(show (-6) ≤ (0 : Int32).toInt ∧ (0 : Int32).toInt ≤ 0 by decide), k_100, k_101, hE.symm, trivial⟩, (⟨by rw [ht]; exact hP9, hD9⟩ : Wd D A _ t)⟩, hS.F ht⟩) hS.2.2 dX12_terms_32
  · replace hE := (hE).trans (if_neg (by first | decide | (intro h9; have h8 := congrArg Int32.toInt h9; omega)))
    refine lv_if_ne (tgt := 19) hx hb dX12_terms_10 (by decide +kernel) (fun c_103 => absurd (by decide +kernel) c_103) (fun c_103 => ?_)
    refine lv_aload_n hx hb dX12_terms_13 rfl (lv_at hl 0 rfl) (lv_iconst (v := (-1)) hx hb dX12_terms_14 (by decide +kernel) (kci (S := Su) (wr := [(cc_l w0 (K 0) 5500 fw)]) (va_runV (As := [.int (-1)]) (rest := []) ⟨hx, hb, hml, hown, hts⟩ (v_tell l D K m0 (-1) (.int 0) sta r0 (.ref w0) m_4 m_5 m_6 m_7 (.int nu) m_9 m_10 m_11 m_12 m_13 m_14 m_15 m_16 m_17 m_18 m_19 m_20 m_21 m_22 m_23 m_24 m_25 m_26 m_27 m_28 m_29 m_30 m_31 m_32 m_33 m_34 m_35 m_36 m_37 m_38 m_39 m_40 m_41 m_42 m_43 m_44 m_45 m_46 m_47 m_48 m_49 m_50 m_51 m_52 m_53 m_54 m_55 m_56 m_57 m_58 m_59 frf H.size (by first | omega | decide)) (cwV 1 hts gX12_terms_X12_tell rfl rfl rfl (by decide +kernel) ⟨Nat.le_of_ble_eq_true rfl, Nat.le_of_ble_eq_true rfl⟩) (mkV hK hN (hP.sub [0, 2] rfl) (hD.sub [0, 2] (by decide +kernel) rfl) (ci := 12) (q0 := 0) rfl rfl) rfl rfl hl.1 rfl (lv_room (Nat.le_of_ble_eq_true rfl)) dX12_terms_15 ⟨Nat.le_of_ble_eq_true rfl, Nat.le_of_ble_eq_true rfl⟩) hP hD hS hA [0, 2] [1] rfl rfl (by decide +kernel) (by decide +kernel) (fun r_104 u_105 H locs hw hP0 hD0 hS0 => ?_)))
    replace hP : va_P D vwCl [(cc_l w0 (K 0) 5500 fw), (cc_O m0 12 [.int 0, .int (u_105.2.2.2.1 0), .ref r0, .ref w0, m_4, m_5, m_6, m_7, .int nu, m_9, m_10, m_11, m_12, m_13, m_14, m_15, m_16, m_17, m_18, m_19, m_20, m_21, m_22, m_23, m_24, m_25, m_26, m_27, m_28, m_29, m_30, m_31, m_32, m_33, m_34, m_35, m_36, m_37, m_38, m_39, m_40, m_41, m_42, m_43, m_44, m_45, m_46, m_47, m_48, m_49, m_50, m_51, m_52, m_53, m_54, m_55, m_56, m_57, m_58, m_59]), (cc_l r0 (K 0) 7 (u_105.2.1 0))] H := hP0
    replace hD := as_D hP hD0 rfl
    replace hS := hS0
    clear hP0 hD0 hS0
    obtain ⟨h_108, k_106, k_107, -⟩ := hw
    replace hE := (hE.trans (Lt2_in k_107)).trans (Lt2_in rfl)
    rw [← hQ]
    have hP9 := hP.sub (ws' := [(cc_O m0 12 [.int 0, .int (u_105.2.2.2.1 0), .ref r0, .ref w0, m_4, m_5, m_6, m_7, .int nu, m_9, m_10, m_11, m_12, m_13, m_14, m_15, m_16, m_17, m_18, m_19, m_20, m_21, m_22, m_23, m_24, m_25, m_26, m_27, m_28, m_29, m_30, m_31, m_32, m_33, m_34, m_35, m_36, m_37, m_38, m_39, m_40, m_41, m_42, m_43, m_44, m_45, m_46, m_47, m_48, m_49, m_50, m_51, m_52, m_53, m_54, m_55, m_56, m_57, m_58, m_59]), (cc_l w0 (K 0) 5500 fw), (cc_l r0 (K 0) 7 (u_105.2.1 0))]) [1, 0, 2] rfl
    have hD9 := sub_D hP9 hD [1, 0, 2] (by decide +kernel) rfl
    exact W.iret (v := r_104) hx hb hr (fun t ht hW => ⟨⟨r_104, ((fun _ => 0, fun i => match i with | 0 => fw | _ => (u_105.2.1 0), fun _ => fun _ => 0, fun i => match i with | 0 => (u_105.2.2.2.1 0) | _ => nu, fun _ => 0, fun _ => fun _ => none) : Su), rfl, ⟨(show (-6) ≤ ((u_105.2.2.2.1 0) : Int32).toInt ∧ ((u_105.2.2.2.1 0) : Int32).toInt ≤ 0 by omega), zfw, zgr, hE.symm, trivial⟩, (⟨by rw [ht]; exact hP9, hD9⟩ : Wd D A _ t)⟩, hS.F ht⟩) hS.2.2 dX12_terms_18
set_option maxRecDepth 100000 in
noncomputable def E_v_row_j79 (v_596 : Int32) (v_597 : Int32) (v_598 : Int32) (f_599 : Nat → Int32) (rec_648 : Int32 → Int32 → Int32 → (Nat → Int32) → (Int32 × Int32 × Int32 × (Nat → Int32) × (Nat → Int32))) : Int32 × Int32 × Int32 × (Nat → Int32) × (Nat → Int32) :=
  Lt (v_598 + 1 : Int32) (fun x_667 => Lt (v_596 + Int32.ofInt 1 : Int32) (fun x_668 => rec_648 x_668 v_597 x_667 f_599))
set_option maxRecDepth 100000 in
noncomputable def E_v_row_l35 (sta : Int32) (ta : Int32) (ft : Nat → Int32) (frf : Nat → Int32) (rec_648 : Int32 → Int32 → Int32 → (Nat → Int32) → (Int32 × Int32 × Int32 × (Nat → Int32) × (Nat → Int32))) (v_596 : Int32) (v_597 : Int32) (v_598 : Int32) (f_599 : Nat → Int32) : Int32 × Int32 × Int32 × (Nat → Int32) × (Nat → Int32) :=
  if ta ≤ v_596 then (Lt2 (E_v_tell v_597 sta frf) (fun r_651 q0_r_651 => Lt2 q0_r_651 (fun u_652_2_2_2_1_0 u_652_2_1_0 => ((r_651, u_652_2_2_2_1_0, v_598, f_599, u_652_2_1_0) : Int32 × Int32 × Int32 × (Nat → Int32) × (Nat → Int32))))) else (if 24 ≤ v_596 then (E_v_row_j79 v_596 v_597 v_598 f_599 rec_648) else (Lt (ft (v_596 : Int32).toNatClampNeg : Int32) (fun x_670 => if 128 ≤ x_670 then (E_v_row_j79 v_596 v_597 v_598 f_599 rec_648) else (Lt (67 + v_596 : Int32) (fun x_672 => Lt (ft (v_596 : Int32).toNatClampNeg : Int32) (fun x_673 => Lt (upd f_599 (x_672 : Int32).toNatClampNeg x_673 : Nat → Int32) (fun f_674 => Lt (v_597 + Int32.ofInt 1 : Int32) (fun x_675 => Lt (v_596 + Int32.ofInt 1 : Int32) (fun x_676 => rec_648 x_676 x_675 v_598 f_674)))))))))
set_option maxRecDepth 100000 in
noncomputable def E_v_row (thr : Int32) (sta : Int32) (as_ : Int32) (ta : Int32) (fw : Nat → Int32) (ft : Nat → Int32) (frf : Nat → Int32) : Int32 × Int32 × Int32 × (Nat → Int32) × (Nat → Int32) :=
  if ta = 0 then (Lt2 (E_v_tell (-6) sta frf) (fun r_680 q0_r_680 => Lt2 q0_r_680 (fun u_681_2_2_2_1_0 u_681_2_1_0 => ((r_680, u_681_2_2_2_1_0, as_, fw, u_681_2_1_0) : Int32 × Int32 × Int32 × (Nat → Int32) × (Nat → Int32))))) else (Lp (α := Int32 → Int32 → Int32 → (Nat → Int32) → (Int32 × Int32 × Int32 × (Nat → Int32) × (Nat → Int32))) (E_v_row_l35 sta ta ft frf) (fun _ _ _ _ => ((0, 0, 0, fun _ => 0, fun _ => 0) : Int32 × Int32 × Int32 × (Nat → Int32) × (Nat → Int32))) ((401 - (0 : Int32).toInt : Int).toNat + 1) 0 0 0 fw)
set_option maxHeartbeats 4000000 in
set_option maxRecDepth 100000 in
theorem v_row (l : Launch) (D : va_G) (K : Nat → ClassId) (m0 : Nat) (thr : Int32) (sta : Int32) (r0 : Nat) (w0 : Nat) (m_4 : Value) (m_5 : Value) (m_6 : Value) (m_7 : Value) (m_8 : Value) (m_9 : Value) (m_10 : Value) (as_ : Int32) (t0 : Nat) (ta : Int32) (m_14 : Value) (m_15 : Value) (m_16 : Value) (m_17 : Value) (m_18 : Value) (m_19 : Value) (m_20 : Value) (m_21 : Value) (m_22 : Value) (m_23 : Value) (m_24 : Value) (m_25 : Value) (m_26 : Value) (m_27 : Value) (m_28 : Value) (m_29 : Value) (m_30 : Value) (m_31 : Value) (m_32 : Value) (m_33 : Value) (m_34 : Value) (m_35 : Value) (m_36 : Value) (m_37 : Value) (m_38 : Value) (m_39 : Value) (m_40 : Value) (m_41 : Value) (m_42 : Value) (m_43 : Value) (m_44 : Value) (m_45 : Value) (m_46 : Value) (m_47 : Value) (m_48 : Value) (m_49 : Value) (m_50 : Value) (m_51 : Value) (m_52 : Value) (m_53 : Value) (m_54 : Value) (m_55 : Value) (m_56 : Value) (m_57 : Value) (m_58 : Value) (m_59 : Value) (fw : Nat → Int32) (ft : Nat → Int32) (frf : Nat → Int32) (sz : Nat) (zta : 0 ≤ ta.toInt ∧ ta.toInt ≤ 400) (zfw : RwOK fw) : Met l yX12_row wsX12_row ({ frames := 1, cells := 0, slots := 0, locals := 21 }) (va_Pc [.ref m0] (Pre D K [(cc_O m0 12 [.int thr, .int sta, .ref r0, .ref w0, m_4, m_5, m_6, m_7, m_8, m_9, m_10, .int as_, .ref t0, .int ta, m_14, m_15, m_16, m_17, m_18, m_19, m_20, m_21, m_22, m_23, m_24, m_25, m_26, m_27, m_28, m_29, m_30, m_31, m_32, m_33, m_34, m_35, m_36, m_37, m_38, m_39, m_40, m_41, m_42, m_43, m_44, m_45, m_46, m_47, m_48, m_49, m_50, m_51, m_52, m_53, m_54, m_55, m_56, m_57, m_58, m_59]), (cc_l w0 (K 0) 5500 fw), (cc_l t0 (K 0) 400 ft), (cc_l r0 (K 0) 7 frf)] sz)) (va_Qi (S := Su) (fun (r : Int32) (u : Su) => ((-6) ≤ r.toInt) ∧ ((-6) ≤ (u.2.2.2.1 0).toInt ∧ (u.2.2.2.1 0).toInt ≤ 0) ∧ (RwOK (u.2.1 0)) ∧ ((r, (u.2.2.2.1 0), (u.2.2.2.1 1), (u.2.1 0), (u.2.1 1)) = E_v_row thr sta as_ ta fw ft frf) ∧ True) (fun u t => Wd D (va_A [(cc_O m0 12 [.int thr, .int sta, .ref r0, .ref w0, m_4, m_5, m_6, m_7, m_8, m_9, m_10, .int as_, .ref t0, .int ta, m_14, m_15, m_16, m_17, m_18, m_19, m_20, m_21, m_22, m_23, m_24, m_25, m_26, m_27, m_28, m_29, m_30, m_31, m_32, m_33, m_34, m_35, m_36, m_37, m_38, m_39, m_40, m_41, m_42, m_43, m_44, m_45, m_46, m_47, m_48, m_49, m_50, m_51, m_52, m_53, m_54, m_55, m_56, m_57, m_58, m_59]), (cc_l w0 (K 0) 5500 fw), (cc_l t0 (K 0) 400 ft), (cc_l r0 (K 0) 7 frf)] sz) ((fun u => [(cc_O m0 12 [.int 0, .int (u.2.2.2.1 0), .ref r0, .ref w0, m_4, m_5, m_6, m_7, m_8, m_9, m_10, .int (u.2.2.2.1 1), .ref t0, .int 0, m_14, m_15, m_16, m_17, m_18, m_19, m_20, m_21, m_22, m_23, m_24, m_25, m_26, m_27, m_28, m_29, m_30, m_31, m_32, m_33, m_34, m_35, m_36, m_37, m_38, m_39, m_40, m_41, m_42, m_43, m_44, m_45, m_46, m_47, m_48, m_49, m_50, m_51, m_52, m_53, m_54, m_55, m_56, m_57, m_58, m_59]), (cc_l w0 (K 0) 5500 (u.2.1 0)), (cc_l t0 (K 0) 400 ft), (cc_l r0 (K 0) 7 (u.2.1 1))]) u) t) (va_A [(cc_O m0 12 [.int thr, .int sta, .ref r0, .ref w0, m_4, m_5, m_6, m_7, m_8, m_9, m_10, .int as_, .ref t0, .int ta, m_14, m_15, m_16, m_17, m_18, m_19, m_20, m_21, m_22, m_23, m_24, m_25, m_26, m_27, m_28, m_29, m_30, m_31, m_32, m_33, m_34, m_35, m_36, m_37, m_38, m_39, m_40, m_41, m_42, m_43, m_44, m_45, m_46, m_47, m_48, m_49, m_50, m_51, m_52, m_53, m_54, m_55, m_56, m_57, m_58, m_59]), (cc_l w0 (K 0) 5500 fw), (cc_l t0 (K 0) 400 ft), (cc_l r0 (K 0) 7 frf)] sz)) 0 0 (va_A [(cc_O m0 12 [.int thr, .int sta, .ref r0, .ref w0, m_4, m_5, m_6, m_7, m_8, m_9, m_10, .int as_, .ref t0, .int ta, m_14, m_15, m_16, m_17, m_18, m_19, m_20, m_21, m_22, m_23, m_24, m_25, m_26, m_27, m_28, m_29, m_30, m_31, m_32, m_33, m_34, m_35, m_36, m_37, m_38, m_39, m_40, m_41, m_42, m_43, m_44, m_45, m_46, m_47, m_48, m_49, m_50, m_51, m_52, m_53, m_54, m_55, m_56, m_57, m_58, m_59]), (cc_l w0 (K 0) 5500 fw), (cc_l t0 (K 0) 400 ft), (cc_l r0 (K 0) 7 frf)] sz) := by
  refine Met.ofW (cc := cX12_row) (maxL := 4) (ret := (some .int)) (by decide +kernel) rfl ?_
  intro p e s m args below meth c s₁ B hml hv
  obtain ⟨rfl, hsz, hP, hK, hD0, hN⟩ := hv
  have hx := B.exec
  have hb := B.bytes
  have hr := B.returns
  have hts := atoms_spec (ws := wsX12_row) B.pre
  have hown : s.vm.findClass RX12 = some m.cls := findClass_of_methodNamed B.named
  have hlocks := B.notSynchronized
  subst hsz
  have hD := hD0.self (sz := s.heap.size)
  generalize hAe : va_A [(cc_O m0 12 [.int thr, .int sta, .ref r0, .ref w0, m_4, m_5, m_6, m_7, m_8, m_9, m_10, .int as_, .ref t0, .int ta, m_14, m_15, m_16, m_17, m_18, m_19, m_20, m_21, m_22, m_23, m_24, m_25, m_26, m_27, m_28, m_29, m_30, m_31, m_32, m_33, m_34, m_35, m_36, m_37, m_38, m_39, m_40, m_41, m_42, m_43, m_44, m_45, m_46, m_47, m_48, m_49, m_50, m_51, m_52, m_53, m_54, m_55, m_56, m_57, m_58, m_59]), (cc_l w0 (K 0) 5500 fw), (cc_l t0 (K 0) 400 ft), (cc_l r0 (K 0) 7 frf)] s.heap.size = A at hD ⊢
  have hA : ∀ q : Nat, s.heap.size ≤ q → A q := fun q h => by rw [← hAe]; exact Or.inr h
  clear hAe
  have hS : va_S A s.heap s.heap [] := va_S.rf
  replace hP : va_P D vwCl [(cc_O m0 12 [.int thr, .int sta, .ref r0, .ref w0, m_4, m_5, m_6, m_7, m_8, m_9, m_10, .int as_, .ref t0, .int ta, m_14, m_15, m_16, m_17, m_18, m_19, m_20, m_21, m_22, m_23, m_24, m_25, m_26, m_27, m_28, m_29, m_30, m_31, m_32, m_33, m_34, m_35, m_36, m_37, m_38, m_39, m_40, m_41, m_42, m_43, m_44, m_45, m_46, m_47, m_48, m_49, m_50, m_51, m_52, m_53, m_54, m_55, m_56, m_57, m_58, m_59]), (cc_l w0 (K 0) 5500 fw), (cc_l t0 (K 0) 400 ft), (cc_l r0 (K 0) 7 frf)] s.heap := hP
  have hl := lv_entry [.ref m0] (n := 4) (Nat.le_of_ble_eq_true rfl)
  rw [lg_entry_eq]
  generalize (lg_sl [.ref m0] ++ List.replicate (4 - (lg_sl [.ref m0]).length) Slot.unset).toArray = ls at hl ⊢
  have hl : lv_has ls 4 [(0, .ref m0)] := hl
  have hw12 : ∀ w ∈ wsX120, w ∈ wsX12_row := fun w h => (List.mem_cons_of_mem _ (List.mem_append_right _ h))
  generalize hQ : MQ below _ _ s _ _ _ = Q
  have hE := E_v_row.eq_def thr sta as_ ta fw ft frf
  refine lv_aload_n hx hb dX12_row_0 rfl (lv_at hl 0 rfl) (lv_iconst (v := 0) hx hb dX12_row_1 (by decide +kernel) (va_put (ci := 12) (v := .int 0) (ty := .int) (C := RX12) (T := TX12) (N := 60) hx hb hts hw12 tyX12 tyX12_ok nmX12 hown hK hP hD hS 0 rfl rfl 0 (by decide +kernel) (hts _ mm_X12_row_830) (fun _ h9 => h9) rfl (by decide +kernel) (by first | rfl | decide) (by first | rfl | decide) (Nat.le_of_ble_eq_true rfl) dX12_row_2 (fun H locs hP0 hD0 hS0 => ?_)))
  replace hP : va_P D vwCl [(cc_O m0 12 [.int 0, .int sta, .ref r0, .ref w0, m_4, m_5, m_6, m_7, m_8, m_9, m_10, .int as_, .ref t0, .int ta, m_14, m_15, m_16, m_17, m_18, m_19, m_20, m_21, m_22, m_23, m_24, m_25, m_26, m_27, m_28, m_29, m_30, m_31, m_32, m_33, m_34, m_35, m_36, m_37, m_38, m_39, m_40, m_41, m_42, m_43, m_44, m_45, m_46, m_47, m_48, m_49, m_50, m_51, m_52, m_53, m_54, m_55, m_56, m_57, m_58, m_59]), (cc_l w0 (K 0) 5500 fw), (cc_l t0 (K 0) 400 ft), (cc_l r0 (K 0) 7 frf)] H := hP0
  replace hD := as_D hP hD0 rfl
  replace hS := hS0
  clear hP0 hD0 hS0
  refine lv_aload_n hx hb dX12_row_5 rfl (lv_at hl 0 rfl) (va_get (ci := 12) (v := .int ta) (C := RX12) (T := TX12) (N := 60) hx hb hts hw12 hown hK hP 0 rfl rfl 13 (by decide +kernel) (hts _ mm_X12_row_843) (fun _ h9 => h9) rfl dX12_row_6 (lv_istore_n (lv' := [(1, .int ta), (0, .ref m0)]) hx hb dX12_row_9 rfl hl (by decide +kernel) rfl (fun ls hl => ?_)))
  refine lv_aload_n hx hb dX12_row_10 rfl (lv_at hl 1 rfl) (lv_iconst (v := 0) hx hb dX12_row_11 (by decide +kernel) (va_put (ci := 12) (v := .int 0) (ty := .int) (C := RX12) (T := TX12) (N := 60) hx hb hts hw12 tyX12 tyX12_ok nmX12 hown hK hP hD hS 0 rfl rfl 13 (by decide +kernel) (hts _ mm_X12_row_843) (fun _ h9 => h9) rfl (by decide +kernel) (by first | rfl | decide) (by first | rfl | decide) (Nat.le_of_ble_eq_true rfl) dX12_row_12 (fun H locs hP0 hD0 hS0 => ?_)))
  replace hP : va_P D vwCl [(cc_O m0 12 [.int 0, .int sta, .ref r0, .ref w0, m_4, m_5, m_6, m_7, m_8, m_9, m_10, .int as_, .ref t0, .int 0, m_14, m_15, m_16, m_17, m_18, m_19, m_20, m_21, m_22, m_23, m_24, m_25, m_26, m_27, m_28, m_29, m_30, m_31, m_32, m_33, m_34, m_35, m_36, m_37, m_38, m_39, m_40, m_41, m_42, m_43, m_44, m_45, m_46, m_47, m_48, m_49, m_50, m_51, m_52, m_53, m_54, m_55, m_56, m_57, m_58, m_59]), (cc_l w0 (K 0) 5500 fw), (cc_l t0 (K 0) 400 ft), (cc_l r0 (K 0) 7 frf)] H := hP0
  replace hD := as_D hP hD0 rfl
  replace hS := hS0
  clear hP0 hD0 hS0
  refine lv_iload_n hx hb dX12_row_15 rfl (lv_at hl 0 rfl) (lv_if_ne (tgt := 26) hx hb dX12_row_16 (by decide +kernel) (fun c_477 => ?_) (fun c_477 => ?_))
  · have c_477i := i_ne (x := ta.toInt) (y := 0) rfl rfl c_477
    replace hE := hE.trans (if_neg c_477)
    refine lv_aload_n hx hb dX12_row_26 rfl (lv_at hl 1 rfl) (lv_iconst (v := 0) hx hb dX12_row_27 (by decide +kernel) (va_put (ci := 12) (v := .int 0) (ty := .int) (C := RX12) (T := TX12) (N := 60) hx hb hts hw12 tyX12 tyX12_ok nmX12 hown hK hP hD hS 0 rfl rfl 11 (by decide +kernel) (hts _ mm_X12_row_841) (fun _ h9 => h9) rfl (by decide +kernel) (by first | rfl | decide) (by first | rfl | decide) (Nat.le_of_ble_eq_true rfl) dX12_row_28 (fun H locs hP0 hD0 hS0 => ?_)))
    replace hP : va_P D vwCl [(cc_O m0 12 [.int 0, .int sta, .ref r0, .ref w0, m_4, m_5, m_6, m_7, m_8, m_9, m_10, .int 0, .ref t0, .int 0, m_14, m_15, m_16, m_17, m_18, m_19, m_20, m_21, m_22, m_23, m_24, m_25, m_26, m_27, m_28, m_29, m_30, m_31, m_32, m_33, m_34, m_35, m_36, m_37, m_38, m_39, m_40, m_41, m_42, m_43, m_44, m_45, m_46, m_47, m_48, m_49, m_50, m_51, m_52, m_53, m_54, m_55, m_56, m_57, m_58, m_59]), (cc_l w0 (K 0) 5500 fw), (cc_l t0 (K 0) 400 ft), (cc_l r0 (K 0) 7 frf)] H := hP0
    replace hD := as_D hP hD0 rfl
    replace hS := hS0
    clear hP0 hD0 hS0
    refine lv_iconst (v := 0) hx hb dX12_row_31 (by decide +kernel) (lv_istore_n (lv' := [(2, .int 0), (1, .int ta), (0, .ref m0)]) hx hb dX12_row_32 rfl hl (by decide +kernel) rfl (fun ls hl => ?_))
    refine lv_iconst (v := 0) hx hb dX12_row_33 (by decide +kernel) (lv_istore_n (lv' := [(3, .int 0), (2, .int 0), (1, .int ta), (0, .ref m0)]) hx hb dX12_row_34 rfl hl (by decide +kernel) rfl (fun ls hl => ?_))
    have lp_648 : ∀ (nn_ : Nat) (v_596 : Int32) (v_597 : Int32) (v_598 : Int32) (f_599 : Nat → Int32) (hv_596 : 0 ≤ v_596.toInt ∧ v_596.toInt ≤ 400) (hv_597 : 0 ≤ v_597.toInt ∧ v_597.toInt ≤ 400) (hf_599_0 : RwOK f_599) (hr0_lp_648 : 0 ≤ v_597.toInt ∧ v_597.toInt ≤ v_596.toInt) (hn : (401 - v_596.toInt : Int).toNat < nn_) (hE : E_v_row thr sta as_ ta fw ft frf = Lp (α := Int32 → Int32 → Int32 → (Nat → Int32) → (Int32 × Int32 × Int32 × (Nat → Int32) × (Nat → Int32))) (E_v_row_l35 sta ta ft frf) (fun _ _ _ _ => ((0, 0, 0, fun _ => 0, fun _ => 0) : Int32 × Int32 × Int32 × (Nat → Int32) × (Nat → Int32))) nn_ v_596 v_597 v_598 f_599) (H : Heap) (locs : List Loc) (hP : va_P D vwCl [(cc_O m0 12 [.int 0, .int sta, .ref r0, .ref w0, m_4, m_5, m_6, m_7, m_8, m_9, m_10, .int v_598, .ref t0, .int 0, m_14, m_15, m_16, m_17, m_18, m_19, m_20, m_21, m_22, m_23, m_24, m_25, m_26, m_27, m_28, m_29, m_30, m_31, m_32, m_33, m_34, m_35, m_36, m_37, m_38, m_39, m_40, m_41, m_42, m_43, m_44, m_45, m_46, m_47, m_48, m_49, m_50, m_51, m_52, m_53, m_54, m_55, m_56, m_57, m_58, m_59]), (cc_l w0 (K 0) 5500 f_599), (cc_l t0 (K 0) 400 ft), (cc_l r0 (K 0) 7 frf)] H) (hD : va_D A [(cc_O m0 12 [.int 0, .int sta, .ref r0, .ref w0, m_4, m_5, m_6, m_7, m_8, m_9, m_10, .int v_598, .ref t0, .int 0, m_14, m_15, m_16, m_17, m_18, m_19, m_20, m_21, m_22, m_23, m_24, m_25, m_26, m_27, m_28, m_29, m_30, m_31, m_32, m_33, m_34, m_35, m_36, m_37, m_38, m_39, m_40, m_41, m_42, m_43, m_44, m_45, m_46, m_47, m_48, m_49, m_50, m_51, m_52, m_53, m_54, m_55, m_56, m_57, m_58, m_59]), (cc_l w0 (K 0) 5500 f_599), (cc_l t0 (K 0) 400 ft), (cc_l r0 (K 0) 7 frf)]) (hS : va_S A s.heap H locs) (ls : Array Slot) (hl : lv_has ls 4 [(3, .int v_596), (2, .int v_597), (1, .int ta), (0, .ref m0)]), W p l e ({ frames := 1, cells := 0, slots := 0, locals := 21 }) s m (([.ref m0] : List Value).toArray) below meth c H locs 0 0 Q (F0 m 35 ls []) := by
      clear hE hP hD hS hl
      intro nn_
      induction nn_ with
      | zero =>
        intro v_596 v_597 v_598 f_599 hv_596 hv_597 hf_599_0 hr0_lp_648 hn hE H locs hP hD hS ls hl
        exact absurd hn (Nat.not_lt_zero _)
      | succ nn_ ih_649 =>
        intro v_596 v_597 v_598 f_599 hv_596 hv_597 hf_599_0 hr0_lp_648 hn hE H locs hP hD hS ls hl
        replace hE : E_v_row thr sta as_ ta fw ft frf = E_v_row_l35 sta ta ft frf (Lp (α := Int32 → Int32 → Int32 → (Nat → Int32) → (Int32 × Int32 × Int32 × (Nat → Int32) × (Nat → Int32))) (E_v_row_l35 sta ta ft frf) (fun _ _ _ _ => ((0, 0, 0, fun _ => 0, fun _ => 0) : Int32 × Int32 × Int32 × (Nat → Int32) × (Nat → Int32))) nn_) v_596 v_597 v_598 f_599 := hE
        obtain ⟨rec_648, hrec_648⟩ : ∃ z9, z9 = Lp (α := Int32 → Int32 → Int32 → (Nat → Int32) → (Int32 × Int32 × Int32 × (Nat → Int32) × (Nat → Int32))) (E_v_row_l35 sta ta ft frf) (fun _ _ _ _ => ((0, 0, 0, fun _ => 0, fun _ => 0) : Int32 × Int32 × Int32 × (Nat → Int32) × (Nat → Int32))) nn_ := ⟨_, rfl⟩
        rw [← hrec_648] at hE
        replace hE := hE.trans (E_v_row_l35.eq_def _ _ _ _ _ _ _ _ _)
        refine lv_iload_n hx hb dX12_row_35 rfl (lv_at hl 0 rfl) (lv_iload_n hx hb dX12_row_36 rfl (lv_at hl 2 rfl) (lv_icmp_ge (tgt := 95) hx hb dX12_row_37 (by decide +kernel) (fun c_650 => ?_) (fun c_650 => ?_)))
        · have c_650i := i_le (x := ta.toInt) (y := v_596.toInt) rfl rfl c_650
          replace hE := hE.trans (if_pos c_650)
          refine lv_aload_n hx hb dX12_row_95 rfl (lv_at hl 3 rfl) (lv_iload_n hx hb dX12_row_96 rfl (lv_at hl 1 rfl) (kci (S := Su) (wr := [(cc_l w0 (K 0) 5500 f_599), (cc_l t0 (K 0) 400 ft)]) (va_runV (As := [.int v_597]) (rest := []) ⟨hx, hb, hml, hown, hts⟩ (v_tell l D K m0 v_597 (.int 0) sta r0 (.ref w0) m_4 m_5 m_6 m_7 m_8 m_9 m_10 (.int v_598) (.ref t0) (.int 0) m_14 m_15 m_16 m_17 m_18 m_19 m_20 m_21 m_22 m_23 m_24 m_25 m_26 m_27 m_28 m_29 m_30 m_31 m_32 m_33 m_34 m_35 m_36 m_37 m_38 m_39 m_40 m_41 m_42 m_43 m_44 m_45 m_46 m_47 m_48 m_49 m_50 m_51 m_52 m_53 m_54 m_55 m_56 m_57 m_58 m_59 frf H.size (by first | omega | decide)) (cwV 1 hts gX12_row_X12_tell rfl rfl rfl (by decide +kernel) ⟨Nat.le_of_ble_eq_true rfl, Nat.le_of_ble_eq_true rfl⟩) (mkV hK hN (hP.sub [0, 3] rfl) (hD.sub [0, 3] (by decide +kernel) rfl) (ci := 12) (q0 := 0) rfl rfl) rfl rfl hl.1 rfl (lv_room (Nat.le_of_ble_eq_true rfl)) dX12_row_97 ⟨Nat.le_of_ble_eq_true rfl, Nat.le_of_ble_eq_true rfl⟩) hP hD hS hA [0, 3] [1, 2] rfl rfl (by decide +kernel) (by decide +kernel) (fun r_651 u_652 H locs hw hP0 hD0 hS0 => ?_)))
          replace hP : va_P D vwCl [(cc_l w0 (K 0) 5500 f_599), (cc_l t0 (K 0) 400 ft), (cc_O m0 12 [.int 0, .int (u_652.2.2.2.1 0), .ref r0, .ref w0, m_4, m_5, m_6, m_7, m_8, m_9, m_10, .int v_598, .ref t0, .int 0, m_14, m_15, m_16, m_17, m_18, m_19, m_20, m_21, m_22, m_23, m_24, m_25, m_26, m_27, m_28, m_29, m_30, m_31, m_32, m_33, m_34, m_35, m_36, m_37, m_38, m_39, m_40, m_41, m_42, m_43, m_44, m_45, m_46, m_47, m_48, m_49, m_50, m_51, m_52, m_53, m_54, m_55, m_56, m_57, m_58, m_59]), (cc_l r0 (K 0) 7 (u_652.2.1 0))] H := hP0
          replace hD := as_D hP hD0 rfl
          replace hS := hS0
          clear hP0 hD0 hS0
          obtain ⟨h_655, k_653, k_654, -⟩ := hw
          replace hE := (hE.trans (Lt2_in k_654)).trans (Lt2_in rfl)
          rw [← hQ]
          have hP9 := hP.sub (ws' := [(cc_O m0 12 [.int 0, .int (u_652.2.2.2.1 0), .ref r0, .ref w0, m_4, m_5, m_6, m_7, m_8, m_9, m_10, .int v_598, .ref t0, .int 0, m_14, m_15, m_16, m_17, m_18, m_19, m_20, m_21, m_22, m_23, m_24, m_25, m_26, m_27, m_28, m_29, m_30, m_31, m_32, m_33, m_34, m_35, m_36, m_37, m_38, m_39, m_40, m_41, m_42, m_43, m_44, m_45, m_46, m_47, m_48, m_49, m_50, m_51, m_52, m_53, m_54, m_55, m_56, m_57, m_58, m_59]), (cc_l w0 (K 0) 5500 f_599), (cc_l t0 (K 0) 400 ft), (cc_l r0 (K 0) 7 (u_652.2.1 0))]) [2, 0, 1, 3] rfl
          have hD9 := sub_D hP9 hD [2, 0, 1, 3] (by decide +kernel) rfl
          exact W.iret (v := r_651) hx hb hr (fun t ht hW => ⟨⟨r_651, ((fun _ => 0, fun i => match i with | 0 => f_599 | _ => (u_652.2.1 0), fun _ => fun _ => 0, fun i => match i with | 0 => (u_652.2.2.2.1 0) | _ => v_598, fun _ => 0, fun _ => fun _ => none) : Su), rfl, ⟨(show (-6) ≤ r_651.toInt by omega), (show (-6) ≤ ((u_652.2.2.2.1 0) : Int32).toInt ∧ ((u_652.2.2.2.1 0) : Int32).toInt ≤ 0 by omega), hf_599_0, hE.symm, trivial⟩, (⟨by rw [ht]; exact hP9, hD9⟩ : Wd D A _ t)⟩, hS.F ht⟩) hS.2.2 dX12_row_100
        · have c_650i := i_nle (x := ta.toInt) (y := v_596.toInt) rfl rfl c_650
          replace hE := hE.trans (if_neg c_650)
          refine lv_iload_n hx hb dX12_row_40 rfl (lv_at hl 0 rfl) (lv_bipush (v := 24) hx hb dX12_row_41 (by decide +kernel) ?_)
          have j_666 : ∀ (hE : E_v_row thr sta as_ ta fw ft frf = E_v_row_j79 v_596 v_597 v_598 f_599 rec_648) (H : Heap) (locs : List Loc) (hP : va_P D vwCl [(cc_O m0 12 [.int 0, .int sta, .ref r0, .ref w0, m_4, m_5, m_6, m_7, m_8, m_9, m_10, .int v_598, .ref t0, .int 0, m_14, m_15, m_16, m_17, m_18, m_19, m_20, m_21, m_22, m_23, m_24, m_25, m_26, m_27, m_28, m_29, m_30, m_31, m_32, m_33, m_34, m_35, m_36, m_37, m_38, m_39, m_40, m_41, m_42, m_43, m_44, m_45, m_46, m_47, m_48, m_49, m_50, m_51, m_52, m_53, m_54, m_55, m_56, m_57, m_58, m_59]), (cc_l w0 (K 0) 5500 f_599), (cc_l t0 (K 0) 400 ft), (cc_l r0 (K 0) 7 frf)] H) (hD : va_D A [(cc_O m0 12 [.int 0, .int sta, .ref r0, .ref w0, m_4, m_5, m_6, m_7, m_8, m_9, m_10, .int v_598, .ref t0, .int 0, m_14, m_15, m_16, m_17, m_18, m_19, m_20, m_21, m_22, m_23, m_24, m_25, m_26, m_27, m_28, m_29, m_30, m_31, m_32, m_33, m_34, m_35, m_36, m_37, m_38, m_39, m_40, m_41, m_42, m_43, m_44, m_45, m_46, m_47, m_48, m_49, m_50, m_51, m_52, m_53, m_54, m_55, m_56, m_57, m_58, m_59]), (cc_l w0 (K 0) 5500 f_599), (cc_l t0 (K 0) 400 ft), (cc_l r0 (K 0) 7 frf)]) (hS : va_S A s.heap H locs) (ls : Array Slot) (hl : lv_has ls 4 [(3, .int v_596), (2, .int v_597), (1, .int ta), (0, .ref m0)]), W p l e ({ frames := 1, cells := 0, slots := 0, locals := 21 }) s m (([.ref m0] : List Value).toArray) below meth c H locs 0 0 Q (F0 m 79 ls []) := by
            clear hE hP hD hS hl
            intro hE H locs hP hD hS ls hl
            replace hE := hE.trans (E_v_row_j79.eq_def _ _ _ _ _)
            refine lv_aload_n hx hb dX12_row_79 rfl (lv_at hl 3 rfl) (lv_dup hx hb dX12_row_80 rfl (va_get (ci := 12) (v := .int v_598) (C := RX12) (T := TX12) (N := 60) hx hb hts hw12 hown hK hP 0 rfl rfl 11 (by decide +kernel) (hts _ mm_X12_row_841) (fun _ h9 => h9) rfl dX12_row_81 (lv_iconst (v := 1) hx hb dX12_row_84 (by decide +kernel) (lv_iadd hx hb dX12_row_85 (lv_topi (fun x_667 ex_667 => ?_))))))
            replace hE := hE.trans (Lt_in ex_667)
            refine va_put (ci := 12) (v := .int x_667) (ty := .int) (C := RX12) (T := TX12) (N := 60) hx hb hts hw12 tyX12 tyX12_ok nmX12 hown hK hP hD hS 0 rfl rfl 11 (by decide +kernel) (hts _ mm_X12_row_841) (fun _ h9 => h9) rfl (by decide +kernel) (by first | rfl | decide) (by first | rfl | decide) (Nat.le_of_ble_eq_true rfl) dX12_row_86 (fun H locs hP0 hD0 hS0 => ?_)
            replace hP : va_P D vwCl [(cc_O m0 12 [.int 0, .int sta, .ref r0, .ref w0, m_4, m_5, m_6, m_7, m_8, m_9, m_10, .int x_667, .ref t0, .int 0, m_14, m_15, m_16, m_17, m_18, m_19, m_20, m_21, m_22, m_23, m_24, m_25, m_26, m_27, m_28, m_29, m_30, m_31, m_32, m_33, m_34, m_35, m_36, m_37, m_38, m_39, m_40, m_41, m_42, m_43, m_44, m_45, m_46, m_47, m_48, m_49, m_50, m_51, m_52, m_53, m_54, m_55, m_56, m_57, m_58, m_59]), (cc_l w0 (K 0) 5500 f_599), (cc_l t0 (K 0) 400 ft), (cc_l r0 (K 0) 7 frf)] H := hP0
            replace hD := as_D hP hD0 rfl
            replace hS := hS0
            clear hP0 hD0 hS0
            obtain ⟨x_668, ex_668⟩ : ∃ y : Int32, y = v_596 + Int32.ofInt 1 := ⟨_, rfl⟩
            replace hE := hE.trans (Lt_in ex_668)
            have hx_668 : x_668.toInt = (v_596.toInt + 1) := by rw [ex_668]; exact i_add rfl (show (Int32.ofInt 1).toInt = 1 from rfl) (by omega)
            refine lv_iinc (v := x_668) (lv' := [(3, .int x_668), (2, .int v_597), (1, .int ta), (0, .ref m0)]) hx hb dX12_row_89 hl (k := 0) rfl (by rw [ex_668]) (by decide +kernel) rfl (fun ls hl => ?_)
            refine lv_goto (tgt := 35) hx hb dX12_row_92 (by decide +kernel) ?_
            exact ih_649 x_668 v_597 x_667 f_599 (by rw [hx_668]; omega) (by omega) hf_599_0 (show 0 ≤ (v_597 : Int32).toInt ∧ (v_597 : Int32).toInt ≤ (x_668 : Int32).toInt by omega) (by omega) (hE.trans (by rw [hrec_648])) _ _ hP hD hS ls (lv_sub hl [0, 1, 2, 3] rfl)
          refine lv_icmp_ge (tgt := 79) hx hb dX12_row_43 (by decide +kernel) (fun c_669 => ?_) (fun c_669 => ?_)
          · have c_669i := i_le (x := 24) (y := v_596.toInt) rfl rfl c_669
            replace hE := hE.trans (if_pos c_669)
            exact j_666   hE _ _ hP hD hS ls (lv_sub hl [0, 1, 2, 3] rfl)
          · have c_669i := i_nle (x := 24) (y := v_596.toInt) rfl rfl c_669
            replace hE := hE.trans (if_neg c_669)
            refine lv_aload_n hx hb dX12_row_46 rfl (lv_at hl 3 rfl) (va_get (ci := 12) (v := .ref t0) (C := RX12) (T := TX12) (N := 60) hx hb hts hw12 hown hK hP 0 rfl rfl 12 (by decide +kernel) (hts _ mm_X12_row_842) (fun _ h9 => h9) rfl dX12_row_47 (lv_iload_n hx hb dX12_row_50 rfl (lv_at hl 0 rfl) (va_iald hx hb hK hP 2 0 rfl rfl (i_in rfl (by omega)) dX12_row_51 (lv_topi (fun x_670 ex_670 => ?_)))))
            replace hE := hE.trans (Lt_in ex_670)
            refine lv_sipush (v := 128) hx hb dX12_row_52 (by decide +kernel) (lv_icmp_ge (tgt := 79) hx hb dX12_row_55 (by decide +kernel) (fun c_671 => ?_) (fun c_671 => ?_))
            · have c_671i := i_le (x := 128) (y := x_670.toInt) rfl rfl c_671
              replace hE := hE.trans (if_pos c_671)
              exact j_666   hE _ _ hP hD hS ls (lv_sub hl [0, 1, 2, 3] rfl)
            · have c_671i := i_nle (x := 128) (y := x_670.toInt) rfl rfl c_671
              replace hE := hE.trans (if_neg c_671)
              refine lv_aload_n hx hb dX12_row_58 rfl (lv_at hl 3 rfl) (va_get (ci := 12) (v := .ref w0) (C := RX12) (T := TX12) (N := 60) hx hb hts hw12 hown hK hP 0 rfl rfl 3 (by decide +kernel) (hts _ mm_X12_row_833) (fun _ h9 => h9) rfl dX12_row_59 (lv_bipush (v := 67) hx hb dX12_row_62 (by decide +kernel) (lv_iload_n hx hb dX12_row_64 rfl (lv_at hl 0 rfl) (lv_iadd hx hb dX12_row_65 (lv_topi (fun x_672 ex_672 => ?_))))))
              replace hE := hE.trans (Lt_in ex_672)
              have hx_672 : x_672.toInt = (67 + v_596.toInt) := by rw [ex_672]; exact i_add (show (67 : Int32).toInt = 67 from rfl) rfl (by omega)
              refine lv_aload_n hx hb dX12_row_66 rfl (lv_at hl 3 rfl) (va_get (ci := 12) (v := .ref t0) (C := RX12) (T := TX12) (N := 60) hx hb hts hw12 hown hK hP 0 rfl rfl 12 (by decide +kernel) (hts _ mm_X12_row_842) (fun _ h9 => h9) rfl dX12_row_67 (lv_iload_n hx hb dX12_row_70 rfl (lv_at hl 0 rfl) (va_iald hx hb hK hP 2 0 rfl rfl (i_in rfl (by omega)) dX12_row_71 (lv_topi (fun x_673 ex_673 => ?_)))))
              replace hE := hE.trans (Lt_in ex_673)
              refine va_iast hx hb hK hP hD hS 1 0 rfl rfl (i_in hx_672 (by omega)) dX12_row_72 (fun H locs hP0 hD0 hS0 => ?_)
              replace hP := hP0
              replace hD := hD0
              replace hS := hS0
              clear hP0 hD0 hS0
              generalize hf_674 : (upd f_599 (x_672 : Int32).toNatClampNeg x_673) = f_674 at hP hD
              replace hE := hE.trans (Lt_in hf_674.symm)
              have hf_674_0 : RwOK f_674 := by rw [← hf_674]; exact RwOK.upd hf_599_0 hx_672 (by omega) rfl (PR.free (by omega))
              replace hP : va_P D vwCl [(cc_O m0 12 [.int 0, .int sta, .ref r0, .ref w0, m_4, m_5, m_6, m_7, m_8, m_9, m_10, .int v_598, .ref t0, .int 0, m_14, m_15, m_16, m_17, m_18, m_19, m_20, m_21, m_22, m_23, m_24, m_25, m_26, m_27, m_28, m_29, m_30, m_31, m_32, m_33, m_34, m_35, m_36, m_37, m_38, m_39, m_40, m_41, m_42, m_43, m_44, m_45, m_46, m_47, m_48, m_49, m_50, m_51, m_52, m_53, m_54, m_55, m_56, m_57, m_58, m_59]), (cc_l w0 (K 0) 5500 f_674), (cc_l t0 (K 0) 400 ft), (cc_l r0 (K 0) 7 frf)] H := hP
              replace hD := as_D hP hD rfl
              obtain ⟨x_675, ex_675⟩ : ∃ y : Int32, y = v_597 + Int32.ofInt 1 := ⟨_, rfl⟩
              replace hE := hE.trans (Lt_in ex_675)
              have hx_675 : x_675.toInt = (v_597.toInt + 1) := by rw [ex_675]; exact i_add rfl (show (Int32.ofInt 1).toInt = 1 from rfl) (by omega)
              refine lv_iinc (v := x_675) (lv' := [(2, .int x_675), (3, .int v_596), (1, .int ta), (0, .ref m0)]) hx hb dX12_row_73 hl (k := 1) rfl (by rw [ex_675]) (by decide +kernel) rfl (fun ls hl => ?_)
              refine lv_goto (tgt := 89) hx hb dX12_row_76 (by decide +kernel) ?_
              obtain ⟨x_676, ex_676⟩ : ∃ y : Int32, y = v_596 + Int32.ofInt 1 := ⟨_, rfl⟩
              replace hE := hE.trans (Lt_in ex_676)
              have hx_676 : x_676.toInt = (v_596.toInt + 1) := by rw [ex_676]; exact i_add rfl (show (Int32.ofInt 1).toInt = 1 from rfl) (by omega)
              refine lv_iinc (v := x_676) (lv' := [(3, .int x_676), (2, .int x_675), (1, .int ta), (0, .ref m0)]) hx hb dX12_row_89 hl (k := 1) rfl (by rw [ex_676]) (by decide +kernel) rfl (fun ls hl => ?_)
              refine lv_goto (tgt := 35) hx hb dX12_row_92 (by decide +kernel) ?_
              exact ih_649 x_676 x_675 v_598 f_674 (by rw [hx_676]; omega) (by rw [hx_675]; omega) hf_674_0 (show 0 ≤ (x_675 : Int32).toInt ∧ (x_675 : Int32).toInt ≤ (x_676 : Int32).toInt by omega) (by omega) (hE.trans (by rw [hrec_648])) _ _ hP hD hS ls (lv_sub hl [0, 1, 2, 3] rfl)
    have hz_677 : (0 : Int32).toInt = 0 := rfl
    have hz_678 : (0 : Int32).toInt = 0 := rfl
    have hz_679 : (0 : Int32).toInt = 0 := rfl
    exact lp_648 ((401 - (0 : Int32).toInt : Int).toNat + 1) 0 0 0 fw (by decide +kernel) (by decide +kernel) zfw (show 0 ≤ (0 : Int32).toInt ∧ (0 : Int32).toInt ≤ (0 : Int32).toInt by omega) (Nat.lt_succ_self _) hE _ _ hP hD hS ls (lv_sub hl [0, 1, 2, 3] rfl)
  · have c_477i := i_eq (x := ta.toInt) (y := 0) rfl rfl c_477
    replace hE := hE.trans (if_pos c_477)
    refine lv_aload_n hx hb dX12_row_19 rfl (lv_at hl 1 rfl) (lv_bipush (v := (-6)) hx hb dX12_row_20 (by decide +kernel) (kci (S := Su) (wr := [(cc_l w0 (K 0) 5500 fw), (cc_l t0 (K 0) 400 ft)]) (va_runV (As := [.int (-6)]) (rest := []) ⟨hx, hb, hml, hown, hts⟩ (v_tell l D K m0 (-6) (.int 0) sta r0 (.ref w0) m_4 m_5 m_6 m_7 m_8 m_9 m_10 (.int as_) (.ref t0) (.int 0) m_14 m_15 m_16 m_17 m_18 m_19 m_20 m_21 m_22 m_23 m_24 m_25 m_26 m_27 m_28 m_29 m_30 m_31 m_32 m_33 m_34 m_35 m_36 m_37 m_38 m_39 m_40 m_41 m_42 m_43 m_44 m_45 m_46 m_47 m_48 m_49 m_50 m_51 m_52 m_53 m_54 m_55 m_56 m_57 m_58 m_59 frf H.size (by first | omega | decide)) (cwV 1 hts gX12_row_X12_tell rfl rfl rfl (by decide +kernel) ⟨Nat.le_of_ble_eq_true rfl, Nat.le_of_ble_eq_true rfl⟩) (mkV hK hN (hP.sub [0, 3] rfl) (hD.sub [0, 3] (by decide +kernel) rfl) (ci := 12) (q0 := 0) rfl rfl) rfl rfl hl.1 rfl (lv_room (Nat.le_of_ble_eq_true rfl)) dX12_row_22 ⟨Nat.le_of_ble_eq_true rfl, Nat.le_of_ble_eq_true rfl⟩) hP hD hS hA [0, 3] [1, 2] rfl rfl (by decide +kernel) (by decide +kernel) (fun r_680 u_681 H locs hw hP0 hD0 hS0 => ?_)))
    replace hP : va_P D vwCl [(cc_l w0 (K 0) 5500 fw), (cc_l t0 (K 0) 400 ft), (cc_O m0 12 [.int 0, .int (u_681.2.2.2.1 0), .ref r0, .ref w0, m_4, m_5, m_6, m_7, m_8, m_9, m_10, .int as_, .ref t0, .int 0, m_14, m_15, m_16, m_17, m_18, m_19, m_20, m_21, m_22, m_23, m_24, m_25, m_26, m_27, m_28, m_29, m_30, m_31, m_32, m_33, m_34, m_35, m_36, m_37, m_38, m_39, m_40, m_41, m_42, m_43, m_44, m_45, m_46, m_47, m_48, m_49, m_50, m_51, m_52, m_53, m_54, m_55, m_56, m_57, m_58, m_59]), (cc_l r0 (K 0) 7 (u_681.2.1 0))] H := hP0
    replace hD := as_D hP hD0 rfl
    replace hS := hS0
    clear hP0 hD0 hS0
    obtain ⟨h_684, k_682, k_683, -⟩ := hw
    replace hE := (hE.trans (Lt2_in k_683)).trans (Lt2_in rfl)
    rw [← hQ]
    have hP9 := hP.sub (ws' := [(cc_O m0 12 [.int 0, .int (u_681.2.2.2.1 0), .ref r0, .ref w0, m_4, m_5, m_6, m_7, m_8, m_9, m_10, .int as_, .ref t0, .int 0, m_14, m_15, m_16, m_17, m_18, m_19, m_20, m_21, m_22, m_23, m_24, m_25, m_26, m_27, m_28, m_29, m_30, m_31, m_32, m_33, m_34, m_35, m_36, m_37, m_38, m_39, m_40, m_41, m_42, m_43, m_44, m_45, m_46, m_47, m_48, m_49, m_50, m_51, m_52, m_53, m_54, m_55, m_56, m_57, m_58, m_59]), (cc_l w0 (K 0) 5500 fw), (cc_l t0 (K 0) 400 ft), (cc_l r0 (K 0) 7 (u_681.2.1 0))]) [2, 0, 1, 3] rfl
    have hD9 := sub_D hP9 hD [2, 0, 1, 3] (by decide +kernel) rfl
    exact W.iret (v := r_680) hx hb hr (fun t ht hW => ⟨⟨r_680, ((fun _ => 0, fun i => match i with | 0 => fw | _ => (u_681.2.1 0), fun _ => fun _ => 0, fun i => match i with | 0 => (u_681.2.2.2.1 0) | _ => as_, fun _ => 0, fun _ => fun _ => none) : Su), rfl, ⟨(show (-6) ≤ r_680.toInt by omega), (show (-6) ≤ ((u_681.2.2.2.1 0) : Int32).toInt ∧ ((u_681.2.2.2.1 0) : Int32).toInt ≤ 0 by omega), zfw, hE.symm, trivial⟩, (⟨by rw [ht]; exact hP9, hD9⟩ : Wd D A _ t)⟩, hS.F ht⟩) hS.2.2 dX12_row_25
set_option maxRecDepth 100000 in
noncomputable def E_v_ash (thr : Int32) (as_ : Int32) : Int32 :=
  (as_ : Int32)
set_option maxHeartbeats 4000000 in
set_option maxRecDepth 100000 in
theorem v_ash (l : Launch) (D : va_G) (K : Nat → ClassId) (m0 : Nat) (thr : Int32) (m_1 : Value) (m_2 : Value) (m_3 : Value) (m_4 : Value) (m_5 : Value) (m_6 : Value) (m_7 : Value) (m_8 : Value) (m_9 : Value) (m_10 : Value) (as_ : Int32) (m_12 : Value) (m_13 : Value) (m_14 : Value) (m_15 : Value) (m_16 : Value) (m_17 : Value) (m_18 : Value) (m_19 : Value) (m_20 : Value) (m_21 : Value) (m_22 : Value) (m_23 : Value) (m_24 : Value) (m_25 : Value) (m_26 : Value) (m_27 : Value) (m_28 : Value) (m_29 : Value) (m_30 : Value) (m_31 : Value) (m_32 : Value) (m_33 : Value) (m_34 : Value) (m_35 : Value) (m_36 : Value) (m_37 : Value) (m_38 : Value) (m_39 : Value) (m_40 : Value) (m_41 : Value) (m_42 : Value) (m_43 : Value) (m_44 : Value) (m_45 : Value) (m_46 : Value) (m_47 : Value) (m_48 : Value) (m_49 : Value) (m_50 : Value) (m_51 : Value) (m_52 : Value) (m_53 : Value) (m_54 : Value) (m_55 : Value) (m_56 : Value) (m_57 : Value) (m_58 : Value) (m_59 : Value) (sz : Nat) : Met l yX12_ash wsX12_ash ({ frames := 0, cells := 0, slots := 0, locals := 0 }) (va_Pc [.ref m0] (Pre D K [(cc_O m0 12 [.int thr, m_1, m_2, m_3, m_4, m_5, m_6, m_7, m_8, m_9, m_10, .int as_, m_12, m_13, m_14, m_15, m_16, m_17, m_18, m_19, m_20, m_21, m_22, m_23, m_24, m_25, m_26, m_27, m_28, m_29, m_30, m_31, m_32, m_33, m_34, m_35, m_36, m_37, m_38, m_39, m_40, m_41, m_42, m_43, m_44, m_45, m_46, m_47, m_48, m_49, m_50, m_51, m_52, m_53, m_54, m_55, m_56, m_57, m_58, m_59])] sz)) (va_Qi (S := Su) (fun (r : Int32) (u : Su) => (r = E_v_ash thr as_) ∧ True) (fun u t => Wd D (va_A [(cc_O m0 12 [.int thr, m_1, m_2, m_3, m_4, m_5, m_6, m_7, m_8, m_9, m_10, .int as_, m_12, m_13, m_14, m_15, m_16, m_17, m_18, m_19, m_20, m_21, m_22, m_23, m_24, m_25, m_26, m_27, m_28, m_29, m_30, m_31, m_32, m_33, m_34, m_35, m_36, m_37, m_38, m_39, m_40, m_41, m_42, m_43, m_44, m_45, m_46, m_47, m_48, m_49, m_50, m_51, m_52, m_53, m_54, m_55, m_56, m_57, m_58, m_59])] sz) ((fun u => [(cc_O m0 12 [.int 0, m_1, m_2, m_3, m_4, m_5, m_6, m_7, m_8, m_9, m_10, .int as_, m_12, m_13, m_14, m_15, m_16, m_17, m_18, m_19, m_20, m_21, m_22, m_23, m_24, m_25, m_26, m_27, m_28, m_29, m_30, m_31, m_32, m_33, m_34, m_35, m_36, m_37, m_38, m_39, m_40, m_41, m_42, m_43, m_44, m_45, m_46, m_47, m_48, m_49, m_50, m_51, m_52, m_53, m_54, m_55, m_56, m_57, m_58, m_59])]) u) t) (va_A [(cc_O m0 12 [.int thr, m_1, m_2, m_3, m_4, m_5, m_6, m_7, m_8, m_9, m_10, .int as_, m_12, m_13, m_14, m_15, m_16, m_17, m_18, m_19, m_20, m_21, m_22, m_23, m_24, m_25, m_26, m_27, m_28, m_29, m_30, m_31, m_32, m_33, m_34, m_35, m_36, m_37, m_38, m_39, m_40, m_41, m_42, m_43, m_44, m_45, m_46, m_47, m_48, m_49, m_50, m_51, m_52, m_53, m_54, m_55, m_56, m_57, m_58, m_59])] sz)) 0 0 (va_A [(cc_O m0 12 [.int thr, m_1, m_2, m_3, m_4, m_5, m_6, m_7, m_8, m_9, m_10, .int as_, m_12, m_13, m_14, m_15, m_16, m_17, m_18, m_19, m_20, m_21, m_22, m_23, m_24, m_25, m_26, m_27, m_28, m_29, m_30, m_31, m_32, m_33, m_34, m_35, m_36, m_37, m_38, m_39, m_40, m_41, m_42, m_43, m_44, m_45, m_46, m_47, m_48, m_49, m_50, m_51, m_52, m_53, m_54, m_55, m_56, m_57, m_58, m_59])] sz) := by
  refine Met.ofW (cc := cX12_ash) (maxL := 1) (ret := (some .int)) (by decide +kernel) rfl ?_
  intro p e s m args below meth c s₁ B hml hv
  obtain ⟨rfl, hsz, hP, hK, hD0, hN⟩ := hv
  have hx := B.exec
  have hb := B.bytes
  have hr := B.returns
  have hts := atoms_spec (ws := wsX12_ash) B.pre
  have hown : s.vm.findClass RX12 = some m.cls := findClass_of_methodNamed B.named
  have hlocks := B.notSynchronized
  subst hsz
  have hD := hD0.self (sz := s.heap.size)
  generalize hAe : va_A [(cc_O m0 12 [.int thr, m_1, m_2, m_3, m_4, m_5, m_6, m_7, m_8, m_9, m_10, .int as_, m_12, m_13, m_14, m_15, m_16, m_17, m_18, m_19, m_20, m_21, m_22, m_23, m_24, m_25, m_26, m_27, m_28, m_29, m_30, m_31, m_32, m_33, m_34, m_35, m_36, m_37, m_38, m_39, m_40, m_41, m_42, m_43, m_44, m_45, m_46, m_47, m_48, m_49, m_50, m_51, m_52, m_53, m_54, m_55, m_56, m_57, m_58, m_59])] s.heap.size = A at hD ⊢
  have hA : ∀ q : Nat, s.heap.size ≤ q → A q := fun q h => by rw [← hAe]; exact Or.inr h
  clear hAe
  have hS : va_S A s.heap s.heap [] := va_S.rf
  replace hP : va_P D vwCl [(cc_O m0 12 [.int thr, m_1, m_2, m_3, m_4, m_5, m_6, m_7, m_8, m_9, m_10, .int as_, m_12, m_13, m_14, m_15, m_16, m_17, m_18, m_19, m_20, m_21, m_22, m_23, m_24, m_25, m_26, m_27, m_28, m_29, m_30, m_31, m_32, m_33, m_34, m_35, m_36, m_37, m_38, m_39, m_40, m_41, m_42, m_43, m_44, m_45, m_46, m_47, m_48, m_49, m_50, m_51, m_52, m_53, m_54, m_55, m_56, m_57, m_58, m_59])] s.heap := hP
  have hl := lv_entry [.ref m0] (n := 1) (Nat.le_of_ble_eq_true rfl)
  rw [lg_entry_eq]
  generalize (lg_sl [.ref m0] ++ List.replicate (1 - (lg_sl [.ref m0]).length) Slot.unset).toArray = ls at hl ⊢
  have hl : lv_has ls 1 [(0, .ref m0)] := hl
  have hw12 : ∀ w ∈ wsX120, w ∈ wsX12_ash := fun w h => (List.mem_cons_of_mem _ (List.mem_append_right _ h))
  generalize hQ : MQ below _ _ s _ _ _ = Q
  have hE := E_v_ash.eq_def thr as_
  refine lv_aload_n hx hb dX12_ash_0 rfl (lv_at hl 0 rfl) (lv_iconst (v := 0) hx hb dX12_ash_1 (by decide +kernel) (va_put (ci := 12) (v := .int 0) (ty := .int) (C := RX12) (T := TX12) (N := 60) hx hb hts hw12 tyX12 tyX12_ok nmX12 hown hK hP hD hS 0 rfl rfl 0 (by decide +kernel) (hts _ mm_X12_ash_830) (fun _ h9 => h9) rfl (by decide +kernel) (by first | rfl | decide) (by first | rfl | decide) (Nat.le_of_ble_eq_true rfl) dX12_ash_2 (fun H locs hP0 hD0 hS0 => ?_)))
  replace hP : va_P D vwCl [(cc_O m0 12 [.int 0, m_1, m_2, m_3, m_4, m_5, m_6, m_7, m_8, m_9, m_10, .int as_, m_12, m_13, m_14, m_15, m_16, m_17, m_18, m_19, m_20, m_21, m_22, m_23, m_24, m_25, m_26, m_27, m_28, m_29, m_30, m_31, m_32, m_33, m_34, m_35, m_36, m_37, m_38, m_39, m_40, m_41, m_42, m_43, m_44, m_45, m_46, m_47, m_48, m_49, m_50, m_51, m_52, m_53, m_54, m_55, m_56, m_57, m_58, m_59])] H := hP0
  replace hD := as_D hP hD0 rfl
  replace hS := hS0
  clear hP0 hD0 hS0
  refine lv_aload_n hx hb dX12_ash_5 rfl (lv_at hl 0 rfl) (va_get (ci := 12) (v := .int as_) (C := RX12) (T := TX12) (N := 60) hx hb hts hw12 hown hK hP 0 rfl rfl 11 (by decide +kernel) (hts _ mm_X12_ash_841) (fun _ h9 => h9) rfl dX12_ash_6 ?_)
  rw [← hQ]
  have hP9 := hP.sub (ws' := [(cc_O m0 12 [.int 0, m_1, m_2, m_3, m_4, m_5, m_6, m_7, m_8, m_9, m_10, .int as_, m_12, m_13, m_14, m_15, m_16, m_17, m_18, m_19, m_20, m_21, m_22, m_23, m_24, m_25, m_26, m_27, m_28, m_29, m_30, m_31, m_32, m_33, m_34, m_35, m_36, m_37, m_38, m_39, m_40, m_41, m_42, m_43, m_44, m_45, m_46, m_47, m_48, m_49, m_50, m_51, m_52, m_53, m_54, m_55, m_56, m_57, m_58, m_59])]) [0] rfl
  have hD9 := sub_D hP9 hD [0] (by decide +kernel) rfl
  exact W.iret (v := as_) hx hb hr (fun t ht hW => ⟨⟨as_, ((fun _ => 0, fun _ => fun _ => 0, fun _ => fun _ => 0, fun _ => 0, fun _ => 0, fun _ => fun _ => none) : Su), rfl, ⟨hE.symm, trivial⟩, (⟨by rw [ht]; exact hP9, hD9⟩ : Wd D A _ t)⟩, hS.F ht⟩) hS.2.2 dX12_ash_9
set_option maxRecDepth 100000 in
noncomputable def E_v_four_l3 (x : Int32) (rec_202 : Int32 → Int32 → (Nat → Int32) → (Int32 × (Nat → Int32))) (v_184 : Int32) (v_185 : Int32) (f_186 : Nat → Int32) : Int32 × (Nat → Int32) :=
  if v_184 < 0 then (((v_185, f_186) : Int32 × (Nat → Int32))) else (Lt (x >>> (v_184 &&& 31) : Int32) (fun x_205 => Lt (x_205 &&& 255 : Int32) (fun x_206 => Lt (upd f_186 (v_185 : Int32).toNatClampNeg x_206 : Nat → Int32) (fun f_207 => Lt (v_185 + 1 : Int32) (fun x_208 => Lt (v_184 + Int32.ofInt (-8) : Int32) (fun x_209 => rec_202 x_209 x_208 f_207))))))
set_option maxRecDepth 100000 in
noncomputable def E_v_four (x : Int32) (ta : Int32) (ft : Nat → Int32) : Int32 × (Nat → Int32) :=
  Lp (α := Int32 → Int32 → (Nat → Int32) → (Int32 × (Nat → Int32))) (E_v_four_l3 x) (fun _ _ _ => ((0, fun _ => 0) : Int32 × (Nat → Int32))) (((24 : Int32).toInt - (-9) : Int).toNat + 1) 24 ta ft
set_option maxHeartbeats 4000000 in
set_option maxRecDepth 100000 in
theorem v_four (l : Launch) (D : va_G) (K : Nat → ClassId) (m0 : Nat) (x : Int32) (m_0 : Value) (m_1 : Value) (m_2 : Value) (m_3 : Value) (m_4 : Value) (m_5 : Value) (m_6 : Value) (m_7 : Value) (m_8 : Value) (m_9 : Value) (m_10 : Value) (m_11 : Value) (t0 : Nat) (ta : Int32) (m_14 : Value) (m_15 : Value) (m_16 : Value) (m_17 : Value) (m_18 : Value) (m_19 : Value) (m_20 : Value) (m_21 : Value) (m_22 : Value) (m_23 : Value) (m_24 : Value) (m_25 : Value) (m_26 : Value) (m_27 : Value) (m_28 : Value) (m_29 : Value) (m_30 : Value) (m_31 : Value) (m_32 : Value) (m_33 : Value) (m_34 : Value) (m_35 : Value) (m_36 : Value) (m_37 : Value) (m_38 : Value) (m_39 : Value) (m_40 : Value) (m_41 : Value) (m_42 : Value) (m_43 : Value) (m_44 : Value) (m_45 : Value) (m_46 : Value) (m_47 : Value) (m_48 : Value) (m_49 : Value) (m_50 : Value) (m_51 : Value) (m_52 : Value) (m_53 : Value) (m_54 : Value) (m_55 : Value) (m_56 : Value) (m_57 : Value) (m_58 : Value) (m_59 : Value) (ft : Nat → Int32) (sz : Nat) (zta : 0 ≤ ta.toInt ∧ ta.toInt ≤ 396) : Met l yX12_four wsX12_four ({ frames := 0, cells := 0, slots := 0, locals := 0 }) (va_Pc [.ref m0, .int x] (Pre D K [(cc_O m0 12 [m_0, m_1, m_2, m_3, m_4, m_5, m_6, m_7, m_8, m_9, m_10, m_11, .ref t0, .int ta, m_14, m_15, m_16, m_17, m_18, m_19, m_20, m_21, m_22, m_23, m_24, m_25, m_26, m_27, m_28, m_29, m_30, m_31, m_32, m_33, m_34, m_35, m_36, m_37, m_38, m_39, m_40, m_41, m_42, m_43, m_44, m_45, m_46, m_47, m_48, m_49, m_50, m_51, m_52, m_53, m_54, m_55, m_56, m_57, m_58, m_59]), (cc_l t0 (K 0) 400 ft)] sz)) (va_Qv (S := Su) (fun (u : Su) => (0 ≤ (u.2.2.2.1 0).toInt ∧ (u.2.2.2.1 0).toInt ≤ 400) ∧ ((u.2.2.2.1 0).toInt = ta.toInt + 4) ∧ (((u.2.2.2.1 0), (u.2.1 0)) = E_v_four x ta ft) ∧ True) (fun u t => Wd D (va_A [(cc_O m0 12 [m_0, m_1, m_2, m_3, m_4, m_5, m_6, m_7, m_8, m_9, m_10, m_11, .ref t0, .int ta, m_14, m_15, m_16, m_17, m_18, m_19, m_20, m_21, m_22, m_23, m_24, m_25, m_26, m_27, m_28, m_29, m_30, m_31, m_32, m_33, m_34, m_35, m_36, m_37, m_38, m_39, m_40, m_41, m_42, m_43, m_44, m_45, m_46, m_47, m_48, m_49, m_50, m_51, m_52, m_53, m_54, m_55, m_56, m_57, m_58, m_59]), (cc_l t0 (K 0) 400 ft)] sz) ((fun u => [(cc_O m0 12 [m_0, m_1, m_2, m_3, m_4, m_5, m_6, m_7, m_8, m_9, m_10, m_11, .ref t0, .int (u.2.2.2.1 0), m_14, m_15, m_16, m_17, m_18, m_19, m_20, m_21, m_22, m_23, m_24, m_25, m_26, m_27, m_28, m_29, m_30, m_31, m_32, m_33, m_34, m_35, m_36, m_37, m_38, m_39, m_40, m_41, m_42, m_43, m_44, m_45, m_46, m_47, m_48, m_49, m_50, m_51, m_52, m_53, m_54, m_55, m_56, m_57, m_58, m_59]), (cc_l t0 (K 0) 400 (u.2.1 0))]) u) t) (va_A [(cc_O m0 12 [m_0, m_1, m_2, m_3, m_4, m_5, m_6, m_7, m_8, m_9, m_10, m_11, .ref t0, .int ta, m_14, m_15, m_16, m_17, m_18, m_19, m_20, m_21, m_22, m_23, m_24, m_25, m_26, m_27, m_28, m_29, m_30, m_31, m_32, m_33, m_34, m_35, m_36, m_37, m_38, m_39, m_40, m_41, m_42, m_43, m_44, m_45, m_46, m_47, m_48, m_49, m_50, m_51, m_52, m_53, m_54, m_55, m_56, m_57, m_58, m_59]), (cc_l t0 (K 0) 400 ft)] sz)) 0 0 (va_A [(cc_O m0 12 [m_0, m_1, m_2, m_3, m_4, m_5, m_6, m_7, m_8, m_9, m_10, m_11, .ref t0, .int ta, m_14, m_15, m_16, m_17, m_18, m_19, m_20, m_21, m_22, m_23, m_24, m_25, m_26, m_27, m_28, m_29, m_30, m_31, m_32, m_33, m_34, m_35, m_36, m_37, m_38, m_39, m_40, m_41, m_42, m_43, m_44, m_45, m_46, m_47, m_48, m_49, m_50, m_51, m_52, m_53, m_54, m_55, m_56, m_57, m_58, m_59]), (cc_l t0 (K 0) 400 ft)] sz) := by
  refine Met.ofW (cc := cX12_four) (maxL := 3) (ret := none) (by decide +kernel) rfl ?_
  intro p e s m args below meth c s₁ B hml hv
  obtain ⟨rfl, hsz, hP, hK, hD0, hN⟩ := hv
  have hx := B.exec
  have hb := B.bytes
  have hr := B.returns
  have hts := atoms_spec (ws := wsX12_four) B.pre
  have hown : s.vm.findClass RX12 = some m.cls := findClass_of_methodNamed B.named
  have hlocks := B.notSynchronized
  subst hsz
  have hD := hD0.self (sz := s.heap.size)
  generalize hAe : va_A [(cc_O m0 12 [m_0, m_1, m_2, m_3, m_4, m_5, m_6, m_7, m_8, m_9, m_10, m_11, .ref t0, .int ta, m_14, m_15, m_16, m_17, m_18, m_19, m_20, m_21, m_22, m_23, m_24, m_25, m_26, m_27, m_28, m_29, m_30, m_31, m_32, m_33, m_34, m_35, m_36, m_37, m_38, m_39, m_40, m_41, m_42, m_43, m_44, m_45, m_46, m_47, m_48, m_49, m_50, m_51, m_52, m_53, m_54, m_55, m_56, m_57, m_58, m_59]), (cc_l t0 (K 0) 400 ft)] s.heap.size = A at hD ⊢
  have hA : ∀ q : Nat, s.heap.size ≤ q → A q := fun q h => by rw [← hAe]; exact Or.inr h
  clear hAe
  have hS : va_S A s.heap s.heap [] := va_S.rf
  replace hP : va_P D vwCl [(cc_O m0 12 [m_0, m_1, m_2, m_3, m_4, m_5, m_6, m_7, m_8, m_9, m_10, m_11, .ref t0, .int ta, m_14, m_15, m_16, m_17, m_18, m_19, m_20, m_21, m_22, m_23, m_24, m_25, m_26, m_27, m_28, m_29, m_30, m_31, m_32, m_33, m_34, m_35, m_36, m_37, m_38, m_39, m_40, m_41, m_42, m_43, m_44, m_45, m_46, m_47, m_48, m_49, m_50, m_51, m_52, m_53, m_54, m_55, m_56, m_57, m_58, m_59]), (cc_l t0 (K 0) 400 ft)] s.heap := hP
  have hl := lv_entry [.ref m0, .int x] (n := 3) (Nat.le_of_ble_eq_true rfl)
  rw [lg_entry_eq]
  generalize (lg_sl [.ref m0, .int x] ++ List.replicate (3 - (lg_sl [.ref m0, .int x]).length) Slot.unset).toArray = ls at hl ⊢
  have hl : lv_has ls 3 [(0, .ref m0), (1, .int x)] := hl
  have hw12 : ∀ w ∈ wsX120, w ∈ wsX12_four := fun w h => (List.mem_cons_of_mem _ (List.mem_append_right _ h))
  generalize hQ : MQ below _ _ s _ _ _ = Q
  have hE := E_v_four.eq_def x ta ft
  refine lv_bipush (v := 24) hx hb dX12_four_0 (by decide +kernel) (lv_istore_n (lv' := [(2, .int 24), (0, .ref m0), (1, .int x)]) hx hb dX12_four_2 rfl hl (by decide +kernel) rfl (fun ls hl => ?_))
  have lp_202 : ∀ (nn_ : Nat) (v_184 : Int32) (v_185 : Int32) (f_186 : Nat → Int32) (hv_184 : (-8) ≤ v_184.toInt ∧ v_184.toInt ≤ 24) (hv_185 : 0 ≤ v_185.toInt ∧ v_185.toInt ≤ 400) (hr0_lp_202 : 8 * (v_185.toInt - ta.toInt) = 24 - v_184.toInt ∧ -8 ≤ v_184.toInt) (hn : (v_184.toInt - (-9) : Int).toNat < nn_) (hE : E_v_four x ta ft = Lp (α := Int32 → Int32 → (Nat → Int32) → (Int32 × (Nat → Int32))) (E_v_four_l3 x) (fun _ _ _ => ((0, fun _ => 0) : Int32 × (Nat → Int32))) nn_ v_184 v_185 f_186) (H : Heap) (locs : List Loc) (hP : va_P D vwCl [(cc_O m0 12 [m_0, m_1, m_2, m_3, m_4, m_5, m_6, m_7, m_8, m_9, m_10, m_11, .ref t0, .int v_185, m_14, m_15, m_16, m_17, m_18, m_19, m_20, m_21, m_22, m_23, m_24, m_25, m_26, m_27, m_28, m_29, m_30, m_31, m_32, m_33, m_34, m_35, m_36, m_37, m_38, m_39, m_40, m_41, m_42, m_43, m_44, m_45, m_46, m_47, m_48, m_49, m_50, m_51, m_52, m_53, m_54, m_55, m_56, m_57, m_58, m_59]), (cc_l t0 (K 0) 400 f_186)] H) (hD : va_D A [(cc_O m0 12 [m_0, m_1, m_2, m_3, m_4, m_5, m_6, m_7, m_8, m_9, m_10, m_11, .ref t0, .int v_185, m_14, m_15, m_16, m_17, m_18, m_19, m_20, m_21, m_22, m_23, m_24, m_25, m_26, m_27, m_28, m_29, m_30, m_31, m_32, m_33, m_34, m_35, m_36, m_37, m_38, m_39, m_40, m_41, m_42, m_43, m_44, m_45, m_46, m_47, m_48, m_49, m_50, m_51, m_52, m_53, m_54, m_55, m_56, m_57, m_58, m_59]), (cc_l t0 (K 0) 400 f_186)]) (hS : va_S A s.heap H locs) (ls : Array Slot) (hl : lv_has ls 3 [(2, .int v_184), (0, .ref m0), (1, .int x)]), W p l e ({ frames := 0, cells := 0, slots := 0, locals := 0 }) s m (([.ref m0, .int x] : List Value).toArray) below meth c H locs 0 0 Q (F0 m 3 ls []) := by
    clear hE hP hD hS hl
    intro nn_
    induction nn_ with
    | zero =>
      intro v_184 v_185 f_186 hv_184 hv_185 hr0_lp_202 hn hE H locs hP hD hS ls hl
      exact absurd hn (Nat.not_lt_zero _)
    | succ nn_ ih_203 =>
      intro v_184 v_185 f_186 hv_184 hv_185 hr0_lp_202 hn hE H locs hP hD hS ls hl
      replace hE : E_v_four x ta ft = E_v_four_l3 x (Lp (α := Int32 → Int32 → (Nat → Int32) → (Int32 × (Nat → Int32))) (E_v_four_l3 x) (fun _ _ _ => ((0, fun _ => 0) : Int32 × (Nat → Int32))) nn_) v_184 v_185 f_186 := hE
      obtain ⟨rec_202, hrec_202⟩ : ∃ z9, z9 = Lp (α := Int32 → Int32 → (Nat → Int32) → (Int32 × (Nat → Int32))) (E_v_four_l3 x) (fun _ _ _ => ((0, fun _ => 0) : Int32 × (Nat → Int32))) nn_ := ⟨_, rfl⟩
      rw [← hrec_202] at hE
      replace hE := hE.trans (E_v_four_l3.eq_def _ _ _ _ _)
      refine lv_iload_n hx hb dX12_four_3 rfl (lv_at hl 0 rfl) (lv_if_lt (tgt := 39) hx hb dX12_four_4 (by decide +kernel) (fun c_204 => ?_) (fun c_204 => ?_))
      · have c_204i := i_lt (x := v_184.toInt) (y := 0) rfl rfl c_204
        replace hE := hE.trans (if_pos c_204)
        rw [← hQ]
        have hP9 := hP.sub (ws' := [(cc_O m0 12 [m_0, m_1, m_2, m_3, m_4, m_5, m_6, m_7, m_8, m_9, m_10, m_11, .ref t0, .int v_185, m_14, m_15, m_16, m_17, m_18, m_19, m_20, m_21, m_22, m_23, m_24, m_25, m_26, m_27, m_28, m_29, m_30, m_31, m_32, m_33, m_34, m_35, m_36, m_37, m_38, m_39, m_40, m_41, m_42, m_43, m_44, m_45, m_46, m_47, m_48, m_49, m_50, m_51, m_52, m_53, m_54, m_55, m_56, m_57, m_58, m_59]), (cc_l t0 (K 0) 400 f_186)]) [0, 1] rfl
        have hD9 := sub_D hP9 hD [0, 1] (by decide +kernel) rfl
        exact W.vret hx hb hr (fun t ht hW => ⟨⟨((fun _ => 0, fun i => match i with | _ => f_186, fun _ => fun _ => 0, fun i => match i with | _ => v_185, fun _ => 0, fun _ => fun _ => none) : Su), rfl, ⟨(show 0 ≤ (v_185 : Int32).toInt ∧ (v_185 : Int32).toInt ≤ 400 by omega), (show (v_185 : Int32).toInt = ta.toInt + 4 by omega), hE.symm, trivial⟩, (⟨by rw [ht]; exact hP9, hD9⟩ : Wd D A _ t)⟩, hS.F ht⟩) hS.2.2 dX12_four_39
      · have c_204i := i_nlt (x := v_184.toInt) (y := 0) rfl rfl c_204
        replace hE := hE.trans (if_neg c_204)
        refine lv_aload_n hx hb dX12_four_7 rfl (lv_at hl 1 rfl) (va_get (ci := 12) (v := .ref t0) (C := RX12) (T := TX12) (N := 60) hx hb hts hw12 hown hK hP 0 rfl rfl 12 (by decide +kernel) (hts _ mm_X12_four_842) (fun _ h9 => h9) rfl dX12_four_8 (lv_aload_n hx hb dX12_four_11 rfl (lv_at hl 1 rfl) (va_get (ci := 12) (v := .int v_185) (C := RX12) (T := TX12) (N := 60) hx hb hts hw12 hown hK hP 0 rfl rfl 13 (by decide +kernel) (hts _ mm_X12_four_843) (fun _ h9 => h9) rfl dX12_four_12 (lv_iload_n hx hb dX12_four_15 rfl (lv_at hl 2 rfl) (lv_iload_n hx hb dX12_four_16 rfl (lv_at hl 0 rfl) (lv_ishr hx hb dX12_four_17 (lv_topi (fun x_205 ex_205 => ?_))))))))
        replace hE := hE.trans (Lt_in ex_205)
        refine lv_sipush (v := 255) hx hb dX12_four_18 (by decide +kernel) (lv_iand hx hb dX12_four_21 (lv_topi (fun x_206 ex_206 => ?_)))
        replace hE := hE.trans (Lt_in ex_206)
        have hx_206 : 0 ≤ x_206.toInt ∧ x_206.toInt ≤ 255 := by rw [ex_206]; exact i_mask x_205 8 rfl (by decide +kernel)
        refine va_iast hx hb hK hP hD hS 1 0 rfl rfl (i_in rfl (by omega)) dX12_four_22 (fun H locs hP0 hD0 hS0 => ?_)
        replace hP := hP0
        replace hD := hD0
        replace hS := hS0
        clear hP0 hD0 hS0
        generalize hf_207 : (upd f_186 (v_185 : Int32).toNatClampNeg x_206) = f_207 at hP hD
        replace hE := hE.trans (Lt_in hf_207.symm)
        replace hP : va_P D vwCl [(cc_O m0 12 [m_0, m_1, m_2, m_3, m_4, m_5, m_6, m_7, m_8, m_9, m_10, m_11, .ref t0, .int v_185, m_14, m_15, m_16, m_17, m_18, m_19, m_20, m_21, m_22, m_23, m_24, m_25, m_26, m_27, m_28, m_29, m_30, m_31, m_32, m_33, m_34, m_35, m_36, m_37, m_38, m_39, m_40, m_41, m_42, m_43, m_44, m_45, m_46, m_47, m_48, m_49, m_50, m_51, m_52, m_53, m_54, m_55, m_56, m_57, m_58, m_59]), (cc_l t0 (K 0) 400 f_207)] H := hP
        replace hD := as_D hP hD rfl
        refine lv_aload_n hx hb dX12_four_23 rfl (lv_at hl 1 rfl) (lv_dup hx hb dX12_four_24 rfl (va_get (ci := 12) (v := .int v_185) (C := RX12) (T := TX12) (N := 60) hx hb hts hw12 hown hK hP 0 rfl rfl 13 (by decide +kernel) (hts _ mm_X12_four_843) (fun _ h9 => h9) rfl dX12_four_25 (lv_iconst (v := 1) hx hb dX12_four_28 (by decide +kernel) (lv_iadd hx hb dX12_four_29 (lv_topi (fun x_208 ex_208 => ?_))))))
        replace hE := hE.trans (Lt_in ex_208)
        have hx_208 : x_208.toInt = (v_185.toInt + 1) := by rw [ex_208]; exact i_add rfl (show (1 : Int32).toInt = 1 from rfl) (by omega)
        refine va_put (ci := 12) (v := .int x_208) (ty := .int) (C := RX12) (T := TX12) (N := 60) hx hb hts hw12 tyX12 tyX12_ok nmX12 hown hK hP hD hS 0 rfl rfl 13 (by decide +kernel) (hts _ mm_X12_four_843) (fun _ h9 => h9) rfl (by decide +kernel) (by first | rfl | decide) (by first | rfl | decide) (Nat.le_of_ble_eq_true rfl) dX12_four_30 (fun H locs hP0 hD0 hS0 => ?_)
        replace hP : va_P D vwCl [(cc_O m0 12 [m_0, m_1, m_2, m_3, m_4, m_5, m_6, m_7, m_8, m_9, m_10, m_11, .ref t0, .int x_208, m_14, m_15, m_16, m_17, m_18, m_19, m_20, m_21, m_22, m_23, m_24, m_25, m_26, m_27, m_28, m_29, m_30, m_31, m_32, m_33, m_34, m_35, m_36, m_37, m_38, m_39, m_40, m_41, m_42, m_43, m_44, m_45, m_46, m_47, m_48, m_49, m_50, m_51, m_52, m_53, m_54, m_55, m_56, m_57, m_58, m_59]), (cc_l t0 (K 0) 400 f_207)] H := hP0
        replace hD := as_D hP hD0 rfl
        replace hS := hS0
        clear hP0 hD0 hS0
        obtain ⟨x_209, ex_209⟩ : ∃ y : Int32, y = v_184 + Int32.ofInt (-8) := ⟨_, rfl⟩
        replace hE := hE.trans (Lt_in ex_209)
        have hx_209 : x_209.toInt = (v_184.toInt + (-8)) := by rw [ex_209]; exact i_add rfl (show (Int32.ofInt (-8)).toInt = (-8) from rfl) (by omega)
        refine lv_iinc (v := x_209) (lv' := [(2, .int x_209), (0, .ref m0), (1, .int x)]) hx hb dX12_four_33 hl (k := 0) rfl (by rw [ex_209]) (by decide +kernel) rfl (fun ls hl => ?_)
        refine lv_goto (tgt := 3) hx hb dX12_four_36 (by decide +kernel) ?_
        exact ih_203 x_209 x_208 f_207 (by rw [hx_209]; omega) (by rw [hx_208]; omega) (show 8 * ((x_208 : Int32).toInt - ta.toInt) = 24 - (x_209 : Int32).toInt ∧ -8 ≤ (x_209 : Int32).toInt by omega) (by omega) (hE.trans (by rw [hrec_202])) _ _ hP hD hS ls (lv_sub hl [0, 1, 2] rfl)
  have hz_210 : (24 : Int32).toInt = 24 := rfl
  exact lp_202 (((24 : Int32).toInt - (-9) : Int).toNat + 1) 24 ta ft (by decide +kernel) (by omega) (show 8 * ((ta : Int32).toInt - ta.toInt) = 24 - (24 : Int32).toInt ∧ -8 ≤ (24 : Int32).toInt by omega) (Nat.lt_succ_self _) hE _ _ hP hD hS ls (lv_sub hl [0, 1, 2] rfl)
set_option maxRecDepth 100000 in
noncomputable def E_v_feed (x0 : Int32) (x1 : Int32) (x2 : Int32) (x3 : Int32) (x4 : Int32) (thr : Int32) (ta : Int32) (ft : Nat → Int32) : Int32 × Int32 × (Nat → Int32) :=
  Lt (ta + 20 : Int32) (fun x_115 => if x_115 ≤ 400 then (Lt2 (E_v_four x0 ta ft) (fun u_118_2_2_2_1_0 u_118_2_1_0 => Lt2 (E_v_four x1 u_118_2_2_2_1_0 u_118_2_1_0) (fun u_123_2_2_2_1_0 u_123_2_1_0 => Lt2 (E_v_four x2 u_123_2_2_2_1_0 u_123_2_1_0) (fun u_128_2_2_2_1_0 u_128_2_1_0 => Lt2 (E_v_four x3 u_128_2_2_2_1_0 u_128_2_1_0) (fun u_133_2_2_2_1_0 u_133_2_1_0 => Lt2 (E_v_four x4 u_133_2_2_2_1_0 u_133_2_1_0) (fun u_138_2_2_2_1_0 u_138_2_1_0 => ((u_138_2_2_2_1_0, u_138_2_2_2_1_0, u_138_2_1_0) : Int32 × Int32 × (Nat → Int32)))))))) else ((((-1), ta, ft) : Int32 × Int32 × (Nat → Int32))))
set_option maxHeartbeats 4000000 in
set_option maxRecDepth 100000 in
theorem v_feed (l : Launch) (D : va_G) (K : Nat → ClassId) (m0 : Nat) (x0 : Int32) (x1 : Int32) (x2 : Int32) (x3 : Int32) (x4 : Int32) (thr : Int32) (m_1 : Value) (m_2 : Value) (m_3 : Value) (m_4 : Value) (m_5 : Value) (m_6 : Value) (m_7 : Value) (m_8 : Value) (m_9 : Value) (m_10 : Value) (m_11 : Value) (t0 : Nat) (ta : Int32) (m_14 : Value) (m_15 : Value) (m_16 : Value) (m_17 : Value) (m_18 : Value) (m_19 : Value) (m_20 : Value) (m_21 : Value) (m_22 : Value) (m_23 : Value) (m_24 : Value) (m_25 : Value) (m_26 : Value) (m_27 : Value) (m_28 : Value) (m_29 : Value) (m_30 : Value) (m_31 : Value) (m_32 : Value) (m_33 : Value) (m_34 : Value) (m_35 : Value) (m_36 : Value) (m_37 : Value) (m_38 : Value) (m_39 : Value) (m_40 : Value) (m_41 : Value) (m_42 : Value) (m_43 : Value) (m_44 : Value) (m_45 : Value) (m_46 : Value) (m_47 : Value) (m_48 : Value) (m_49 : Value) (m_50 : Value) (m_51 : Value) (m_52 : Value) (m_53 : Value) (m_54 : Value) (m_55 : Value) (m_56 : Value) (m_57 : Value) (m_58 : Value) (m_59 : Value) (ft : Nat → Int32) (sz : Nat) (zta : 0 ≤ ta.toInt ∧ ta.toInt ≤ 400) : Met l yX12_feed wsX12_feed ({ frames := 1, cells := 0, slots := 0, locals := 22 }) (va_Pc [.ref m0, .int x0, .int x1, .int x2, .int x3, .int x4] (Pre D K [(cc_O m0 12 [.int thr, m_1, m_2, m_3, m_4, m_5, m_6, m_7, m_8, m_9, m_10, m_11, .ref t0, .int ta, m_14, m_15, m_16, m_17, m_18, m_19, m_20, m_21, m_22, m_23, m_24, m_25, m_26, m_27, m_28, m_29, m_30, m_31, m_32, m_33, m_34, m_35, m_36, m_37, m_38, m_39, m_40, m_41, m_42, m_43, m_44, m_45, m_46, m_47, m_48, m_49, m_50, m_51, m_52, m_53, m_54, m_55, m_56, m_57, m_58, m_59]), (cc_l t0 (K 0) 400 ft)] sz)) (va_Qi (S := Su) (fun (r : Int32) (u : Su) => ((-1) ≤ r.toInt ∧ r.toInt ≤ 400) ∧ (0 ≤ (u.2.2.2.1 0).toInt ∧ (u.2.2.2.1 0).toInt ≤ 400) ∧ (((400 < ta.toInt + 20 ∧ (u.2.2.2.1 0).toInt = ta.toInt) ∨ (ta.toInt + 20 ≤ 400 ∧ (u.2.2.2.1 0).toInt = ta.toInt + 20))) ∧ ((r, (u.2.2.2.1 0), (u.2.1 0)) = E_v_feed x0 x1 x2 x3 x4 thr ta ft) ∧ True) (fun u t => Wd D (va_A [(cc_O m0 12 [.int thr, m_1, m_2, m_3, m_4, m_5, m_6, m_7, m_8, m_9, m_10, m_11, .ref t0, .int ta, m_14, m_15, m_16, m_17, m_18, m_19, m_20, m_21, m_22, m_23, m_24, m_25, m_26, m_27, m_28, m_29, m_30, m_31, m_32, m_33, m_34, m_35, m_36, m_37, m_38, m_39, m_40, m_41, m_42, m_43, m_44, m_45, m_46, m_47, m_48, m_49, m_50, m_51, m_52, m_53, m_54, m_55, m_56, m_57, m_58, m_59]), (cc_l t0 (K 0) 400 ft)] sz) ((fun u => [(cc_O m0 12 [.int 0, m_1, m_2, m_3, m_4, m_5, m_6, m_7, m_8, m_9, m_10, m_11, .ref t0, .int (u.2.2.2.1 0), m_14, m_15, m_16, m_17, m_18, m_19, m_20, m_21, m_22, m_23, m_24, m_25, m_26, m_27, m_28, m_29, m_30, m_31, m_32, m_33, m_34, m_35, m_36, m_37, m_38, m_39, m_40, m_41, m_42, m_43, m_44, m_45, m_46, m_47, m_48, m_49, m_50, m_51, m_52, m_53, m_54, m_55, m_56, m_57, m_58, m_59]), (cc_l t0 (K 0) 400 (u.2.1 0))]) u) t) (va_A [(cc_O m0 12 [.int thr, m_1, m_2, m_3, m_4, m_5, m_6, m_7, m_8, m_9, m_10, m_11, .ref t0, .int ta, m_14, m_15, m_16, m_17, m_18, m_19, m_20, m_21, m_22, m_23, m_24, m_25, m_26, m_27, m_28, m_29, m_30, m_31, m_32, m_33, m_34, m_35, m_36, m_37, m_38, m_39, m_40, m_41, m_42, m_43, m_44, m_45, m_46, m_47, m_48, m_49, m_50, m_51, m_52, m_53, m_54, m_55, m_56, m_57, m_58, m_59]), (cc_l t0 (K 0) 400 ft)] sz)) 0 0 (va_A [(cc_O m0 12 [.int thr, m_1, m_2, m_3, m_4, m_5, m_6, m_7, m_8, m_9, m_10, m_11, .ref t0, .int ta, m_14, m_15, m_16, m_17, m_18, m_19, m_20, m_21, m_22, m_23, m_24, m_25, m_26, m_27, m_28, m_29, m_30, m_31, m_32, m_33, m_34, m_35, m_36, m_37, m_38, m_39, m_40, m_41, m_42, m_43, m_44, m_45, m_46, m_47, m_48, m_49, m_50, m_51, m_52, m_53, m_54, m_55, m_56, m_57, m_58, m_59]), (cc_l t0 (K 0) 400 ft)] sz) := by
  refine Met.ofW (cc := cX12_feed) (maxL := 6) (ret := (some .int)) (by decide +kernel) rfl ?_
  intro p e s m args below meth c s₁ B hml hv
  obtain ⟨rfl, hsz, hP, hK, hD0, hN⟩ := hv
  have hx := B.exec
  have hb := B.bytes
  have hr := B.returns
  have hts := atoms_spec (ws := wsX12_feed) B.pre
  have hown : s.vm.findClass RX12 = some m.cls := findClass_of_methodNamed B.named
  have hlocks := B.notSynchronized
  subst hsz
  have hD := hD0.self (sz := s.heap.size)
  generalize hAe : va_A [(cc_O m0 12 [.int thr, m_1, m_2, m_3, m_4, m_5, m_6, m_7, m_8, m_9, m_10, m_11, .ref t0, .int ta, m_14, m_15, m_16, m_17, m_18, m_19, m_20, m_21, m_22, m_23, m_24, m_25, m_26, m_27, m_28, m_29, m_30, m_31, m_32, m_33, m_34, m_35, m_36, m_37, m_38, m_39, m_40, m_41, m_42, m_43, m_44, m_45, m_46, m_47, m_48, m_49, m_50, m_51, m_52, m_53, m_54, m_55, m_56, m_57, m_58, m_59]), (cc_l t0 (K 0) 400 ft)] s.heap.size = A at hD ⊢
  have hA : ∀ q : Nat, s.heap.size ≤ q → A q := fun q h => by rw [← hAe]; exact Or.inr h
  clear hAe
  have hS : va_S A s.heap s.heap [] := va_S.rf
  replace hP : va_P D vwCl [(cc_O m0 12 [.int thr, m_1, m_2, m_3, m_4, m_5, m_6, m_7, m_8, m_9, m_10, m_11, .ref t0, .int ta, m_14, m_15, m_16, m_17, m_18, m_19, m_20, m_21, m_22, m_23, m_24, m_25, m_26, m_27, m_28, m_29, m_30, m_31, m_32, m_33, m_34, m_35, m_36, m_37, m_38, m_39, m_40, m_41, m_42, m_43, m_44, m_45, m_46, m_47, m_48, m_49, m_50, m_51, m_52, m_53, m_54, m_55, m_56, m_57, m_58, m_59]), (cc_l t0 (K 0) 400 ft)] s.heap := hP
  have hl := lv_entry [.ref m0, .int x0, .int x1, .int x2, .int x3, .int x4] (n := 6) (Nat.le_of_ble_eq_true rfl)
  rw [lg_entry_eq]
  generalize (lg_sl [.ref m0, .int x0, .int x1, .int x2, .int x3, .int x4] ++ List.replicate (6 - (lg_sl [.ref m0, .int x0, .int x1, .int x2, .int x3, .int x4]).length) Slot.unset).toArray = ls at hl ⊢
  have hl : lv_has ls 6 [(0, .ref m0), (1, .int x0), (2, .int x1), (3, .int x2), (4, .int x3), (5, .int x4)] := hl
  have hw12 : ∀ w ∈ wsX120, w ∈ wsX12_feed := fun w h => (List.mem_cons_of_mem _ (List.mem_append_right _ h))
  generalize hQ : MQ below _ _ s _ _ _ = Q
  have hE := E_v_feed.eq_def x0 x1 x2 x3 x4 thr ta ft
  refine lv_aload_n hx hb dX12_feed_0 rfl (lv_at hl 0 rfl) (lv_iconst (v := 0) hx hb dX12_feed_1 (by decide +kernel) (va_put (ci := 12) (v := .int 0) (ty := .int) (C := RX12) (T := TX12) (N := 60) hx hb hts hw12 tyX12 tyX12_ok nmX12 hown hK hP hD hS 0 rfl rfl 0 (by decide +kernel) (hts _ mm_X12_feed_830) (fun _ h9 => h9) rfl (by decide +kernel) (by first | rfl | decide) (by first | rfl | decide) (Nat.le_of_ble_eq_true rfl) dX12_feed_2 (fun H locs hP0 hD0 hS0 => ?_)))
  replace hP : va_P D vwCl [(cc_O m0 12 [.int 0, m_1, m_2, m_3, m_4, m_5, m_6, m_7, m_8, m_9, m_10, m_11, .ref t0, .int ta, m_14, m_15, m_16, m_17, m_18, m_19, m_20, m_21, m_22, m_23, m_24, m_25, m_26, m_27, m_28, m_29, m_30, m_31, m_32, m_33, m_34, m_35, m_36, m_37, m_38, m_39, m_40, m_41, m_42, m_43, m_44, m_45, m_46, m_47, m_48, m_49, m_50, m_51, m_52, m_53, m_54, m_55, m_56, m_57, m_58, m_59]), (cc_l t0 (K 0) 400 ft)] H := hP0
  replace hD := as_D hP hD0 rfl
  replace hS := hS0
  clear hP0 hD0 hS0
  refine lv_aload_n hx hb dX12_feed_5 rfl (lv_at hl 0 rfl) (va_get (ci := 12) (v := .int ta) (C := RX12) (T := TX12) (N := 60) hx hb hts hw12 hown hK hP 0 rfl rfl 13 (by decide +kernel) (hts _ mm_X12_feed_843) (fun _ h9 => h9) rfl dX12_feed_6 (lv_bipush (v := 20) hx hb dX12_feed_9 (by decide +kernel) (lv_iadd hx hb dX12_feed_11 (lv_topi (fun x_115 ex_115 => ?_)))))
  replace hE := hE.trans (Lt_in ex_115)
  have hx_115 : x_115.toInt = (ta.toInt + 20) := by rw [ex_115]; exact i_add rfl (show (20 : Int32).toInt = 20 from rfl) (by omega)
  refine lv_sipush (v := 400) hx hb dX12_feed_12 (by decide +kernel) (lv_icmp_le (tgt := 20) hx hb dX12_feed_15 (by decide +kernel) (fun c_116 => ?_) (fun c_116 => ?_))
  · have c_116i := i_le (x := (ta.toInt + 20)) (y := 400) hx_115 rfl c_116
    replace hE := hE.trans (if_pos c_116)
    refine lv_aload_n hx hb dX12_feed_20 rfl (lv_at hl 0 rfl) (lv_iload_n hx hb dX12_feed_21 rfl (lv_at hl 1 rfl) (kcv (S := Su) (wr := []) (va_runV (As := [.int x0]) (rest := []) ⟨hx, hb, hml, hown, hts⟩ (v_four l D K m0 x0 (.int 0) m_1 m_2 m_3 m_4 m_5 m_6 m_7 m_8 m_9 m_10 m_11 t0 ta m_14 m_15 m_16 m_17 m_18 m_19 m_20 m_21 m_22 m_23 m_24 m_25 m_26 m_27 m_28 m_29 m_30 m_31 m_32 m_33 m_34 m_35 m_36 m_37 m_38 m_39 m_40 m_41 m_42 m_43 m_44 m_45 m_46 m_47 m_48 m_49 m_50 m_51 m_52 m_53 m_54 m_55 m_56 m_57 m_58 m_59 ft H.size (by first | omega | decide)) (cwV 1 hts gX12_feed_X12_four rfl rfl rfl (by decide +kernel) ⟨Nat.le_of_ble_eq_true rfl, Nat.le_of_ble_eq_true rfl⟩) (mkV hK hN (hP.sub [0, 1] rfl) (hD.sub [0, 1] (by decide +kernel) rfl) (ci := 12) (q0 := 0) rfl rfl) rfl rfl hl.1 rfl (lv_room (Nat.le_of_ble_eq_true rfl)) dX12_feed_22 ⟨Nat.le_of_ble_eq_true rfl, Nat.le_of_ble_eq_true rfl⟩) hP hD hS hA [0, 1] [] rfl rfl (by decide +kernel) (by decide +kernel) (fun u_118 H locs hw hP0 hD0 hS0 => ?_)))
    replace hP : va_P D vwCl [(cc_O m0 12 [.int 0, m_1, m_2, m_3, m_4, m_5, m_6, m_7, m_8, m_9, m_10, m_11, .ref t0, .int (u_118.2.2.2.1 0), m_14, m_15, m_16, m_17, m_18, m_19, m_20, m_21, m_22, m_23, m_24, m_25, m_26, m_27, m_28, m_29, m_30, m_31, m_32, m_33, m_34, m_35, m_36, m_37, m_38, m_39, m_40, m_41, m_42, m_43, m_44, m_45, m_46, m_47, m_48, m_49, m_50, m_51, m_52, m_53, m_54, m_55, m_56, m_57, m_58, m_59]), (cc_l t0 (K 0) 400 (u_118.2.1 0))] H := hP0
    replace hD := as_D hP hD0 rfl
    replace hS := hS0
    clear hP0 hD0 hS0
    obtain ⟨k_119, k_120, k_121, -⟩ := hw
    replace hE := hE.trans (Lt2_in k_121)
    refine lv_aload_n hx hb dX12_feed_25 rfl (lv_at hl 0 rfl) (lv_iload_n hx hb dX12_feed_26 rfl (lv_at hl 2 rfl) (kcv (S := Su) (wr := []) (va_runV (As := [.int x1]) (rest := []) ⟨hx, hb, hml, hown, hts⟩ (v_four l D K m0 x1 (.int 0) m_1 m_2 m_3 m_4 m_5 m_6 m_7 m_8 m_9 m_10 m_11 t0 (u_118.2.2.2.1 0) m_14 m_15 m_16 m_17 m_18 m_19 m_20 m_21 m_22 m_23 m_24 m_25 m_26 m_27 m_28 m_29 m_30 m_31 m_32 m_33 m_34 m_35 m_36 m_37 m_38 m_39 m_40 m_41 m_42 m_43 m_44 m_45 m_46 m_47 m_48 m_49 m_50 m_51 m_52 m_53 m_54 m_55 m_56 m_57 m_58 m_59 (u_118.2.1 0) H.size (by first | omega | decide)) (cwV 1 hts gX12_feed_X12_four rfl rfl rfl (by decide +kernel) ⟨Nat.le_of_ble_eq_true rfl, Nat.le_of_ble_eq_true rfl⟩) (mkV hK hN (hP.sub [0, 1] rfl) (hD.sub [0, 1] (by decide +kernel) rfl) (ci := 12) (q0 := 0) rfl rfl) rfl rfl hl.1 rfl (lv_room (Nat.le_of_ble_eq_true rfl)) dX12_feed_27 ⟨Nat.le_of_ble_eq_true rfl, Nat.le_of_ble_eq_true rfl⟩) hP hD hS hA [0, 1] [] rfl rfl (by decide +kernel) (by decide +kernel) (fun u_123 H locs hw hP0 hD0 hS0 => ?_)))
    replace hP : va_P D vwCl [(cc_O m0 12 [.int 0, m_1, m_2, m_3, m_4, m_5, m_6, m_7, m_8, m_9, m_10, m_11, .ref t0, .int (u_123.2.2.2.1 0), m_14, m_15, m_16, m_17, m_18, m_19, m_20, m_21, m_22, m_23, m_24, m_25, m_26, m_27, m_28, m_29, m_30, m_31, m_32, m_33, m_34, m_35, m_36, m_37, m_38, m_39, m_40, m_41, m_42, m_43, m_44, m_45, m_46, m_47, m_48, m_49, m_50, m_51, m_52, m_53, m_54, m_55, m_56, m_57, m_58, m_59]), (cc_l t0 (K 0) 400 (u_123.2.1 0))] H := hP0
    replace hD := as_D hP hD0 rfl
    replace hS := hS0
    clear hP0 hD0 hS0
    obtain ⟨k_124, k_125, k_126, -⟩ := hw
    replace hE := hE.trans (Lt2_in k_126)
    refine lv_aload_n hx hb dX12_feed_30 rfl (lv_at hl 0 rfl) (lv_iload_n hx hb dX12_feed_31 rfl (lv_at hl 3 rfl) (kcv (S := Su) (wr := []) (va_runV (As := [.int x2]) (rest := []) ⟨hx, hb, hml, hown, hts⟩ (v_four l D K m0 x2 (.int 0) m_1 m_2 m_3 m_4 m_5 m_6 m_7 m_8 m_9 m_10 m_11 t0 (u_123.2.2.2.1 0) m_14 m_15 m_16 m_17 m_18 m_19 m_20 m_21 m_22 m_23 m_24 m_25 m_26 m_27 m_28 m_29 m_30 m_31 m_32 m_33 m_34 m_35 m_36 m_37 m_38 m_39 m_40 m_41 m_42 m_43 m_44 m_45 m_46 m_47 m_48 m_49 m_50 m_51 m_52 m_53 m_54 m_55 m_56 m_57 m_58 m_59 (u_123.2.1 0) H.size (by first | omega | decide)) (cwV 1 hts gX12_feed_X12_four rfl rfl rfl (by decide +kernel) ⟨Nat.le_of_ble_eq_true rfl, Nat.le_of_ble_eq_true rfl⟩) (mkV hK hN (hP.sub [0, 1] rfl) (hD.sub [0, 1] (by decide +kernel) rfl) (ci := 12) (q0 := 0) rfl rfl) rfl rfl hl.1 rfl (lv_room (Nat.le_of_ble_eq_true rfl)) dX12_feed_32 ⟨Nat.le_of_ble_eq_true rfl, Nat.le_of_ble_eq_true rfl⟩) hP hD hS hA [0, 1] [] rfl rfl (by decide +kernel) (by decide +kernel) (fun u_128 H locs hw hP0 hD0 hS0 => ?_)))
    replace hP : va_P D vwCl [(cc_O m0 12 [.int 0, m_1, m_2, m_3, m_4, m_5, m_6, m_7, m_8, m_9, m_10, m_11, .ref t0, .int (u_128.2.2.2.1 0), m_14, m_15, m_16, m_17, m_18, m_19, m_20, m_21, m_22, m_23, m_24, m_25, m_26, m_27, m_28, m_29, m_30, m_31, m_32, m_33, m_34, m_35, m_36, m_37, m_38, m_39, m_40, m_41, m_42, m_43, m_44, m_45, m_46, m_47, m_48, m_49, m_50, m_51, m_52, m_53, m_54, m_55, m_56, m_57, m_58, m_59]), (cc_l t0 (K 0) 400 (u_128.2.1 0))] H := hP0
    replace hD := as_D hP hD0 rfl
    replace hS := hS0
    clear hP0 hD0 hS0
    obtain ⟨k_129, k_130, k_131, -⟩ := hw
    replace hE := hE.trans (Lt2_in k_131)
    refine lv_aload_n hx hb dX12_feed_35 rfl (lv_at hl 0 rfl) (lv_iload hx hb dX12_feed_36 (lv_at hl 4 rfl) (kcv (S := Su) (wr := []) (va_runV (As := [.int x3]) (rest := []) ⟨hx, hb, hml, hown, hts⟩ (v_four l D K m0 x3 (.int 0) m_1 m_2 m_3 m_4 m_5 m_6 m_7 m_8 m_9 m_10 m_11 t0 (u_128.2.2.2.1 0) m_14 m_15 m_16 m_17 m_18 m_19 m_20 m_21 m_22 m_23 m_24 m_25 m_26 m_27 m_28 m_29 m_30 m_31 m_32 m_33 m_34 m_35 m_36 m_37 m_38 m_39 m_40 m_41 m_42 m_43 m_44 m_45 m_46 m_47 m_48 m_49 m_50 m_51 m_52 m_53 m_54 m_55 m_56 m_57 m_58 m_59 (u_128.2.1 0) H.size (by first | omega | decide)) (cwV 1 hts gX12_feed_X12_four rfl rfl rfl (by decide +kernel) ⟨Nat.le_of_ble_eq_true rfl, Nat.le_of_ble_eq_true rfl⟩) (mkV hK hN (hP.sub [0, 1] rfl) (hD.sub [0, 1] (by decide +kernel) rfl) (ci := 12) (q0 := 0) rfl rfl) rfl rfl hl.1 rfl (lv_room (Nat.le_of_ble_eq_true rfl)) dX12_feed_38 ⟨Nat.le_of_ble_eq_true rfl, Nat.le_of_ble_eq_true rfl⟩) hP hD hS hA [0, 1] [] rfl rfl (by decide +kernel) (by decide +kernel) (fun u_133 H locs hw hP0 hD0 hS0 => ?_)))
    replace hP : va_P D vwCl [(cc_O m0 12 [.int 0, m_1, m_2, m_3, m_4, m_5, m_6, m_7, m_8, m_9, m_10, m_11, .ref t0, .int (u_133.2.2.2.1 0), m_14, m_15, m_16, m_17, m_18, m_19, m_20, m_21, m_22, m_23, m_24, m_25, m_26, m_27, m_28, m_29, m_30, m_31, m_32, m_33, m_34, m_35, m_36, m_37, m_38, m_39, m_40, m_41, m_42, m_43, m_44, m_45, m_46, m_47, m_48, m_49, m_50, m_51, m_52, m_53, m_54, m_55, m_56, m_57, m_58, m_59]), (cc_l t0 (K 0) 400 (u_133.2.1 0))] H := hP0
    replace hD := as_D hP hD0 rfl
    replace hS := hS0
    clear hP0 hD0 hS0
    obtain ⟨k_134, k_135, k_136, -⟩ := hw
    replace hE := hE.trans (Lt2_in k_136)
    refine lv_aload_n hx hb dX12_feed_41 rfl (lv_at hl 0 rfl) (lv_iload hx hb dX12_feed_42 (lv_at hl 5 rfl) (kcv (S := Su) (wr := []) (va_runV (As := [.int x4]) (rest := []) ⟨hx, hb, hml, hown, hts⟩ (v_four l D K m0 x4 (.int 0) m_1 m_2 m_3 m_4 m_5 m_6 m_7 m_8 m_9 m_10 m_11 t0 (u_133.2.2.2.1 0) m_14 m_15 m_16 m_17 m_18 m_19 m_20 m_21 m_22 m_23 m_24 m_25 m_26 m_27 m_28 m_29 m_30 m_31 m_32 m_33 m_34 m_35 m_36 m_37 m_38 m_39 m_40 m_41 m_42 m_43 m_44 m_45 m_46 m_47 m_48 m_49 m_50 m_51 m_52 m_53 m_54 m_55 m_56 m_57 m_58 m_59 (u_133.2.1 0) H.size (by first | omega | decide)) (cwV 1 hts gX12_feed_X12_four rfl rfl rfl (by decide +kernel) ⟨Nat.le_of_ble_eq_true rfl, Nat.le_of_ble_eq_true rfl⟩) (mkV hK hN (hP.sub [0, 1] rfl) (hD.sub [0, 1] (by decide +kernel) rfl) (ci := 12) (q0 := 0) rfl rfl) rfl rfl hl.1 rfl (lv_room (Nat.le_of_ble_eq_true rfl)) dX12_feed_44 ⟨Nat.le_of_ble_eq_true rfl, Nat.le_of_ble_eq_true rfl⟩) hP hD hS hA [0, 1] [] rfl rfl (by decide +kernel) (by decide +kernel) (fun u_138 H locs hw hP0 hD0 hS0 => ?_)))
    replace hP : va_P D vwCl [(cc_O m0 12 [.int 0, m_1, m_2, m_3, m_4, m_5, m_6, m_7, m_8, m_9, m_10, m_11, .ref t0, .int (u_138.2.2.2.1 0), m_14, m_15, m_16, m_17, m_18, m_19, m_20, m_21, m_22, m_23, m_24, m_25, m_26, m_27, m_28, m_29, m_30, m_31, m_32, m_33, m_34, m_35, m_36, m_37, m_38, m_39, m_40, m_41, m_42, m_43, m_44, m_45, m_46, m_47, m_48, m_49, m_50, m_51, m_52, m_53, m_54, m_55, m_56, m_57, m_58, m_59]), (cc_l t0 (K 0) 400 (u_138.2.1 0))] H := hP0
    replace hD := as_D hP hD0 rfl
    replace hS := hS0
    clear hP0 hD0 hS0
    obtain ⟨k_139, k_140, k_141, -⟩ := hw
    replace hE := hE.trans (Lt2_in k_141)
    refine lv_aload_n hx hb dX12_feed_47 rfl (lv_at hl 0 rfl) (va_get (ci := 12) (v := .int (u_138.2.2.2.1 0)) (C := RX12) (T := TX12) (N := 60) hx hb hts hw12 hown hK hP 0 rfl rfl 13 (by decide +kernel) (hts _ mm_X12_feed_843) (fun _ h9 => h9) rfl dX12_feed_48 ?_)
    rw [← hQ]
    have hP9 := hP.sub (ws' := [(cc_O m0 12 [.int 0, m_1, m_2, m_3, m_4, m_5, m_6, m_7, m_8, m_9, m_10, m_11, .ref t0, .int (u_138.2.2.2.1 0), m_14, m_15, m_16, m_17, m_18, m_19, m_20, m_21, m_22, m_23, m_24, m_25, m_26, m_27, m_28, m_29, m_30, m_31, m_32, m_33, m_34, m_35, m_36, m_37, m_38, m_39, m_40, m_41, m_42, m_43, m_44, m_45, m_46, m_47, m_48, m_49, m_50, m_51, m_52, m_53, m_54, m_55, m_56, m_57, m_58, m_59]), (cc_l t0 (K 0) 400 (u_138.2.1 0))]) [0, 1] rfl
    have hD9 := sub_D hP9 hD [0, 1] (by decide +kernel) rfl
    exact W.iret (v := (u_138.2.2.2.1 0)) hx hb hr (fun t ht hW => ⟨⟨(u_138.2.2.2.1 0), ((fun _ => 0, fun i => match i with | _ => (u_138.2.1 0), fun _ => fun _ => 0, fun i => match i with | _ => (u_138.2.2.2.1 0), fun _ => 0, fun _ => fun _ => none) : Su), rfl, ⟨(show (-1) ≤ (u_138.2.2.2.1 0).toInt ∧ (u_138.2.2.2.1 0).toInt ≤ 400 by omega), (show 0 ≤ ((u_138.2.2.2.1 0) : Int32).toInt ∧ ((u_138.2.2.2.1 0) : Int32).toInt ≤ 400 by omega), (show ((400 < ta.toInt + 20 ∧ ((u_138.2.2.2.1 0) : Int32).toInt = ta.toInt) ∨ (ta.toInt + 20 ≤ 400 ∧ ((u_138.2.2.2.1 0) : Int32).toInt = ta.toInt + 20)) by omega), hE.symm, trivial⟩, (⟨by rw [ht]; exact hP9, hD9⟩ : Wd D A _ t)⟩, hS.F ht⟩) hS.2.2 dX12_feed_51
  · have c_116i := i_nle (x := (ta.toInt + 20)) (y := 400) hx_115 rfl c_116
    replace hE := hE.trans (if_neg c_116)
    refine lv_iconst (v := (-1)) hx hb dX12_feed_18 (by decide +kernel) ?_
    rw [← hQ]
    have hP9 := hP.sub (ws' := [(cc_O m0 12 [.int 0, m_1, m_2, m_3, m_4, m_5, m_6, m_7, m_8, m_9, m_10, m_11, .ref t0, .int ta, m_14, m_15, m_16, m_17, m_18, m_19, m_20, m_21, m_22, m_23, m_24, m_25, m_26, m_27, m_28, m_29, m_30, m_31, m_32, m_33, m_34, m_35, m_36, m_37, m_38, m_39, m_40, m_41, m_42, m_43, m_44, m_45, m_46, m_47, m_48, m_49, m_50, m_51, m_52, m_53, m_54, m_55, m_56, m_57, m_58, m_59]), (cc_l t0 (K 0) 400 ft)]) [0, 1] rfl
    have hD9 := sub_D hP9 hD [0, 1] (by decide +kernel) rfl
    exact W.iret (v := (-1)) hx hb hr (fun t ht hW => ⟨⟨(-1), ((fun _ => 0, fun i => match i with | _ => ft, fun _ => fun _ => 0, fun i => match i with | _ => ta, fun _ => 0, fun _ => fun _ => none) : Su), rfl, ⟨(show (-1) ≤ ((-1) : Int32).toInt ∧ ((-1) : Int32).toInt ≤ 400 by decide), (show 0 ≤ (ta : Int32).toInt ∧ (ta : Int32).toInt ≤ 400 by omega), (show ((400 < ta.toInt + 20 ∧ (ta : Int32).toInt = ta.toInt) ∨ (ta.toInt + 20 ≤ 400 ∧ (ta : Int32).toInt = ta.toInt + 20)) by omega), hE.symm, trivial⟩, (⟨by rw [ht]; exact hP9, hD9⟩ : Wd D A _ t)⟩, hS.F ht⟩) hS.2.2 dX12_feed_19
set_option maxRecDepth 100000 in
noncomputable def E_v_end (x : Int32) (thr : Int32) (ta : Int32) : Int32 × Int32 :=
  if x < 0 then ((((-1), ta) : Int32 × Int32)) else (if x ≤ ta then (((x, x) : Int32 × Int32)) else ((((-1), ta) : Int32 × Int32)))
set_option maxHeartbeats 4000000 in
set_option maxRecDepth 100000 in
theorem v_end (l : Launch) (D : va_G) (K : Nat → ClassId) (m0 : Nat) (x : Int32) (thr : Int32) (m_1 : Value) (m_2 : Value) (m_3 : Value) (m_4 : Value) (m_5 : Value) (m_6 : Value) (m_7 : Value) (m_8 : Value) (m_9 : Value) (m_10 : Value) (m_11 : Value) (m_12 : Value) (ta : Int32) (m_14 : Value) (m_15 : Value) (m_16 : Value) (m_17 : Value) (m_18 : Value) (m_19 : Value) (m_20 : Value) (m_21 : Value) (m_22 : Value) (m_23 : Value) (m_24 : Value) (m_25 : Value) (m_26 : Value) (m_27 : Value) (m_28 : Value) (m_29 : Value) (m_30 : Value) (m_31 : Value) (m_32 : Value) (m_33 : Value) (m_34 : Value) (m_35 : Value) (m_36 : Value) (m_37 : Value) (m_38 : Value) (m_39 : Value) (m_40 : Value) (m_41 : Value) (m_42 : Value) (m_43 : Value) (m_44 : Value) (m_45 : Value) (m_46 : Value) (m_47 : Value) (m_48 : Value) (m_49 : Value) (m_50 : Value) (m_51 : Value) (m_52 : Value) (m_53 : Value) (m_54 : Value) (m_55 : Value) (m_56 : Value) (m_57 : Value) (m_58 : Value) (m_59 : Value) (sz : Nat) (zta : 0 ≤ ta.toInt ∧ ta.toInt ≤ 400) : Met l yX12_end wsX12_end ({ frames := 0, cells := 0, slots := 0, locals := 0 }) (va_Pc [.ref m0, .int x] (Pre D K [(cc_O m0 12 [.int thr, m_1, m_2, m_3, m_4, m_5, m_6, m_7, m_8, m_9, m_10, m_11, m_12, .int ta, m_14, m_15, m_16, m_17, m_18, m_19, m_20, m_21, m_22, m_23, m_24, m_25, m_26, m_27, m_28, m_29, m_30, m_31, m_32, m_33, m_34, m_35, m_36, m_37, m_38, m_39, m_40, m_41, m_42, m_43, m_44, m_45, m_46, m_47, m_48, m_49, m_50, m_51, m_52, m_53, m_54, m_55, m_56, m_57, m_58, m_59])] sz)) (va_Qi (S := Su) (fun (r : Int32) (u : Su) => ((-1) ≤ r.toInt ∧ r.toInt ≤ 400) ∧ (0 ≤ (u.2.2.2.1 0).toInt ∧ (u.2.2.2.1 0).toInt ≤ 400) ∧ (((r = (-1) ∧ (x.toInt < 0 ∨ ta.toInt < x.toInt) ∧ (u.2.2.2.1 0) = ta) ∨ (r = x ∧ 0 ≤ x.toInt ∧ x.toInt ≤ ta.toInt ∧ (u.2.2.2.1 0) = x))) ∧ ((r, (u.2.2.2.1 0)) = E_v_end x thr ta) ∧ True) (fun u t => Wd D (va_A [(cc_O m0 12 [.int thr, m_1, m_2, m_3, m_4, m_5, m_6, m_7, m_8, m_9, m_10, m_11, m_12, .int ta, m_14, m_15, m_16, m_17, m_18, m_19, m_20, m_21, m_22, m_23, m_24, m_25, m_26, m_27, m_28, m_29, m_30, m_31, m_32, m_33, m_34, m_35, m_36, m_37, m_38, m_39, m_40, m_41, m_42, m_43, m_44, m_45, m_46, m_47, m_48, m_49, m_50, m_51, m_52, m_53, m_54, m_55, m_56, m_57, m_58, m_59])] sz) ((fun u => [(cc_O m0 12 [.int 0, m_1, m_2, m_3, m_4, m_5, m_6, m_7, m_8, m_9, m_10, m_11, m_12, .int (u.2.2.2.1 0), m_14, m_15, m_16, m_17, m_18, m_19, m_20, m_21, m_22, m_23, m_24, m_25, m_26, m_27, m_28, m_29, m_30, m_31, m_32, m_33, m_34, m_35, m_36, m_37, m_38, m_39, m_40, m_41, m_42, m_43, m_44, m_45, m_46, m_47, m_48, m_49, m_50, m_51, m_52, m_53, m_54, m_55, m_56, m_57, m_58, m_59])]) u) t) (va_A [(cc_O m0 12 [.int thr, m_1, m_2, m_3, m_4, m_5, m_6, m_7, m_8, m_9, m_10, m_11, m_12, .int ta, m_14, m_15, m_16, m_17, m_18, m_19, m_20, m_21, m_22, m_23, m_24, m_25, m_26, m_27, m_28, m_29, m_30, m_31, m_32, m_33, m_34, m_35, m_36, m_37, m_38, m_39, m_40, m_41, m_42, m_43, m_44, m_45, m_46, m_47, m_48, m_49, m_50, m_51, m_52, m_53, m_54, m_55, m_56, m_57, m_58, m_59])] sz)) 0 0 (va_A [(cc_O m0 12 [.int thr, m_1, m_2, m_3, m_4, m_5, m_6, m_7, m_8, m_9, m_10, m_11, m_12, .int ta, m_14, m_15, m_16, m_17, m_18, m_19, m_20, m_21, m_22, m_23, m_24, m_25, m_26, m_27, m_28, m_29, m_30, m_31, m_32, m_33, m_34, m_35, m_36, m_37, m_38, m_39, m_40, m_41, m_42, m_43, m_44, m_45, m_46, m_47, m_48, m_49, m_50, m_51, m_52, m_53, m_54, m_55, m_56, m_57, m_58, m_59])] sz) := by
  refine Met.ofW (cc := cX12_end) (maxL := 2) (ret := (some .int)) (by decide +kernel) rfl ?_
  intro p e s m args below meth c s₁ B hml hv
  obtain ⟨rfl, hsz, hP, hK, hD0, hN⟩ := hv
  have hx := B.exec
  have hb := B.bytes
  have hr := B.returns
  have hts := atoms_spec (ws := wsX12_end) B.pre
  have hown : s.vm.findClass RX12 = some m.cls := findClass_of_methodNamed B.named
  have hlocks := B.notSynchronized
  subst hsz
  have hD := hD0.self (sz := s.heap.size)
  generalize hAe : va_A [(cc_O m0 12 [.int thr, m_1, m_2, m_3, m_4, m_5, m_6, m_7, m_8, m_9, m_10, m_11, m_12, .int ta, m_14, m_15, m_16, m_17, m_18, m_19, m_20, m_21, m_22, m_23, m_24, m_25, m_26, m_27, m_28, m_29, m_30, m_31, m_32, m_33, m_34, m_35, m_36, m_37, m_38, m_39, m_40, m_41, m_42, m_43, m_44, m_45, m_46, m_47, m_48, m_49, m_50, m_51, m_52, m_53, m_54, m_55, m_56, m_57, m_58, m_59])] s.heap.size = A at hD ⊢
  have hA : ∀ q : Nat, s.heap.size ≤ q → A q := fun q h => by rw [← hAe]; exact Or.inr h
  clear hAe
  have hS : va_S A s.heap s.heap [] := va_S.rf
  replace hP : va_P D vwCl [(cc_O m0 12 [.int thr, m_1, m_2, m_3, m_4, m_5, m_6, m_7, m_8, m_9, m_10, m_11, m_12, .int ta, m_14, m_15, m_16, m_17, m_18, m_19, m_20, m_21, m_22, m_23, m_24, m_25, m_26, m_27, m_28, m_29, m_30, m_31, m_32, m_33, m_34, m_35, m_36, m_37, m_38, m_39, m_40, m_41, m_42, m_43, m_44, m_45, m_46, m_47, m_48, m_49, m_50, m_51, m_52, m_53, m_54, m_55, m_56, m_57, m_58, m_59])] s.heap := hP
  have hl := lv_entry [.ref m0, .int x] (n := 2) (Nat.le_of_ble_eq_true rfl)
  rw [lg_entry_eq]
  generalize (lg_sl [.ref m0, .int x] ++ List.replicate (2 - (lg_sl [.ref m0, .int x]).length) Slot.unset).toArray = ls at hl ⊢
  have hl : lv_has ls 2 [(0, .ref m0), (1, .int x)] := hl
  have hw12 : ∀ w ∈ wsX120, w ∈ wsX12_end := fun w h => (List.mem_cons_of_mem _ (List.mem_append_right _ h))
  generalize hQ : MQ below _ _ s _ _ _ = Q
  have hE := E_v_end.eq_def x thr ta
  refine lv_aload_n hx hb dX12_end_0 rfl (lv_at hl 0 rfl) (lv_iconst (v := 0) hx hb dX12_end_1 (by decide +kernel) (va_put (ci := 12) (v := .int 0) (ty := .int) (C := RX12) (T := TX12) (N := 60) hx hb hts hw12 tyX12 tyX12_ok nmX12 hown hK hP hD hS 0 rfl rfl 0 (by decide +kernel) (hts _ mm_X12_end_830) (fun _ h9 => h9) rfl (by decide +kernel) (by first | rfl | decide) (by first | rfl | decide) (Nat.le_of_ble_eq_true rfl) dX12_end_2 (fun H locs hP0 hD0 hS0 => ?_)))
  replace hP : va_P D vwCl [(cc_O m0 12 [.int 0, m_1, m_2, m_3, m_4, m_5, m_6, m_7, m_8, m_9, m_10, m_11, m_12, .int ta, m_14, m_15, m_16, m_17, m_18, m_19, m_20, m_21, m_22, m_23, m_24, m_25, m_26, m_27, m_28, m_29, m_30, m_31, m_32, m_33, m_34, m_35, m_36, m_37, m_38, m_39, m_40, m_41, m_42, m_43, m_44, m_45, m_46, m_47, m_48, m_49, m_50, m_51, m_52, m_53, m_54, m_55, m_56, m_57, m_58, m_59])] H := hP0
  replace hD := as_D hP hD0 rfl
  replace hS := hS0
  clear hP0 hD0 hS0
  refine lv_iload_n hx hb dX12_end_5 rfl (lv_at hl 1 rfl) (lv_if_lt (tgt := 17) hx hb dX12_end_6 (by decide +kernel) (fun c_65 => ?_) (fun c_65 => ?_))
  · have c_65i := i_lt (x := x.toInt) (y := 0) rfl rfl c_65
    replace hE := hE.trans (if_pos c_65)
    refine lv_iconst (v := (-1)) hx hb dX12_end_17 (by decide +kernel) ?_
    rw [← hQ]
    have hP9 := hP.sub (ws' := [(cc_O m0 12 [.int 0, m_1, m_2, m_3, m_4, m_5, m_6, m_7, m_8, m_9, m_10, m_11, m_12, .int ta, m_14, m_15, m_16, m_17, m_18, m_19, m_20, m_21, m_22, m_23, m_24, m_25, m_26, m_27, m_28, m_29, m_30, m_31, m_32, m_33, m_34, m_35, m_36, m_37, m_38, m_39, m_40, m_41, m_42, m_43, m_44, m_45, m_46, m_47, m_48, m_49, m_50, m_51, m_52, m_53, m_54, m_55, m_56, m_57, m_58, m_59])]) [0] rfl
    have hD9 := sub_D hP9 hD [0] (by decide +kernel) rfl
    exact W.iret (v := (-1)) hx hb hr (fun t ht hW => ⟨⟨(-1), ((fun _ => 0, fun _ => fun _ => 0, fun _ => fun _ => 0, fun i => match i with | _ => ta, fun _ => 0, fun _ => fun _ => none) : Su), rfl, ⟨(show (-1) ≤ ((-1) : Int32).toInt ∧ ((-1) : Int32).toInt ≤ 400 by decide), (show 0 ≤ (ta : Int32).toInt ∧ (ta : Int32).toInt ≤ 400 by omega), Or.inl ⟨rfl, by omega, rfl⟩, hE.symm, trivial⟩, (⟨by rw [ht]; exact hP9, hD9⟩ : Wd D A _ t)⟩, hS.F ht⟩) hS.2.2 dX12_end_18
  · have c_65i := i_nlt (x := x.toInt) (y := 0) rfl rfl c_65
    replace hE := hE.trans (if_neg c_65)
    refine lv_iload_n hx hb dX12_end_9 rfl (lv_at hl 1 rfl) (lv_aload_n hx hb dX12_end_10 rfl (lv_at hl 0 rfl) (va_get (ci := 12) (v := .int ta) (C := RX12) (T := TX12) (N := 60) hx hb hts hw12 hown hK hP 0 rfl rfl 13 (by decide +kernel) (hts _ mm_X12_end_843) (fun _ h9 => h9) rfl dX12_end_11 (lv_icmp_le (tgt := 19) hx hb dX12_end_14 (by decide +kernel) (fun c_66 => ?_) (fun c_66 => ?_))))
    · have c_66i := i_le (x := x.toInt) (y := ta.toInt) rfl rfl c_66
      replace hE := hE.trans (if_pos c_66)
      refine lv_aload_n hx hb dX12_end_19 rfl (lv_at hl 0 rfl) (lv_iload_n hx hb dX12_end_20 rfl (lv_at hl 1 rfl) (va_put (ci := 12) (v := .int x) (ty := .int) (C := RX12) (T := TX12) (N := 60) hx hb hts hw12 tyX12 tyX12_ok nmX12 hown hK hP hD hS 0 rfl rfl 13 (by decide +kernel) (hts _ mm_X12_end_843) (fun _ h9 => h9) rfl (by decide +kernel) (by first | rfl | decide) (by first | rfl | decide) (Nat.le_of_ble_eq_true rfl) dX12_end_21 (fun H locs hP0 hD0 hS0 => ?_)))
      replace hP : va_P D vwCl [(cc_O m0 12 [.int 0, m_1, m_2, m_3, m_4, m_5, m_6, m_7, m_8, m_9, m_10, m_11, m_12, .int x, m_14, m_15, m_16, m_17, m_18, m_19, m_20, m_21, m_22, m_23, m_24, m_25, m_26, m_27, m_28, m_29, m_30, m_31, m_32, m_33, m_34, m_35, m_36, m_37, m_38, m_39, m_40, m_41, m_42, m_43, m_44, m_45, m_46, m_47, m_48, m_49, m_50, m_51, m_52, m_53, m_54, m_55, m_56, m_57, m_58, m_59])] H := hP0
      replace hD := as_D hP hD0 rfl
      replace hS := hS0
      clear hP0 hD0 hS0
      refine lv_iload_n hx hb dX12_end_24 rfl (lv_at hl 1 rfl) ?_
      rw [← hQ]
      have hP9 := hP.sub (ws' := [(cc_O m0 12 [.int 0, m_1, m_2, m_3, m_4, m_5, m_6, m_7, m_8, m_9, m_10, m_11, m_12, .int x, m_14, m_15, m_16, m_17, m_18, m_19, m_20, m_21, m_22, m_23, m_24, m_25, m_26, m_27, m_28, m_29, m_30, m_31, m_32, m_33, m_34, m_35, m_36, m_37, m_38, m_39, m_40, m_41, m_42, m_43, m_44, m_45, m_46, m_47, m_48, m_49, m_50, m_51, m_52, m_53, m_54, m_55, m_56, m_57, m_58, m_59])]) [0] rfl
      have hD9 := sub_D hP9 hD [0] (by decide +kernel) rfl
      exact W.iret (v := x) hx hb hr (fun t ht hW => ⟨⟨x, ((fun _ => 0, fun _ => fun _ => 0, fun _ => fun _ => 0, fun i => match i with | _ => x, fun _ => 0, fun _ => fun _ => none) : Su), rfl, ⟨(show (-1) ≤ x.toInt ∧ x.toInt ≤ 400 by omega), (show 0 ≤ (x : Int32).toInt ∧ (x : Int32).toInt ≤ 400 by omega), Or.inr ⟨rfl, by omega, by omega, rfl⟩, hE.symm, trivial⟩, (⟨by rw [ht]; exact hP9, hD9⟩ : Wd D A _ t)⟩, hS.F ht⟩) hS.2.2 dX12_end_25
    · have c_66i := i_nle (x := x.toInt) (y := ta.toInt) rfl rfl c_66
      replace hE := hE.trans (if_neg c_66)
      refine lv_iconst (v := (-1)) hx hb dX12_end_17 (by decide +kernel) ?_
      rw [← hQ]
      have hP9 := hP.sub (ws' := [(cc_O m0 12 [.int 0, m_1, m_2, m_3, m_4, m_5, m_6, m_7, m_8, m_9, m_10, m_11, m_12, .int ta, m_14, m_15, m_16, m_17, m_18, m_19, m_20, m_21, m_22, m_23, m_24, m_25, m_26, m_27, m_28, m_29, m_30, m_31, m_32, m_33, m_34, m_35, m_36, m_37, m_38, m_39, m_40, m_41, m_42, m_43, m_44, m_45, m_46, m_47, m_48, m_49, m_50, m_51, m_52, m_53, m_54, m_55, m_56, m_57, m_58, m_59])]) [0] rfl
      have hD9 := sub_D hP9 hD [0] (by decide +kernel) rfl
      exact W.iret (v := (-1)) hx hb hr (fun t ht hW => ⟨⟨(-1), ((fun _ => 0, fun _ => fun _ => 0, fun _ => fun _ => 0, fun i => match i with | _ => ta, fun _ => 0, fun _ => fun _ => none) : Su), rfl, ⟨(show (-1) ≤ ((-1) : Int32).toInt ∧ ((-1) : Int32).toInt ≤ 400 by decide), (show 0 ≤ (ta : Int32).toInt ∧ (ta : Int32).toInt ≤ 400 by omega), Or.inl ⟨rfl, by omega, rfl⟩, hE.symm, trivial⟩, (⟨by rw [ht]; exact hP9, hD9⟩ : Wd D A _ t)⟩, hS.F ht⟩) hS.2.2 dX12_end_18
set_option maxRecDepth 100000 in
noncomputable def E_v_isLaw (x : Int32) (fw : Nat → Int32) : Int32 :=
  if x = (-1) then ((1 : Int32)) else (Lt ((x : Int32).toInt64 : Int64) (fun x_86 => Lt (fw (2 : Int32).toNatClampNeg : Int32) (fun x_87 => Lt ((x_87 : Int32).toInt64 : Int64) (fun x_88 => Lt (x_88 - 1 : Int64) (fun x_89 => Lt (E_v_in x_86 0 x_89) (fun r_90 => if r_90 = 1 then ((1 : Int32)) else ((0 : Int32))))))))
set_option maxHeartbeats 4000000 in
set_option maxRecDepth 100000 in
theorem v_isLaw (l : Launch) (D : va_G) (K : Nat → ClassId) (X : Int) (m0 : Nat) (x : Int32) (m_0 : Value) (m_1 : Value) (m_2 : Value) (w0 : Nat) (m_4 : Value) (m_5 : Value) (m_6 : Value) (m_7 : Value) (m_8 : Value) (m_9 : Value) (m_10 : Value) (m_11 : Value) (m_12 : Value) (m_13 : Value) (m_14 : Value) (m_15 : Value) (m_16 : Value) (m_17 : Value) (m_18 : Value) (m_19 : Value) (m_20 : Value) (m_21 : Value) (m_22 : Value) (m_23 : Value) (m_24 : Value) (m_25 : Value) (m_26 : Value) (m_27 : Value) (m_28 : Value) (m_29 : Value) (m_30 : Value) (m_31 : Value) (m_32 : Value) (m_33 : Value) (m_34 : Value) (m_35 : Value) (m_36 : Value) (m_37 : Value) (m_38 : Value) (m_39 : Value) (m_40 : Value) (m_41 : Value) (m_42 : Value) (m_43 : Value) (m_44 : Value) (m_45 : Value) (m_46 : Value) (m_47 : Value) (m_48 : Value) (m_49 : Value) (m_50 : Value) (m_51 : Value) (m_52 : Value) (m_53 : Value) (m_54 : Value) (m_55 : Value) (m_56 : Value) (m_57 : Value) (m_58 : Value) (m_59 : Value) (fw : Nat → Int32) (sz : Nat) (qx : x.toInt = X) (zfw : RwOK fw) : Met l yX12_isLaw wsX12_isLaw ({ frames := 1, cells := 0, slots := 0, locals := 25 }) (va_Pc [.ref m0, .int x] (Pre D K [(cc_O m0 12 [m_0, m_1, m_2, .ref w0, m_4, m_5, m_6, m_7, m_8, m_9, m_10, m_11, m_12, m_13, m_14, m_15, m_16, m_17, m_18, m_19, m_20, m_21, m_22, m_23, m_24, m_25, m_26, m_27, m_28, m_29, m_30, m_31, m_32, m_33, m_34, m_35, m_36, m_37, m_38, m_39, m_40, m_41, m_42, m_43, m_44, m_45, m_46, m_47, m_48, m_49, m_50, m_51, m_52, m_53, m_54, m_55, m_56, m_57, m_58, m_59]), (cc_l w0 (K 0) 5500 fw)] sz)) (vp_Si (fun r : Int32 => ((r = 1 ∧ -1 ≤ X ∧ X ≤ 5) ∨ (r = 0)) ∧ (r = E_v_isLaw x fw) ∧ True)) 0 0 (fun _ => False) := by
  refine Met.ofW (cc := cX12_isLaw) (maxL := 2) (ret := (some .boolean)) (by decide +kernel) rfl ?_
  intro p e s m args below meth c s₁ B hml hv
  obtain ⟨rfl, hsz, hP, hK, hD0, hN⟩ := hv
  have hx := B.exec
  have hb := B.bytes
  have hr := B.returns
  have hts := atoms_spec (ws := wsX12_isLaw) B.pre
  have hown : s.vm.findClass RX12 = some m.cls := findClass_of_methodNamed B.named
  have hlocks := B.notSynchronized
  subst hsz
  have hD := hD0
  replace hP : va_P D vwCl [(cc_O m0 12 [m_0, m_1, m_2, .ref w0, m_4, m_5, m_6, m_7, m_8, m_9, m_10, m_11, m_12, m_13, m_14, m_15, m_16, m_17, m_18, m_19, m_20, m_21, m_22, m_23, m_24, m_25, m_26, m_27, m_28, m_29, m_30, m_31, m_32, m_33, m_34, m_35, m_36, m_37, m_38, m_39, m_40, m_41, m_42, m_43, m_44, m_45, m_46, m_47, m_48, m_49, m_50, m_51, m_52, m_53, m_54, m_55, m_56, m_57, m_58, m_59]), (cc_l w0 (K 0) 5500 fw)] s.heap := hP
  have hl := lv_entry [.ref m0, .int x] (n := 2) (Nat.le_of_ble_eq_true rfl)
  rw [lg_entry_eq]
  generalize (lg_sl [.ref m0, .int x] ++ List.replicate (2 - (lg_sl [.ref m0, .int x]).length) Slot.unset).toArray = ls at hl ⊢
  have hl : lv_has ls 2 [(0, .ref m0), (1, .int x)] := hl
  have hw12 : ∀ w ∈ wsX120, w ∈ wsX12_isLaw := fun w h => (List.mem_cons_of_mem _ (List.mem_append_right _ h))
  generalize hQ : MQ below _ _ s _ _ _ = Q
  have hE := E_v_isLaw.eq_def x fw
  refine lv_iload_n hx hb dX12_isLaw_0 rfl (lv_at hl 1 rfl) (lv_iconst (v := (-1)) hx hb dX12_isLaw_1 (by decide +kernel) (lv_icmp_eq (tgt := 23) hx hb dX12_isLaw_2 (by decide +kernel) (fun c_85 => ?_) (fun c_85 => ?_)))
  · have c_85i := i_eq (x := X) (y := (-1)) qx rfl c_85
    replace hE := hE.trans (if_pos c_85)
    refine lv_iconst (v := 1) hx hb dX12_isLaw_23 (by decide +kernel) (lv_goto (tgt := 28) hx hb dX12_isLaw_24 (by decide +kernel) ?_)
    rw [← hQ]
    exact W.zret (v := 1) hx hb hr (by decide +kernel) (fun t ht hW => ⟨_, rfl, ⟨(by first | exact Or.inl ⟨rfl, by first | omega | decide | (subst_vars; assumption), by first | omega | decide | (subst_vars; assumption)⟩), hE.symm, trivial⟩, ht⟩) (fun q hq => by cases hq) dX12_isLaw_28
  · have c_85i := i_ne (x := X) (y := (-1)) qx rfl c_85
    replace hE := hE.trans (if_neg c_85)
    refine lv_iload_n hx hb dX12_isLaw_5 rfl (lv_at hl 1 rfl) (lv_i2l hx hb dX12_isLaw_6 rfl (lv_topl (fun x_86 ex_86 => ?_)))
    replace hE := hE.trans (Lt_in ex_86)
    have hx_86 : x_86.toInt = X := by rw [ex_86]; exact i_wide qx
    refine lv_lconst (v := 0) hx hb dX12_isLaw_7 (by decide +kernel) (lv_aload_n hx hb dX12_isLaw_8 rfl (lv_at hl 0 rfl) (va_get (ci := 12) (v := .ref w0) (C := RX12) (T := TX12) (N := 60) hx hb hts hw12 hown hK hP 0 rfl rfl 3 (by decide +kernel) (hts _ mm_X12_isLaw_833) (fun _ h9 => h9) rfl dX12_isLaw_9 (lv_iconst (v := 2) hx hb dX12_isLaw_12 (by decide +kernel) (va_iald hx hb hK hP 1 0 rfl rfl (i_in (x := 2) rfl (by omega)) dX12_isLaw_13 (lv_topi (fun x_87 ex_87 => ?_))))))
    replace hE := hE.trans (Lt_in ex_87)
    have px_87 := RwOK.at zfw (show (2 : Int32).toInt = 2 from rfl) (show 0 ≤ 2 ∧ 2 < 100 by omega)
    rw [← ex_87] at px_87
    have hx_87 := PR.r_2 px_87 (by omega)
    refine lv_i2l hx hb dX12_isLaw_14 rfl (lv_topl (fun x_88 ex_88 => ?_))
    replace hE := hE.trans (Lt_in ex_88)
    have hx_88 : x_88.toInt = x_87.toInt := by rw [ex_88]; exact i_wide rfl
    refine lv_lconst (v := 1) hx hb dX12_isLaw_15 (by decide +kernel) (lv_lsub hx hb dX12_isLaw_16 (lv_topl (fun x_89 ex_89 => ?_)))
    replace hE := hE.trans (Lt_in ex_89)
    have hx_89 : x_89.toInt = (x_87.toInt - 1) := by rw [ex_89]; exact l_sub hx_88 (show (1 : Int64).toInt = 1 from rfl) (by omega)
    refine pci (va_runS (As := [.long x_86, .long 0, .long x_89]) (rest := []) ⟨hx, hb, hml, hown, hts⟩ (v_in l D K X 0 (x_87.toInt - 1) x_86 0 x_89 s.heap.size hx_86 (show (0 : Int64).toInt = 0 from rfl) hx_89) (va_cwS 3 hts gX12_isLaw_X12_in rfl rfl rfl (by decide +kernel) ⟨Nat.le_of_ble_eq_true rfl, Nat.le_of_ble_eq_true rfl⟩) (mkS hK hN (va_P.nil) (va_D.nil (A := fun _ => True))) rfl rfl hl.1 rfl (lv_room (Nat.le_of_ble_eq_true rfl)) dX12_isLaw_17 ⟨Nat.le_of_ble_eq_true rfl, Nat.le_of_ble_eq_true rfl⟩) (fun r_90 hw => ?_)
    obtain ⟨hw, k_91, -⟩ := hw
    replace hE := hE.trans (Lt_in k_91)
    rcases hw with ⟨rfl, h_92, h_93⟩ | ⟨rfl, h_94⟩
    · replace hE := (hE).trans (if_pos rfl)
      refine lv_if_eq (tgt := 27) hx hb dX12_isLaw_20 (by decide +kernel) (fun c_95 => absurd c_95 (by decide +kernel)) (fun c_95 => ?_)
      refine lv_iconst (v := 1) hx hb dX12_isLaw_23 (by decide +kernel) (lv_goto (tgt := 28) hx hb dX12_isLaw_24 (by decide +kernel) ?_)
      rw [← hQ]
      exact W.zret (v := 1) hx hb hr (by decide +kernel) (fun t ht hW => ⟨_, rfl, ⟨(by first | exact Or.inl ⟨rfl, by first | omega | decide | (subst_vars; assumption), by first | omega | decide | (subst_vars; assumption)⟩), hE.symm, trivial⟩, ht⟩) (fun q hq => by cases hq) dX12_isLaw_28
    · replace hE := (hE).trans (if_neg (by first | decide | (intro h9; have h8 := congrArg Int32.toInt h9; omega)))
      refine lv_if_eq (tgt := 27) hx hb dX12_isLaw_20 (by decide +kernel) (fun c_96 => ?_) (fun c_96 => absurd (by decide +kernel) c_96)
      refine lv_iconst (v := 0) hx hb dX12_isLaw_27 (by decide +kernel) ?_
      rw [← hQ]
      exact W.zret (v := 0) hx hb hr (by decide +kernel) (fun t ht hW => ⟨_, rfl, ⟨(by first | exact Or.inr (rfl)), hE.symm, trivial⟩, ht⟩) (fun q hq => by cases hq) dX12_isLaw_28
set_option maxRecDepth 100000 in
noncomputable def E_v_force (x : Int32) (thr : Int32) (sta : Int32) (fw : Nat → Int32) (frf : Nat → Int32) : Int32 × Int32 × (Nat → Int32) × (Nat → Int32) :=
  Lt (E_v_isLaw x fw) (fun r_93 => if r_93 = 1 then (Lt2 (E_v_changeF 3 x sta fw) (fun r_98 u_99_2_1_0 => ((r_98, 0, u_99_2_1_0, frf) : Int32 × Int32 × (Nat → Int32) × (Nat → Int32)))) else (Lt2 (E_v_tell (-2) sta frf) (fun r_104 q0_r_104 => Lt2 q0_r_104 (fun u_105_2_2_2_1_0 u_105_2_1_0 => ((r_104, u_105_2_2_2_1_0, fw, u_105_2_1_0) : Int32 × Int32 × (Nat → Int32) × (Nat → Int32))))))
set_option maxHeartbeats 4000000 in
set_option maxRecDepth 100000 in
theorem v_force (l : Launch) (D : va_G) (K : Nat → ClassId) (m0 : Nat) (x : Int32) (thr : Int32) (sta : Int32) (r0 : Nat) (w0 : Nat) (m_4 : Value) (m_5 : Value) (m_6 : Value) (m_7 : Value) (m_8 : Value) (m_9 : Value) (m_10 : Value) (m_11 : Value) (m_12 : Value) (m_13 : Value) (m_14 : Value) (m_15 : Value) (m_16 : Value) (m_17 : Value) (m_18 : Value) (m_19 : Value) (m_20 : Value) (m_21 : Value) (m_22 : Value) (m_23 : Value) (m_24 : Value) (m_25 : Value) (m_26 : Value) (m_27 : Value) (m_28 : Value) (m_29 : Value) (m_30 : Value) (m_31 : Value) (m_32 : Value) (m_33 : Value) (m_34 : Value) (m_35 : Value) (m_36 : Value) (m_37 : Value) (m_38 : Value) (m_39 : Value) (m_40 : Value) (m_41 : Value) (m_42 : Value) (m_43 : Value) (m_44 : Value) (m_45 : Value) (m_46 : Value) (m_47 : Value) (m_48 : Value) (m_49 : Value) (m_50 : Value) (m_51 : Value) (m_52 : Value) (m_53 : Value) (m_54 : Value) (m_55 : Value) (m_56 : Value) (m_57 : Value) (m_58 : Value) (m_59 : Value) (fw : Nat → Int32) (gr : Nat → Int32) (frf : Nat → Int32) (sz : Nat) (zfw : RwOK fw) (zgr : FzM gr fw) : Met l yX12_force wsX12_force ({ frames := 2, cells := 0, slots := 0, locals := 46 }) (va_Pc [.ref m0, .int x] (Pre D K [(cc_O m0 12 [.int thr, .int sta, .ref r0, .ref w0, m_4, m_5, m_6, m_7, m_8, m_9, m_10, m_11, m_12, m_13, m_14, m_15, m_16, m_17, m_18, m_19, m_20, m_21, m_22, m_23, m_24, m_25, m_26, m_27, m_28, m_29, m_30, m_31, m_32, m_33, m_34, m_35, m_36, m_37, m_38, m_39, m_40, m_41, m_42, m_43, m_44, m_45, m_46, m_47, m_48, m_49, m_50, m_51, m_52, m_53, m_54, m_55, m_56, m_57, m_58, m_59]), (cc_l w0 (K 0) 5500 fw), (cc_l r0 (K 0) 7 frf)] sz)) (va_Qi (S := Su) (fun (r : Int32) (u : Su) => ((-6) ≤ (u.2.2.2.1 0).toInt ∧ (u.2.2.2.1 0).toInt ≤ 0) ∧ (RwOK (u.2.1 0)) ∧ (FzM gr (u.2.1 0)) ∧ ((r, (u.2.2.2.1 0), (u.2.1 0), (u.2.1 1)) = E_v_force x thr sta fw frf) ∧ True) (fun u t => Wd D (va_A [(cc_O m0 12 [.int thr, .int sta, .ref r0, .ref w0, m_4, m_5, m_6, m_7, m_8, m_9, m_10, m_11, m_12, m_13, m_14, m_15, m_16, m_17, m_18, m_19, m_20, m_21, m_22, m_23, m_24, m_25, m_26, m_27, m_28, m_29, m_30, m_31, m_32, m_33, m_34, m_35, m_36, m_37, m_38, m_39, m_40, m_41, m_42, m_43, m_44, m_45, m_46, m_47, m_48, m_49, m_50, m_51, m_52, m_53, m_54, m_55, m_56, m_57, m_58, m_59]), (cc_l w0 (K 0) 5500 fw), (cc_l r0 (K 0) 7 frf)] sz) ((fun u => [(cc_O m0 12 [.int 0, .int (u.2.2.2.1 0), .ref r0, .ref w0, m_4, m_5, m_6, m_7, m_8, m_9, m_10, m_11, m_12, m_13, m_14, m_15, m_16, m_17, m_18, m_19, m_20, m_21, m_22, m_23, m_24, m_25, m_26, m_27, m_28, m_29, m_30, m_31, m_32, m_33, m_34, m_35, m_36, m_37, m_38, m_39, m_40, m_41, m_42, m_43, m_44, m_45, m_46, m_47, m_48, m_49, m_50, m_51, m_52, m_53, m_54, m_55, m_56, m_57, m_58, m_59]), (cc_l w0 (K 0) 5500 (u.2.1 0)), (cc_l r0 (K 0) 7 (u.2.1 1))]) u) t) (va_A [(cc_O m0 12 [.int thr, .int sta, .ref r0, .ref w0, m_4, m_5, m_6, m_7, m_8, m_9, m_10, m_11, m_12, m_13, m_14, m_15, m_16, m_17, m_18, m_19, m_20, m_21, m_22, m_23, m_24, m_25, m_26, m_27, m_28, m_29, m_30, m_31, m_32, m_33, m_34, m_35, m_36, m_37, m_38, m_39, m_40, m_41, m_42, m_43, m_44, m_45, m_46, m_47, m_48, m_49, m_50, m_51, m_52, m_53, m_54, m_55, m_56, m_57, m_58, m_59]), (cc_l w0 (K 0) 5500 fw), (cc_l r0 (K 0) 7 frf)] sz)) 0 0 (va_A [(cc_O m0 12 [.int thr, .int sta, .ref r0, .ref w0, m_4, m_5, m_6, m_7, m_8, m_9, m_10, m_11, m_12, m_13, m_14, m_15, m_16, m_17, m_18, m_19, m_20, m_21, m_22, m_23, m_24, m_25, m_26, m_27, m_28, m_29, m_30, m_31, m_32, m_33, m_34, m_35, m_36, m_37, m_38, m_39, m_40, m_41, m_42, m_43, m_44, m_45, m_46, m_47, m_48, m_49, m_50, m_51, m_52, m_53, m_54, m_55, m_56, m_57, m_58, m_59]), (cc_l w0 (K 0) 5500 fw), (cc_l r0 (K 0) 7 frf)] sz) := by
  refine Met.ofW (cc := cX12_force) (maxL := 2) (ret := (some .int)) (by decide +kernel) rfl ?_
  intro p e s m args below meth c s₁ B hml hv
  obtain ⟨rfl, hsz, hP, hK, hD0, hN⟩ := hv
  have hx := B.exec
  have hb := B.bytes
  have hr := B.returns
  have hts := atoms_spec (ws := wsX12_force) B.pre
  have hown : s.vm.findClass RX12 = some m.cls := findClass_of_methodNamed B.named
  have hlocks := B.notSynchronized
  subst hsz
  have hD := hD0.self (sz := s.heap.size)
  generalize hAe : va_A [(cc_O m0 12 [.int thr, .int sta, .ref r0, .ref w0, m_4, m_5, m_6, m_7, m_8, m_9, m_10, m_11, m_12, m_13, m_14, m_15, m_16, m_17, m_18, m_19, m_20, m_21, m_22, m_23, m_24, m_25, m_26, m_27, m_28, m_29, m_30, m_31, m_32, m_33, m_34, m_35, m_36, m_37, m_38, m_39, m_40, m_41, m_42, m_43, m_44, m_45, m_46, m_47, m_48, m_49, m_50, m_51, m_52, m_53, m_54, m_55, m_56, m_57, m_58, m_59]), (cc_l w0 (K 0) 5500 fw), (cc_l r0 (K 0) 7 frf)] s.heap.size = A at hD ⊢
  have hA : ∀ q : Nat, s.heap.size ≤ q → A q := fun q h => by rw [← hAe]; exact Or.inr h
  clear hAe
  have hS : va_S A s.heap s.heap [] := va_S.rf
  replace hP : va_P D vwCl [(cc_O m0 12 [.int thr, .int sta, .ref r0, .ref w0, m_4, m_5, m_6, m_7, m_8, m_9, m_10, m_11, m_12, m_13, m_14, m_15, m_16, m_17, m_18, m_19, m_20, m_21, m_22, m_23, m_24, m_25, m_26, m_27, m_28, m_29, m_30, m_31, m_32, m_33, m_34, m_35, m_36, m_37, m_38, m_39, m_40, m_41, m_42, m_43, m_44, m_45, m_46, m_47, m_48, m_49, m_50, m_51, m_52, m_53, m_54, m_55, m_56, m_57, m_58, m_59]), (cc_l w0 (K 0) 5500 fw), (cc_l r0 (K 0) 7 frf)] s.heap := hP
  have hl := lv_entry [.ref m0, .int x] (n := 2) (Nat.le_of_ble_eq_true rfl)
  rw [lg_entry_eq]
  generalize (lg_sl [.ref m0, .int x] ++ List.replicate (2 - (lg_sl [.ref m0, .int x]).length) Slot.unset).toArray = ls at hl ⊢
  have hl : lv_has ls 2 [(0, .ref m0), (1, .int x)] := hl
  have hw12 : ∀ w ∈ wsX120, w ∈ wsX12_force := fun w h => (List.mem_cons_of_mem _ (List.mem_append_right _ h))
  generalize hQ : MQ below _ _ s _ _ _ = Q
  have hE := E_v_force.eq_def x thr sta fw frf
  refine lv_aload_n hx hb dX12_force_0 rfl (lv_at hl 0 rfl) (lv_iconst (v := 0) hx hb dX12_force_1 (by decide +kernel) (va_put (ci := 12) (v := .int 0) (ty := .int) (C := RX12) (T := TX12) (N := 60) hx hb hts hw12 tyX12 tyX12_ok nmX12 hown hK hP hD hS 0 rfl rfl 0 (by decide +kernel) (hts _ mm_X12_force_830) (fun _ h9 => h9) rfl (by decide +kernel) (by first | rfl | decide) (by first | rfl | decide) (Nat.le_of_ble_eq_true rfl) dX12_force_2 (fun H locs hP0 hD0 hS0 => ?_)))
  replace hP : va_P D vwCl [(cc_O m0 12 [.int 0, .int sta, .ref r0, .ref w0, m_4, m_5, m_6, m_7, m_8, m_9, m_10, m_11, m_12, m_13, m_14, m_15, m_16, m_17, m_18, m_19, m_20, m_21, m_22, m_23, m_24, m_25, m_26, m_27, m_28, m_29, m_30, m_31, m_32, m_33, m_34, m_35, m_36, m_37, m_38, m_39, m_40, m_41, m_42, m_43, m_44, m_45, m_46, m_47, m_48, m_49, m_50, m_51, m_52, m_53, m_54, m_55, m_56, m_57, m_58, m_59]), (cc_l w0 (K 0) 5500 fw), (cc_l r0 (K 0) 7 frf)] H := hP0
  replace hD := as_D hP hD0 rfl
  replace hS := hS0
  clear hP0 hD0 hS0
  refine lv_aload_n hx hb dX12_force_5 rfl (lv_at hl 0 rfl) (lv_iload_n hx hb dX12_force_6 rfl (lv_at hl 1 rfl) (pci (va_runV (As := [.int x]) (rest := []) ⟨hx, hb, hml, hown, hts⟩ (v_isLaw l D K x.toInt m0 x (.int 0) (.int sta) (.ref r0) w0 m_4 m_5 m_6 m_7 m_8 m_9 m_10 m_11 m_12 m_13 m_14 m_15 m_16 m_17 m_18 m_19 m_20 m_21 m_22 m_23 m_24 m_25 m_26 m_27 m_28 m_29 m_30 m_31 m_32 m_33 m_34 m_35 m_36 m_37 m_38 m_39 m_40 m_41 m_42 m_43 m_44 m_45 m_46 m_47 m_48 m_49 m_50 m_51 m_52 m_53 m_54 m_55 m_56 m_57 m_58 m_59 fw H.size rfl zfw) (cwV 1 hts gX12_force_X12_isLaw rfl rfl rfl (by decide +kernel) ⟨Nat.le_of_ble_eq_true rfl, Nat.le_of_ble_eq_true rfl⟩) (mkV hK hN (hP.sub [0, 1] rfl) (hD.sub [0, 1] (by decide +kernel) rfl) (ci := 12) (q0 := 0) rfl rfl) rfl rfl hl.1 rfl (lv_room (Nat.le_of_ble_eq_true rfl)) dX12_force_7 ⟨Nat.le_of_ble_eq_true rfl, Nat.le_of_ble_eq_true rfl⟩) (fun r_93 hw => ?_)))
  obtain ⟨hw, k_94, -⟩ := hw
  replace hE := hE.trans (Lt_in k_94)
  rcases hw with ⟨rfl, h_95, h_96⟩ | rfl
  · replace hE := (hE).trans (if_pos rfl)
    refine lv_if_eq (tgt := 22) hx hb dX12_force_10 (by decide +kernel) (fun c_97 => absurd c_97 (by decide +kernel)) (fun c_97 => ?_)
    refine lv_aload_n hx hb dX12_force_13 rfl (lv_at hl 0 rfl) (lv_iconst (v := 3) hx hb dX12_force_14 (by decide +kernel) (lv_iload_n hx hb dX12_force_15 rfl (lv_at hl 1 rfl) (kci (S := Su) (wr := [(cc_l r0 (K 0) 7 frf)]) (va_runV (As := [.int 3, .int x]) (rest := []) ⟨hx, hb, hml, hown, hts⟩ (v_changeF l D K m0 3 x (.int 0) sta (.ref r0) w0 m_4 m_5 m_6 m_7 m_8 m_9 m_10 m_11 m_12 m_13 m_14 m_15 m_16 m_17 m_18 m_19 m_20 m_21 m_22 m_23 m_24 m_25 m_26 m_27 m_28 m_29 m_30 m_31 m_32 m_33 m_34 m_35 m_36 m_37 m_38 m_39 m_40 m_41 m_42 m_43 m_44 m_45 m_46 m_47 m_48 m_49 m_50 m_51 m_52 m_53 m_54 m_55 m_56 m_57 m_58 m_59 fw gr H.size (by first | omega | decide) (show PR 3 _ from (PR.w_3 (by omega) (by omega))) zfw zgr) (cwV 2 hts gX12_force_X12_change rfl rfl rfl (by decide +kernel) ⟨Nat.le_of_ble_eq_true rfl, Nat.le_of_ble_eq_true rfl⟩) (mkV hK hN (hP.sub [0, 1] rfl) (hD.sub [0, 1] (by decide +kernel) rfl) (ci := 12) (q0 := 0) rfl rfl) rfl rfl hl.1 rfl (lv_room (Nat.le_of_ble_eq_true rfl)) dX12_force_16 ⟨Nat.le_of_ble_eq_true rfl, Nat.le_of_ble_eq_true rfl⟩) hP hD hS hA [0, 1] [2] rfl rfl (by decide +kernel) (by decide +kernel) (fun r_98 u_99 H locs hw hP0 hD0 hS0 => ?_))))
    replace hP : va_P D vwCl [(cc_l r0 (K 0) 7 frf), (cc_O m0 12 [.int 0, .int 0, .ref r0, .ref w0, m_4, m_5, m_6, m_7, m_8, m_9, m_10, m_11, m_12, m_13, m_14, m_15, m_16, m_17, m_18, m_19, m_20, m_21, m_22, m_23, m_24, m_25, m_26, m_27, m_28, m_29, m_30, m_31, m_32, m_33, m_34, m_35, m_36, m_37, m_38, m_39, m_40, m_41, m_42, m_43, m_44, m_45, m_46, m_47, m_48, m_49, m_50, m_51, m_52, m_53, m_54, m_55, m_56, m_57, m_58, m_59]), (cc_l w0 (K 0) 5500 (u_99.2.1 0))] H := hP0
    replace hD := as_D hP hD0 rfl
    replace hS := hS0
    clear hP0 hD0 hS0
    obtain ⟨k_100, k_101, k_102, -⟩ := hw
    replace hE := hE.trans (Lt2_in k_102)
    refine lv_goto (tgt := 28) hx hb dX12_force_19 (by decide +kernel) ?_
    rw [← hQ]
    have hP9 := hP.sub (ws' := [(cc_O m0 12 [.int 0, .int 0, .ref r0, .ref w0, m_4, m_5, m_6, m_7, m_8, m_9, m_10, m_11, m_12, m_13, m_14, m_15, m_16, m_17, m_18, m_19, m_20, m_21, m_22, m_23, m_24, m_25, m_26, m_27, m_28, m_29, m_30, m_31, m_32, m_33, m_34, m_35, m_36, m_37, m_38, m_39, m_40, m_41, m_42, m_43, m_44, m_45, m_46, m_47, m_48, m_49, m_50, m_51, m_52, m_53, m_54, m_55, m_56, m_57, m_58, m_59]), (cc_l w0 (K 0) 5500 (u_99.2.1 0)), (cc_l r0 (K 0) 7 frf)]) [1, 2, 0] rfl
    have hD9 := sub_D hP9 hD [1, 2, 0] (by decide +kernel) rfl
    exact W.iret (v := r_98) hx hb hr (fun t ht hW => ⟨⟨r_98, ((fun _ => 0, fun i => match i with | 0 => (u_99.2.1 0) | _ => frf, fun _ => fun _ => 0, fun i => match i with | _ => 0, fun _ => 0, fun _ => fun _ => none) : Su), rfl, ⟨(show (-6) ≤ (0 : Int32).toInt ∧ (0 : Int32).toInt ≤ 0 by decide), k_100, k_101, hE.symm, trivial⟩, (⟨by rw [ht]; exact hP9, hD9⟩ : Wd D A _ t)⟩, hS.F ht⟩) hS.2.2 dX12_force_28
  · replace hE := (hE).trans (if_neg (by first | decide | (intro h9; have h8 := congrArg Int32.toInt h9; omega)))
    refine lv_if_eq (tgt := 22) hx hb dX12_force_10 (by decide +kernel) (fun c_103 => ?_) (fun c_103 => absurd (by decide +kernel) c_103)
    refine lv_aload_n hx hb dX12_force_22 rfl (lv_at hl 0 rfl) (lv_bipush (v := (-2)) hx hb dX12_force_23 (by decide +kernel) (kci (S := Su) (wr := [(cc_l w0 (K 0) 5500 fw)]) (va_runV (As := [.int (-2)]) (rest := []) ⟨hx, hb, hml, hown, hts⟩ (v_tell l D K m0 (-2) (.int 0) sta r0 (.ref w0) m_4 m_5 m_6 m_7 m_8 m_9 m_10 m_11 m_12 m_13 m_14 m_15 m_16 m_17 m_18 m_19 m_20 m_21 m_22 m_23 m_24 m_25 m_26 m_27 m_28 m_29 m_30 m_31 m_32 m_33 m_34 m_35 m_36 m_37 m_38 m_39 m_40 m_41 m_42 m_43 m_44 m_45 m_46 m_47 m_48 m_49 m_50 m_51 m_52 m_53 m_54 m_55 m_56 m_57 m_58 m_59 frf H.size (by first | omega | decide)) (cwV 1 hts gX12_force_X12_tell rfl rfl rfl (by decide +kernel) ⟨Nat.le_of_ble_eq_true rfl, Nat.le_of_ble_eq_true rfl⟩) (mkV hK hN (hP.sub [0, 2] rfl) (hD.sub [0, 2] (by decide +kernel) rfl) (ci := 12) (q0 := 0) rfl rfl) rfl rfl hl.1 rfl (lv_room (Nat.le_of_ble_eq_true rfl)) dX12_force_25 ⟨Nat.le_of_ble_eq_true rfl, Nat.le_of_ble_eq_true rfl⟩) hP hD hS hA [0, 2] [1] rfl rfl (by decide +kernel) (by decide +kernel) (fun r_104 u_105 H locs hw hP0 hD0 hS0 => ?_)))
    replace hP : va_P D vwCl [(cc_l w0 (K 0) 5500 fw), (cc_O m0 12 [.int 0, .int (u_105.2.2.2.1 0), .ref r0, .ref w0, m_4, m_5, m_6, m_7, m_8, m_9, m_10, m_11, m_12, m_13, m_14, m_15, m_16, m_17, m_18, m_19, m_20, m_21, m_22, m_23, m_24, m_25, m_26, m_27, m_28, m_29, m_30, m_31, m_32, m_33, m_34, m_35, m_36, m_37, m_38, m_39, m_40, m_41, m_42, m_43, m_44, m_45, m_46, m_47, m_48, m_49, m_50, m_51, m_52, m_53, m_54, m_55, m_56, m_57, m_58, m_59]), (cc_l r0 (K 0) 7 (u_105.2.1 0))] H := hP0
    replace hD := as_D hP hD0 rfl
    replace hS := hS0
    clear hP0 hD0 hS0
    obtain ⟨h_108, k_106, k_107, -⟩ := hw
    replace hE := (hE.trans (Lt2_in k_107)).trans (Lt2_in rfl)
    rw [← hQ]
    have hP9 := hP.sub (ws' := [(cc_O m0 12 [.int 0, .int (u_105.2.2.2.1 0), .ref r0, .ref w0, m_4, m_5, m_6, m_7, m_8, m_9, m_10, m_11, m_12, m_13, m_14, m_15, m_16, m_17, m_18, m_19, m_20, m_21, m_22, m_23, m_24, m_25, m_26, m_27, m_28, m_29, m_30, m_31, m_32, m_33, m_34, m_35, m_36, m_37, m_38, m_39, m_40, m_41, m_42, m_43, m_44, m_45, m_46, m_47, m_48, m_49, m_50, m_51, m_52, m_53, m_54, m_55, m_56, m_57, m_58, m_59]), (cc_l w0 (K 0) 5500 fw), (cc_l r0 (K 0) 7 (u_105.2.1 0))]) [1, 0, 2] rfl
    have hD9 := sub_D hP9 hD [1, 0, 2] (by decide +kernel) rfl
    exact W.iret (v := r_104) hx hb hr (fun t ht hW => ⟨⟨r_104, ((fun _ => 0, fun i => match i with | 0 => fw | _ => (u_105.2.1 0), fun _ => fun _ => 0, fun i => match i with | _ => (u_105.2.2.2.1 0), fun _ => 0, fun _ => fun _ => none) : Su), rfl, ⟨(show (-6) ≤ ((u_105.2.2.2.1 0) : Int32).toInt ∧ ((u_105.2.2.2.1 0) : Int32).toInt ≤ 0 by omega), zfw, zgr, hE.symm, trivial⟩, (⟨by rw [ht]; exact hP9, hD9⟩ : Wd D A _ t)⟩, hS.F ht⟩) hS.2.2 dX12_force_28
set_option maxRecDepth 100000 in
noncomputable def E_v_canPass_j21 : Int32 :=
  (1 : Int32)
set_option maxRecDepth 100000 in
noncomputable def E_v_canPass (fw : Nat → Int32) : Int32 :=
  Lt (E_v_term 1 fw) (fun r_87 => if r_87 < 999 then (E_v_canPass_j21) else (Lt (E_v_term_0 fw) (fun r_96 => if 23 ≤ r_96 then ((0 : Int32)) else (E_v_canPass_j21))))
set_option maxHeartbeats 4000000 in
set_option maxRecDepth 100000 in
theorem v_canPass (l : Launch) (D : va_G) (K : Nat → ClassId) (m0 : Nat) (m_0 : Value) (m_1 : Value) (m_2 : Value) (w0 : Nat) (m_4 : Value) (m_5 : Value) (m_6 : Value) (m_7 : Value) (m_8 : Value) (m_9 : Value) (m_10 : Value) (m_11 : Value) (m_12 : Value) (m_13 : Value) (m_14 : Value) (m_15 : Value) (m_16 : Value) (m_17 : Value) (m_18 : Value) (m_19 : Value) (m_20 : Value) (m_21 : Value) (m_22 : Value) (m_23 : Value) (m_24 : Value) (m_25 : Value) (m_26 : Value) (m_27 : Value) (m_28 : Value) (m_29 : Value) (m_30 : Value) (m_31 : Value) (m_32 : Value) (m_33 : Value) (m_34 : Value) (m_35 : Value) (m_36 : Value) (m_37 : Value) (m_38 : Value) (m_39 : Value) (m_40 : Value) (m_41 : Value) (m_42 : Value) (m_43 : Value) (m_44 : Value) (m_45 : Value) (m_46 : Value) (m_47 : Value) (m_48 : Value) (m_49 : Value) (m_50 : Value) (m_51 : Value) (m_52 : Value) (m_53 : Value) (m_54 : Value) (m_55 : Value) (m_56 : Value) (m_57 : Value) (m_58 : Value) (m_59 : Value) (fw : Nat → Int32) (sz : Nat) (zfw : RwOK fw) : Met l yX12_canPass wsX12_canPass ({ frames := 1, cells := 0, slots := 0, locals := 21 }) (va_Pc [.ref m0] (Pre D K [(cc_O m0 12 [m_0, m_1, m_2, .ref w0, m_4, m_5, m_6, m_7, m_8, m_9, m_10, m_11, m_12, m_13, m_14, m_15, m_16, m_17, m_18, m_19, m_20, m_21, m_22, m_23, m_24, m_25, m_26, m_27, m_28, m_29, m_30, m_31, m_32, m_33, m_34, m_35, m_36, m_37, m_38, m_39, m_40, m_41, m_42, m_43, m_44, m_45, m_46, m_47, m_48, m_49, m_50, m_51, m_52, m_53, m_54, m_55, m_56, m_57, m_58, m_59]), (cc_l w0 (K 0) 5500 fw)] sz)) (vp_Si (fun r : Int32 => (0 ≤ r.toInt ∧ r.toInt ≤ 1) ∧ (r = E_v_canPass fw) ∧ True)) 0 0 (fun _ => False) := by
  refine Met.ofW (cc := cX12_canPass) (maxL := 1) (ret := (some .boolean)) (by decide +kernel) rfl ?_
  intro p e s m args below meth c s₁ B hml hv
  obtain ⟨rfl, hsz, hP, hK, hD0, hN⟩ := hv
  have hx := B.exec
  have hb := B.bytes
  have hr := B.returns
  have hts := atoms_spec (ws := wsX12_canPass) B.pre
  have hown : s.vm.findClass RX12 = some m.cls := findClass_of_methodNamed B.named
  have hlocks := B.notSynchronized
  subst hsz
  have hD := hD0
  replace hP : va_P D vwCl [(cc_O m0 12 [m_0, m_1, m_2, .ref w0, m_4, m_5, m_6, m_7, m_8, m_9, m_10, m_11, m_12, m_13, m_14, m_15, m_16, m_17, m_18, m_19, m_20, m_21, m_22, m_23, m_24, m_25, m_26, m_27, m_28, m_29, m_30, m_31, m_32, m_33, m_34, m_35, m_36, m_37, m_38, m_39, m_40, m_41, m_42, m_43, m_44, m_45, m_46, m_47, m_48, m_49, m_50, m_51, m_52, m_53, m_54, m_55, m_56, m_57, m_58, m_59]), (cc_l w0 (K 0) 5500 fw)] s.heap := hP
  have hl := lv_entry [.ref m0] (n := 1) (Nat.le_of_ble_eq_true rfl)
  rw [lg_entry_eq]
  generalize (lg_sl [.ref m0] ++ List.replicate (1 - (lg_sl [.ref m0]).length) Slot.unset).toArray = ls at hl ⊢
  have hl : lv_has ls 1 [(0, .ref m0)] := hl
  have hw12 : ∀ w ∈ wsX120, w ∈ wsX12_canPass := fun w h => (List.mem_cons_of_mem _ (List.mem_append_right _ h))
  generalize hQ : MQ below _ _ s _ _ _ = Q
  have hE := E_v_canPass.eq_def fw
  refine lv_aload_n hx hb dX12_canPass_0 rfl (lv_at hl 0 rfl) (lv_iconst (v := 1) hx hb dX12_canPass_1 (by decide +kernel) (pci (va_runV (As := [.int 1]) (rest := []) ⟨hx, hb, hml, hown, hts⟩ (v_term l D K m0 1 m_0 m_1 m_2 w0 m_4 m_5 m_6 m_7 m_8 m_9 m_10 m_11 m_12 m_13 m_14 m_15 m_16 m_17 m_18 m_19 m_20 m_21 m_22 m_23 m_24 m_25 m_26 m_27 m_28 m_29 m_30 m_31 m_32 m_33 m_34 m_35 m_36 m_37 m_38 m_39 m_40 m_41 m_42 m_43 m_44 m_45 m_46 m_47 m_48 m_49 m_50 m_51 m_52 m_53 m_54 m_55 m_56 m_57 m_58 m_59 fw s.heap.size (by first | omega | decide) zfw) (cwV 1 hts gX12_canPass_X12_term rfl rfl rfl (by decide +kernel) ⟨Nat.le_of_ble_eq_true rfl, Nat.le_of_ble_eq_true rfl⟩) (mkV hK hN (hP.sub [0, 1] rfl) (hD.sub [0, 1] (by decide +kernel) rfl) (ci := 12) (q0 := 0) rfl rfl) rfl rfl hl.1 rfl (lv_room (Nat.le_of_ble_eq_true rfl)) dX12_canPass_2 ⟨Nat.le_of_ble_eq_true rfl, Nat.le_of_ble_eq_true rfl⟩) (fun r_87 hw => ?_)))
  obtain ⟨k_88, -⟩ := hw
  replace hE := hE.trans (Lt_in k_88)
  refine lv_sipush (v := 999) hx hb dX12_canPass_5 (by decide +kernel) ?_
  have j_94 : ∀ (hE : E_v_canPass fw = E_v_canPass_j21) (ls : Array Slot) (hl : lv_has ls 1 []), W p l e ({ frames := 1, cells := 0, slots := 0, locals := 21 }) s m (([.ref m0] : List Value).toArray) below meth c s.heap [] 0 0 Q (F0 m 21 ls []) := by
    clear hE hl
    intro hE ls hl
    replace hE := hE.trans (E_v_canPass_j21.eq_def )
    refine lv_iconst (v := 1) hx hb dX12_canPass_21 (by decide +kernel) (lv_goto (tgt := 26) hx hb dX12_canPass_22 (by decide +kernel) ?_)
    rw [← hQ]
    exact W.zret (v := 1) hx hb hr (by decide +kernel) (fun t ht hW => ⟨_, rfl, ⟨(show 0 ≤ (1 : Int32).toInt ∧ (1 : Int32).toInt ≤ 1 by decide), hE.symm, trivial⟩, ht⟩) (fun q hq => by cases hq) dX12_canPass_26
  refine lv_icmp_lt (tgt := 21) hx hb dX12_canPass_8 (by decide +kernel) (fun c_95 => ?_) (fun c_95 => ?_)
  · have c_95i := i_lt (x := r_87.toInt) (y := 999) rfl rfl c_95
    replace hE := hE.trans (if_pos c_95)
    exact j_94   hE ls (lv_sub hl [] rfl)
  · have c_95i := i_nlt (x := r_87.toInt) (y := 999) rfl rfl c_95
    replace hE := hE.trans (if_neg c_95)
    refine lv_aload_n hx hb dX12_canPass_11 rfl (lv_at hl 0 rfl) (lv_iconst (v := 0) hx hb dX12_canPass_12 (by decide +kernel) (pci (va_runV (As := [.int 0]) (rest := []) ⟨hx, hb, hml, hown, hts⟩ (v_term_0 l D K m0 m_0 m_1 m_2 w0 m_4 m_5 m_6 m_7 m_8 m_9 m_10 m_11 m_12 m_13 m_14 m_15 m_16 m_17 m_18 m_19 m_20 m_21 m_22 m_23 m_24 m_25 m_26 m_27 m_28 m_29 m_30 m_31 m_32 m_33 m_34 m_35 m_36 m_37 m_38 m_39 m_40 m_41 m_42 m_43 m_44 m_45 m_46 m_47 m_48 m_49 m_50 m_51 m_52 m_53 m_54 m_55 m_56 m_57 m_58 m_59 fw s.heap.size zfw) (cwV 1 hts gX12_canPass_X12_term rfl rfl rfl (by decide +kernel) ⟨Nat.le_of_ble_eq_true rfl, Nat.le_of_ble_eq_true rfl⟩) (mkV hK hN (hP.sub [0, 1] rfl) (hD.sub [0, 1] (by decide +kernel) rfl) (ci := 12) (q0 := 0) rfl rfl) rfl rfl hl.1 rfl (lv_room (Nat.le_of_ble_eq_true rfl)) dX12_canPass_13 ⟨Nat.le_of_ble_eq_true rfl, Nat.le_of_ble_eq_true rfl⟩) (fun r_96 hw => ?_)))
    obtain ⟨h_98, k_97, -⟩ := hw
    replace hE := hE.trans (Lt_in k_97)
    refine lv_bipush (v := 23) hx hb dX12_canPass_16 (by decide +kernel) (lv_icmp_ge (tgt := 25) hx hb dX12_canPass_18 (by decide +kernel) (fun c_99 => ?_) (fun c_99 => ?_))
    · have c_99i := i_le (x := 23) (y := r_96.toInt) rfl rfl c_99
      replace hE := hE.trans (if_pos c_99)
      refine lv_iconst (v := 0) hx hb dX12_canPass_25 (by decide +kernel) ?_
      rw [← hQ]
      exact W.zret (v := 0) hx hb hr (by decide +kernel) (fun t ht hW => ⟨_, rfl, ⟨(show 0 ≤ (0 : Int32).toInt ∧ (0 : Int32).toInt ≤ 1 by decide), hE.symm, trivial⟩, ht⟩) (fun q hq => by cases hq) dX12_canPass_26
    · have c_99i := i_nle (x := 23) (y := r_96.toInt) rfl rfl c_99
      replace hE := hE.trans (if_neg c_99)
      exact j_94   hE ls (lv_sub hl [] rfl)
set_option maxRecDepth 100000 in
noncomputable def E_v_passIt_l69 (r_679 : Int32) (v_757 : Int32) (v_758 : Int32) (v_759 : Int64) (v_760 : Int64) (f_761 : Nat → Int32) (f_762 : Nat → Int64) (f_763 : Nat → Int64) (rec_949 : Int32 → (Nat → Int32) → (Int32 × Int32 × Int32 × Int64 × Int64 × (Nat → Int32) × (Nat → Int64) × (Nat → Int64) × (Nat → Int32))) (v_897 : Int32) (f_898 : Nat → Int32) : Int32 × Int32 × Int32 × Int64 × Int64 × (Nat → Int32) × (Nat → Int64) × (Nat → Int64) × (Nat → Int32) :=
  Lt (f_898 (0 : Int32).toNatClampNeg : Int32) (fun x_951 => if x_951 ≤ v_897 then (Lt (E_v_goOn f_898) (fun u_954_2_1_0 => ((r_679, v_757, v_758, v_759, v_760, u_954_2_1_0, f_762, f_763, f_761) : Int32 × Int32 × Int32 × Int64 × Int64 × (Nat → Int32) × (Nat → Int64) × (Nat → Int64) × (Nat → Int32)))) else (Lt (27 + v_897 : Int32) (fun x_958 => Lt (27 + v_897 : Int32) (fun x_959 => Lt (f_898 (x_959 : Int32).toNatClampNeg : Int32) (fun x_960 => Lt (11 + v_897 : Int32) (fun x_961 => Lt (f_898 (x_961 : Int32).toNatClampNeg : Int32) (fun x_962 => Lt (x_960 + x_962 : Int32) (fun x_963 => Lt ((x_963 : Int32).toInt64 : Int64) (fun x_964 => Lt (E_v_within_9999 x_964) (fun r_965 => Lt (upd f_898 (x_958 : Int32).toNatClampNeg r_965 : Nat → Int32) (fun f_968 => Lt (11 + v_897 : Int32) (fun x_969 => Lt (11 + v_897 : Int32) (fun x_970 => Lt (f_968 (x_970 : Int32).toNatClampNeg : Int32) (fun x_971 => Lt (f_761 (v_897 : Int32).toNatClampNeg : Int32) (fun x_972 => Lt (x_971 - x_972 : Int32) (fun x_973 => Lt ((x_973 : Int32).toInt64 : Int64) (fun x_974 => Lt (E_v_within_20 x_974) (fun r_975 => Lt (upd f_968 (x_969 : Int32).toNatClampNeg r_975 : Nat → Int32) (fun f_978 => Lt (v_897 + Int32.ofInt 1 : Int32) (fun x_979 => rec_949 x_979 f_978))))))))))))))))))))
set_option maxRecDepth 100000 in
noncomputable def E_v_passIt_l34 (r_679 : Int32) (f_692 : Nat → Int32) (rec_792 : Int32 → Int32 → Int32 → Int64 → Int64 → (Nat → Int32) → (Nat → Int64) → (Nat → Int64) → (Int32 × Int32 × Int32 × Int64 × Int64 × (Nat → Int32) × (Nat → Int64) × (Nat → Int64) × (Nat → Int32))) (v_756 : Int32) (v_757 : Int32) (v_758 : Int32) (v_759 : Int64) (v_760 : Int64) (f_761 : Nat → Int32) (f_762 : Nat → Int64) (f_763 : Nat → Int64) : Int32 × Int32 × Int32 × Int64 × Int64 × (Nat → Int32) × (Nat → Int64) × (Nat → Int64) × (Nat → Int32) :=
  Lt (f_692 (0 : Int32).toNatClampNeg : Int32) (fun x_794 => if x_794 ≤ v_756 then (Lp (α := Int32 → (Nat → Int32) → (Int32 × Int32 × Int32 × Int64 × Int64 × (Nat → Int32) × (Nat → Int64) × (Nat → Int64) × (Nat → Int32))) (E_v_passIt_l69 r_679 v_757 v_758 v_759 v_760 f_761 f_762 f_763) (fun _ _ => ((0, 0, 0, 0, 0, fun _ => 0, fun _ => 0, fun _ => 0, fun _ => 0) : Int32 × Int32 × Int32 × Int64 × Int64 × (Nat → Int32) × (Nat → Int64) × (Nat → Int64) × (Nat → Int32))) ((9 - (0 : Int32).toInt : Int).toNat + 1) 0 f_692) else (Lt (f_692 (3 : Int32).toNatClampNeg : Int32) (fun x_980 => Lt2 (E_v_burnsOf x_980 v_756 v_757 v_758 v_759 v_760 f_692 f_762 f_763) (fun r_981 q0_r_981 => Lt2 q0_r_981 (fun u_982_2_2_2_1_0 q1_u_982_2_2_2_1_0 => Lt2 q1_u_982_2_2_2_1_0 (fun u_982_2_2_2_1_1 q2_u_982_2_2_2_1_1 => Lt2 q2_u_982_2_2_2_1_1 (fun u_982_2_2_2_2_1_0 q3_u_982_2_2_2_2_1_0 => Lt2 q3_u_982_2_2_2_2_1_0 (fun u_982_2_2_2_2_1_1 q4_u_982_2_2_2_2_1_1 => Lt2 q4_u_982_2_2_2_2_1_1 (fun u_982_2_2_1_0 u_982_2_2_1_1 => Lt (upd f_761 (v_756 : Int32).toNatClampNeg r_981 : Nat → Int32) (fun f_986 => Lt (v_756 + Int32.ofInt 1 : Int32) (fun x_987 => rec_792 x_987 u_982_2_2_2_1_0 u_982_2_2_2_1_1 u_982_2_2_2_2_1_0 u_982_2_2_2_2_1_1 f_986 u_982_2_2_1_0 u_982_2_2_1_1)))))))))))
set_option maxRecDepth 100000 in
noncomputable def E_v_passIt (lw : Int32) (bro : Int32) (val : Int64) (sm : Int64) (fw : Nat → Int32) (fe : Nat → Int64) (frs : Nat → Int64) (fb : Nat → Int32) : Int32 × Int32 × Int32 × Int64 × Int64 × (Nat → Int32) × (Nat → Int64) × (Nat → Int64) × (Nat → Int32) :=
  Lt (E_v_isMet fw) (fun r_679 => Lt (fw (10 : Int32).toNatClampNeg : Int32) (fun x_682 => Lt2 (E_v_discords lw bro val sm fw fe frs) (fun r_683 q0_r_683 => Lt2 q0_r_683 (fun u_684_2_2_2_1_0 q1_u_684_2_2_2_1_0 => Lt2 q1_u_684_2_2_2_1_0 (fun u_684_2_2_2_1_1 q2_u_684_2_2_2_1_1 => Lt2 q2_u_684_2_2_2_1_1 (fun u_684_2_2_2_2_1_0 q3_u_684_2_2_2_2_1_0 => Lt2 q3_u_684_2_2_2_2_1_0 (fun u_684_2_2_2_2_1_1 q4_u_684_2_2_2_2_1_1 => Lt2 q4_u_684_2_2_2_2_1_1 (fun u_684_2_2_1_0 u_684_2_2_1_1 => Lt (x_682 + r_683 : Int32) (fun x_687 => Lt ((x_687 : Int32).toInt64 : Int64) (fun x_688 => Lt (E_v_within_99999 x_688) (fun r_689 => Lt (upd fw (10 : Int32).toNatClampNeg r_689 : Nat → Int32) (fun f_692 => Lp (α := Int32 → Int32 → Int32 → Int64 → Int64 → (Nat → Int32) → (Nat → Int64) → (Nat → Int64) → (Int32 × Int32 × Int32 × Int64 × Int64 × (Nat → Int32) × (Nat → Int64) × (Nat → Int64) × (Nat → Int32))) (E_v_passIt_l34 r_679 f_692) (fun _ _ _ _ _ _ _ _ => ((0, 0, 0, 0, 0, fun _ => 0, fun _ => 0, fun _ => 0, fun _ => 0) : Int32 × Int32 × Int32 × Int64 × Int64 × (Nat → Int32) × (Nat → Int64) × (Nat → Int64) × (Nat → Int32))) ((9 - (0 : Int32).toInt : Int).toNat + 1) 0 u_684_2_2_2_1_0 u_684_2_2_2_1_1 u_684_2_2_2_2_1_0 u_684_2_2_2_2_1_1 fb u_684_2_2_1_0 u_684_2_2_1_1))))))))))))
set_option maxHeartbeats 4000000 in
set_option maxRecDepth 100000 in
theorem v_passIt (l : Launch) (D : va_G) (K : Nat → ClassId) (m0 : Nat) (m_0 : Value) (m_1 : Value) (m_2 : Value) (w0 : Nat) (m_4 : Value) (m_5 : Value) (m_6 : Value) (m_7 : Value) (m_8 : Value) (m_9 : Value) (m_10 : Value) (m_11 : Value) (m_12 : Value) (m_13 : Value) (m_14 : Value) (m_15 : Value) (m_16 : Value) (m_17 : Value) (m_18 : Value) (m_19 : Value) (m_21 : Value) (m_22 : Value) (m_23 : Value) (m_24 : Value) (m_25 : Value) (m_26 : Value) (m_27 : Value) (m_28 : Value) (m_29 : Value) (m_30 : Value) (m_31 : Value) (m_32 : Value) (m_33 : Value) (lw : Int32) (e0 : Nat) (m_36 : Value) (q0 : Nat) (bro : Int32) (val : Int64) (sm : Int64) (b0 : Nat) (m_42 : Value) (m_43 : Value) (m_44 : Value) (m_45 : Value) (m_46 : Value) (m_47 : Value) (m_48 : Value) (m_49 : Value) (m_50 : Value) (m_51 : Value) (m_52 : Value) (m_53 : Value) (m_54 : Value) (m_55 : Value) (m_56 : Value) (m_57 : Value) (m_58 : Value) (m_59 : Value) (fw : Nat → Int32) (gr : Nat → Int32) (fe : Nat → Int64) (frs : Nat → Int64) (fb : Nat → Int32) (sz : Nat) (zbro : 0 ≤ bro.toInt ∧ bro.toInt ≤ 1) (zfw : RwOK fw) (zgr : FzM gr fw) : Met l yX12_passIt wsX12_passIt ({ frames := 5, cells := 0, slots := 0, locals := 125 }) (va_Pc [.ref m0] (Pre D K [(cc_O m0 12 [m_0, m_1, m_2, .ref w0, m_4, m_5, m_6, m_7, m_8, m_9, m_10, m_11, m_12, m_13, m_14, m_15, m_16, m_17, m_18, m_19, .int 0, m_21, m_22, m_23, m_24, m_25, m_26, m_27, m_28, m_29, m_30, m_31, m_32, m_33, .int lw, .ref e0, m_36, .ref q0, .int bro, .long val, .long sm, .ref b0, m_42, m_43, m_44, m_45, m_46, m_47, m_48, m_49, m_50, m_51, m_52, m_53, m_54, m_55, m_56, m_57, m_58, m_59]), (cc_l w0 (K 0) 5500 fw), (cc_rl e0 (K 2) 13 fe), (cc_rl q0 (K 2) 400 frs), (cc_l b0 (K 0) 8 fb)] sz)) (va_Qi (S := Su) (fun (r : Int32) (u : Su) => (0 ≤ r.toInt ∧ r.toInt ≤ 1) ∧ (0 ≤ (u.2.2.2.1 1).toInt ∧ (u.2.2.2.1 1).toInt ≤ 1) ∧ (RwOK (u.2.1 0)) ∧ (FzM gr (u.2.1 0)) ∧ ((r, (u.2.2.2.1 0), (u.2.2.2.1 1), (u.2.2.2.2.1 0), (u.2.2.2.2.1 1), (u.2.1 0), (u.2.2.1 0), (u.2.2.1 1), (u.2.1 1)) = E_v_passIt lw bro val sm fw fe frs fb) ∧ True) (fun u t => Wd D (va_A [(cc_O m0 12 [m_0, m_1, m_2, .ref w0, m_4, m_5, m_6, m_7, m_8, m_9, m_10, m_11, m_12, m_13, m_14, m_15, m_16, m_17, m_18, m_19, .int 0, m_21, m_22, m_23, m_24, m_25, m_26, m_27, m_28, m_29, m_30, m_31, m_32, m_33, .int lw, .ref e0, m_36, .ref q0, .int bro, .long val, .long sm, .ref b0, m_42, m_43, m_44, m_45, m_46, m_47, m_48, m_49, m_50, m_51, m_52, m_53, m_54, m_55, m_56, m_57, m_58, m_59]), (cc_l w0 (K 0) 5500 fw), (cc_rl e0 (K 2) 13 fe), (cc_rl q0 (K 2) 400 frs), (cc_l b0 (K 0) 8 fb)] sz) ((fun u => [(cc_O m0 12 [m_0, m_1, m_2, .ref w0, m_4, m_5, m_6, m_7, m_8, m_9, m_10, m_11, m_12, m_13, m_14, m_15, m_16, m_17, m_18, m_19, .int 0, m_21, m_22, m_23, m_24, m_25, m_26, m_27, m_28, m_29, m_30, m_31, m_32, m_33, .int (u.2.2.2.1 0), .ref e0, m_36, .ref q0, .int (u.2.2.2.1 1), .long (u.2.2.2.2.1 0), .long (u.2.2.2.2.1 1), .ref b0, m_42, m_43, m_44, m_45, m_46, m_47, m_48, m_49, m_50, m_51, m_52, m_53, m_54, m_55, m_56, m_57, m_58, m_59]), (cc_l w0 (K 0) 5500 (u.2.1 0)), (cc_rl e0 (K 2) 13 (u.2.2.1 0)), (cc_rl q0 (K 2) 400 (u.2.2.1 1)), (cc_l b0 (K 0) 8 (u.2.1 1))]) u) t) (va_A [(cc_O m0 12 [m_0, m_1, m_2, .ref w0, m_4, m_5, m_6, m_7, m_8, m_9, m_10, m_11, m_12, m_13, m_14, m_15, m_16, m_17, m_18, m_19, .int 0, m_21, m_22, m_23, m_24, m_25, m_26, m_27, m_28, m_29, m_30, m_31, m_32, m_33, .int lw, .ref e0, m_36, .ref q0, .int bro, .long val, .long sm, .ref b0, m_42, m_43, m_44, m_45, m_46, m_47, m_48, m_49, m_50, m_51, m_52, m_53, m_54, m_55, m_56, m_57, m_58, m_59]), (cc_l w0 (K 0) 5500 fw), (cc_rl e0 (K 2) 13 fe), (cc_rl q0 (K 2) 400 frs), (cc_l b0 (K 0) 8 fb)] sz)) 0 0 (va_A [(cc_O m0 12 [m_0, m_1, m_2, .ref w0, m_4, m_5, m_6, m_7, m_8, m_9, m_10, m_11, m_12, m_13, m_14, m_15, m_16, m_17, m_18, m_19, .int 0, m_21, m_22, m_23, m_24, m_25, m_26, m_27, m_28, m_29, m_30, m_31, m_32, m_33, .int lw, .ref e0, m_36, .ref q0, .int bro, .long val, .long sm, .ref b0, m_42, m_43, m_44, m_45, m_46, m_47, m_48, m_49, m_50, m_51, m_52, m_53, m_54, m_55, m_56, m_57, m_58, m_59]), (cc_l w0 (K 0) 5500 fw), (cc_rl e0 (K 2) 13 fe), (cc_rl q0 (K 2) 400 frs), (cc_l b0 (K 0) 8 fb)] sz) := by
  refine Met.ofW (cc := cX12_passIt) (maxL := 3) (ret := (some .boolean)) (by decide +kernel) rfl ?_
  intro p e s m args below meth c s₁ B hml hv
  obtain ⟨rfl, hsz, hP, hK, hD0, hN⟩ := hv
  have hx := B.exec
  have hb := B.bytes
  have hr := B.returns
  have hts := atoms_spec (ws := wsX12_passIt) B.pre
  have hown : s.vm.findClass RX12 = some m.cls := findClass_of_methodNamed B.named
  have hlocks := B.notSynchronized
  subst hsz
  have hD := hD0.self (sz := s.heap.size)
  generalize hAe : va_A [(cc_O m0 12 [m_0, m_1, m_2, .ref w0, m_4, m_5, m_6, m_7, m_8, m_9, m_10, m_11, m_12, m_13, m_14, m_15, m_16, m_17, m_18, m_19, .int 0, m_21, m_22, m_23, m_24, m_25, m_26, m_27, m_28, m_29, m_30, m_31, m_32, m_33, .int lw, .ref e0, m_36, .ref q0, .int bro, .long val, .long sm, .ref b0, m_42, m_43, m_44, m_45, m_46, m_47, m_48, m_49, m_50, m_51, m_52, m_53, m_54, m_55, m_56, m_57, m_58, m_59]), (cc_l w0 (K 0) 5500 fw), (cc_rl e0 (K 2) 13 fe), (cc_rl q0 (K 2) 400 frs), (cc_l b0 (K 0) 8 fb)] s.heap.size = A at hD ⊢
  have hA : ∀ q : Nat, s.heap.size ≤ q → A q := fun q h => by rw [← hAe]; exact Or.inr h
  clear hAe
  have hS : va_S A s.heap s.heap [] := va_S.rf
  replace hP : va_P D vwCl [(cc_O m0 12 [m_0, m_1, m_2, .ref w0, m_4, m_5, m_6, m_7, m_8, m_9, m_10, m_11, m_12, m_13, m_14, m_15, m_16, m_17, m_18, m_19, .int 0, m_21, m_22, m_23, m_24, m_25, m_26, m_27, m_28, m_29, m_30, m_31, m_32, m_33, .int lw, .ref e0, m_36, .ref q0, .int bro, .long val, .long sm, .ref b0, m_42, m_43, m_44, m_45, m_46, m_47, m_48, m_49, m_50, m_51, m_52, m_53, m_54, m_55, m_56, m_57, m_58, m_59]), (cc_l w0 (K 0) 5500 fw), (cc_rl e0 (K 2) 13 fe), (cc_rl q0 (K 2) 400 frs), (cc_l b0 (K 0) 8 fb)] s.heap := hP
  have hl := lv_entry [.ref m0] (n := 3) (Nat.le_of_ble_eq_true rfl)
  rw [lg_entry_eq]
  generalize (lg_sl [.ref m0] ++ List.replicate (3 - (lg_sl [.ref m0]).length) Slot.unset).toArray = ls at hl ⊢
  have hl : lv_has ls 3 [(0, .ref m0)] := hl
  have hw12 : ∀ w ∈ wsX120, w ∈ wsX12_passIt := fun w h => (List.mem_cons_of_mem _ (List.mem_append_right _ h))
  generalize hQ : MQ below _ _ s _ _ _ = Q
  have hE := E_v_passIt.eq_def lw bro val sm fw fe frs fb
  refine lv_aload_n hx hb dX12_passIt_0 rfl (lv_at hl 0 rfl) (pci (va_runV (As := []) (rest := []) ⟨hx, hb, hml, hown, hts⟩ (v_isMet l D K m0 m_0 m_1 m_2 w0 m_4 m_5 m_6 m_7 m_8 m_9 m_10 m_11 m_12 m_13 m_14 m_15 m_16 m_17 m_18 m_19 (.int 0) m_21 m_22 m_23 m_24 m_25 m_26 m_27 m_28 m_29 m_30 m_31 m_32 m_33 (.int lw) (.ref e0) m_36 (.ref q0) (.int bro) (.long val) (.long sm) (.ref b0) m_42 m_43 m_44 m_45 m_46 m_47 m_48 m_49 m_50 m_51 m_52 m_53 m_54 m_55 m_56 m_57 m_58 m_59 fw s.heap.size zfw) (cwV 0 hts gX12_passIt_X12_isMet rfl rfl rfl (by decide +kernel) ⟨Nat.le_of_ble_eq_true rfl, Nat.le_of_ble_eq_true rfl⟩) (mkV hK hN (hP.sub [0, 1] rfl) (hD.sub [0, 1] (by decide +kernel) rfl) (ci := 12) (q0 := 0) rfl rfl) rfl rfl hl.1 rfl (lv_room (Nat.le_of_ble_eq_true rfl)) dX12_passIt_1 ⟨Nat.le_of_ble_eq_true rfl, Nat.le_of_ble_eq_true rfl⟩) (fun r_679 hw => ?_))
  obtain ⟨h_681, k_680, -⟩ := hw
  replace hE := hE.trans (Lt_in k_680)
  refine lv_istore_n (lv' := [(1, .int r_679), (0, .ref m0)]) hx hb dX12_passIt_4 rfl hl (by decide +kernel) rfl (fun ls hl => ?_)
  refine lv_aload_n hx hb dX12_passIt_5 rfl (lv_at hl 1 rfl) (va_get (ci := 12) (v := .ref w0) (C := RX12) (T := TX12) (N := 60) hx hb hts hw12 hown hK hP 0 rfl rfl 3 (by decide +kernel) (hts _ mm_X12_passIt_833) (fun _ h9 => h9) rfl dX12_passIt_6 (lv_bipush (v := 10) hx hb dX12_passIt_9 (by decide +kernel) (lv_aload_n hx hb dX12_passIt_11 rfl (lv_at hl 1 rfl) (va_get (ci := 12) (v := .ref w0) (C := RX12) (T := TX12) (N := 60) hx hb hts hw12 hown hK hP 0 rfl rfl 3 (by decide +kernel) (hts _ mm_X12_passIt_833) (fun _ h9 => h9) rfl dX12_passIt_12 (lv_bipush (v := 10) hx hb dX12_passIt_15 (by decide +kernel) (va_iald hx hb hK hP 1 0 rfl rfl (i_in (x := 10) rfl (by omega)) dX12_passIt_17 (lv_topi (fun x_682 ex_682 => ?_))))))))
  replace hE := hE.trans (Lt_in ex_682)
  have px_682 := RwOK.at zfw (show (10 : Int32).toInt = 10 from rfl) (show 0 ≤ 10 ∧ 10 < 100 by omega)
  rw [← ex_682] at px_682
  refine lv_aload_n hx hb dX12_passIt_18 rfl (lv_at hl 1 rfl) (kci (S := Su) (wr := [(cc_l b0 (K 0) 8 fb)]) (va_runV (As := []) (rest := [.int x_682, .int 10, .ref w0]) ⟨hx, hb, hml, hown, hts⟩ (v_discords l D K m0 m_0 m_1 m_2 w0 m_4 m_5 m_6 m_7 m_8 m_9 m_10 m_11 m_12 m_13 m_14 m_15 m_16 m_17 m_18 m_19 m_21 m_22 m_23 m_24 m_25 m_26 m_27 m_28 m_29 m_30 m_31 m_32 m_33 lw e0 m_36 q0 bro val sm (.ref b0) m_42 m_43 m_44 m_45 m_46 m_47 m_48 m_49 m_50 m_51 m_52 m_53 m_54 m_55 m_56 m_57 m_58 m_59 fw gr fe frs s.heap.size (by first | omega | decide) zfw zgr) (cwV 0 hts gX12_passIt_X12_discords rfl rfl rfl (by decide +kernel) ⟨Nat.le_of_ble_eq_true rfl, Nat.le_of_ble_eq_true rfl⟩) (mkV hK hN (hP.sub [0, 1, 2, 3] rfl) (hD.sub [0, 1, 2, 3] (by decide +kernel) rfl) (ci := 12) (q0 := 0) rfl rfl) rfl rfl hl.1 rfl (lv_room (Nat.le_of_ble_eq_true rfl)) dX12_passIt_19 ⟨Nat.le_of_ble_eq_true rfl, Nat.le_of_ble_eq_true rfl⟩) hP hD hS hA [0, 1, 2, 3] [4] rfl rfl (by decide +kernel) (by decide +kernel) (fun r_683 u_684 H locs hw hP0 hD0 hS0 => ?_))
  replace hP : va_P D vwCl [(cc_l b0 (K 0) 8 fb), (cc_O m0 12 [m_0, m_1, m_2, .ref w0, m_4, m_5, m_6, m_7, m_8, m_9, m_10, m_11, m_12, m_13, m_14, m_15, m_16, m_17, m_18, m_19, .int 0, m_21, m_22, m_23, m_24, m_25, m_26, m_27, m_28, m_29, m_30, m_31, m_32, m_33, .int (u_684.2.2.2.1 0), .ref e0, m_36, .ref q0, .int (u_684.2.2.2.1 1), .long (u_684.2.2.2.2.1 0), .long (u_684.2.2.2.2.1 1), .ref b0, m_42, m_43, m_44, m_45, m_46, m_47, m_48, m_49, m_50, m_51, m_52, m_53, m_54, m_55, m_56, m_57, m_58, m_59]), (cc_l w0 (K 0) 5500 fw), (cc_rl e0 (K 2) 13 (u_684.2.2.1 0)), (cc_rl q0 (K 2) 400 (u_684.2.2.1 1))] H := hP0
  replace hD := as_D hP hD0 rfl
  replace hS := hS0
  clear hP0 hD0 hS0
  obtain ⟨k_685, k_686, -⟩ := hw
  replace hE := (((((hE.trans (Lt2_in k_686)).trans (Lt2_in rfl)).trans (Lt2_in rfl)).trans (Lt2_in rfl)).trans (Lt2_in rfl)).trans (Lt2_in rfl)
  refine lv_iadd hx hb dX12_passIt_22 (lv_topi (fun x_687 ex_687 => ?_))
  replace hE := hE.trans (Lt_in ex_687)
  refine lv_i2l hx hb dX12_passIt_23 rfl (lv_topl (fun x_688 ex_688 => ?_))
  replace hE := hE.trans (Lt_in ex_688)
  have hx_688 : x_688.toInt = x_687.toInt := by rw [ex_688]; exact i_wide rfl
  have hbx_688 := i_rng (a := x_687) rfl
  refine lv_iconst (v := 0) hx hb dX12_passIt_24 (by decide +kernel) (lv_ldcw (v := 99999) hx hb hown (hts _ mm_X12_passIt_1244) dX12_passIt_25 (pci (va_runS (As := [.long x_688, .int 0, .int 99999]) (rest := [.int 10, .ref w0]) ⟨hx, hb, hml, hown, hts⟩ (v_within_99999 l D K x_688 H.size) (va_cwS 3 hts gX12_passIt_X12_within rfl rfl rfl (by decide +kernel) ⟨Nat.le_of_ble_eq_true rfl, Nat.le_of_ble_eq_true rfl⟩) (mkS hK hN (va_P.nil) (va_D.nil (A := fun _ => True))) rfl rfl hl.1 rfl (lv_room (Nat.le_of_ble_eq_true rfl)) dX12_passIt_28 ⟨Nat.le_of_ble_eq_true rfl, Nat.le_of_ble_eq_true rfl⟩) (fun r_689 hw => ?_)))
  obtain ⟨h_691, k_690, -⟩ := hw
  replace hE := hE.trans (Lt_in k_690)
  refine va_iast hx hb hK hP hD hS 2 0 rfl rfl (i_in (x := 10) rfl (by omega)) dX12_passIt_31 (fun H locs hP0 hD0 hS0 => ?_)
  replace hP := hP0
  replace hD := hD0
  replace hS := hS0
  clear hP0 hD0 hS0
  generalize hf_692 : (upd fw (10 : Int32).toNatClampNeg r_689) = f_692 at hP hD
  replace hE := hE.trans (Lt_in hf_692.symm)
  have hf_692_0 : RwOK f_692 := by rw [← hf_692]; exact RwOK.upd zfw (show (10 : Int32).toInt = 10 from rfl) (by omega) rfl (PR.free (by omega))
  have hf_692_1 : FzM gr f_692 := by rw [← hf_692]; exact FzM.put zgr (show (10 : Int32).toInt = 10 from rfl) (by omega)
  replace hP : va_P D vwCl [(cc_l b0 (K 0) 8 fb), (cc_O m0 12 [m_0, m_1, m_2, .ref w0, m_4, m_5, m_6, m_7, m_8, m_9, m_10, m_11, m_12, m_13, m_14, m_15, m_16, m_17, m_18, m_19, .int 0, m_21, m_22, m_23, m_24, m_25, m_26, m_27, m_28, m_29, m_30, m_31, m_32, m_33, .int (u_684.2.2.2.1 0), .ref e0, m_36, .ref q0, .int (u_684.2.2.2.1 1), .long (u_684.2.2.2.2.1 0), .long (u_684.2.2.2.2.1 1), .ref b0, m_42, m_43, m_44, m_45, m_46, m_47, m_48, m_49, m_50, m_51, m_52, m_53, m_54, m_55, m_56, m_57, m_58, m_59]), (cc_l w0 (K 0) 5500 f_692), (cc_rl e0 (K 2) 13 (u_684.2.2.1 0)), (cc_rl q0 (K 2) 400 (u_684.2.2.1 1))] H := hP
  replace hD := as_D hP hD rfl
  refine lv_iconst (v := 0) hx hb dX12_passIt_32 (by decide +kernel) (lv_istore_n (lv' := [(2, .int 0), (1, .int r_679), (0, .ref m0)]) hx hb dX12_passIt_33 rfl hl (by decide +kernel) rfl (fun ls hl => ?_))
  have lp_792 : ∀ (nn_ : Nat) (v_756 : Int32) (v_757 : Int32) (v_758 : Int32) (v_759 : Int64) (v_760 : Int64) (f_761 : Nat → Int32) (f_762 : Nat → Int64) (f_763 : Nat → Int64) (hv_756 : 0 ≤ v_756.toInt ∧ v_756.toInt ≤ 8) (hv_758 : 0 ≤ v_758.toInt ∧ v_758.toInt ≤ 1) (hn : (9 - v_756.toInt : Int).toNat < nn_) (hE : E_v_passIt lw bro val sm fw fe frs fb = Lp (α := Int32 → Int32 → Int32 → Int64 → Int64 → (Nat → Int32) → (Nat → Int64) → (Nat → Int64) → (Int32 × Int32 × Int32 × Int64 × Int64 × (Nat → Int32) × (Nat → Int64) × (Nat → Int64) × (Nat → Int32))) (E_v_passIt_l34 r_679 f_692) (fun _ _ _ _ _ _ _ _ => ((0, 0, 0, 0, 0, fun _ => 0, fun _ => 0, fun _ => 0, fun _ => 0) : Int32 × Int32 × Int32 × Int64 × Int64 × (Nat → Int32) × (Nat → Int64) × (Nat → Int64) × (Nat → Int32))) nn_ v_756 v_757 v_758 v_759 v_760 f_761 f_762 f_763) (H : Heap) (locs : List Loc) (hP : va_P D vwCl [(cc_l b0 (K 0) 8 f_761), (cc_O m0 12 [m_0, m_1, m_2, .ref w0, m_4, m_5, m_6, m_7, m_8, m_9, m_10, m_11, m_12, m_13, m_14, m_15, m_16, m_17, m_18, m_19, .int 0, m_21, m_22, m_23, m_24, m_25, m_26, m_27, m_28, m_29, m_30, m_31, m_32, m_33, .int v_757, .ref e0, m_36, .ref q0, .int v_758, .long v_759, .long v_760, .ref b0, m_42, m_43, m_44, m_45, m_46, m_47, m_48, m_49, m_50, m_51, m_52, m_53, m_54, m_55, m_56, m_57, m_58, m_59]), (cc_l w0 (K 0) 5500 f_692), (cc_rl e0 (K 2) 13 f_762), (cc_rl q0 (K 2) 400 f_763)] H) (hD : va_D A [(cc_l b0 (K 0) 8 f_761), (cc_O m0 12 [m_0, m_1, m_2, .ref w0, m_4, m_5, m_6, m_7, m_8, m_9, m_10, m_11, m_12, m_13, m_14, m_15, m_16, m_17, m_18, m_19, .int 0, m_21, m_22, m_23, m_24, m_25, m_26, m_27, m_28, m_29, m_30, m_31, m_32, m_33, .int v_757, .ref e0, m_36, .ref q0, .int v_758, .long v_759, .long v_760, .ref b0, m_42, m_43, m_44, m_45, m_46, m_47, m_48, m_49, m_50, m_51, m_52, m_53, m_54, m_55, m_56, m_57, m_58, m_59]), (cc_l w0 (K 0) 5500 f_692), (cc_rl e0 (K 2) 13 f_762), (cc_rl q0 (K 2) 400 f_763)]) (hS : va_S A s.heap H locs) (ls : Array Slot) (hl : lv_has ls 3 [(2, .int v_756), (1, .int r_679), (0, .ref m0)]), W p l e ({ frames := 5, cells := 0, slots := 0, locals := 125 }) s m (([.ref m0] : List Value).toArray) below meth c H locs 0 0 Q (F0 m 34 ls []) := by
    clear hE hP hD hS hl
    intro nn_
    induction nn_ with
    | zero =>
      intro v_756 v_757 v_758 v_759 v_760 f_761 f_762 f_763 hv_756 hv_758 hn hE H locs hP hD hS ls hl
      exact absurd hn (Nat.not_lt_zero _)
    | succ nn_ ih_793 =>
      intro v_756 v_757 v_758 v_759 v_760 f_761 f_762 f_763 hv_756 hv_758 hn hE H locs hP hD hS ls hl
      replace hE : E_v_passIt lw bro val sm fw fe frs fb = E_v_passIt_l34 r_679 f_692 (Lp (α := Int32 → Int32 → Int32 → Int64 → Int64 → (Nat → Int32) → (Nat → Int64) → (Nat → Int64) → (Int32 × Int32 × Int32 × Int64 × Int64 × (Nat → Int32) × (Nat → Int64) × (Nat → Int64) × (Nat → Int32))) (E_v_passIt_l34 r_679 f_692) (fun _ _ _ _ _ _ _ _ => ((0, 0, 0, 0, 0, fun _ => 0, fun _ => 0, fun _ => 0, fun _ => 0) : Int32 × Int32 × Int32 × Int64 × Int64 × (Nat → Int32) × (Nat → Int64) × (Nat → Int64) × (Nat → Int32))) nn_) v_756 v_757 v_758 v_759 v_760 f_761 f_762 f_763 := hE
      obtain ⟨rec_792, hrec_792⟩ : ∃ z9, z9 = Lp (α := Int32 → Int32 → Int32 → Int64 → Int64 → (Nat → Int32) → (Nat → Int64) → (Nat → Int64) → (Int32 × Int32 × Int32 × Int64 × Int64 × (Nat → Int32) × (Nat → Int64) × (Nat → Int64) × (Nat → Int32))) (E_v_passIt_l34 r_679 f_692) (fun _ _ _ _ _ _ _ _ => ((0, 0, 0, 0, 0, fun _ => 0, fun _ => 0, fun _ => 0, fun _ => 0) : Int32 × Int32 × Int32 × Int64 × Int64 × (Nat → Int32) × (Nat → Int64) × (Nat → Int64) × (Nat → Int32))) nn_ := ⟨_, rfl⟩
      rw [← hrec_792] at hE
      replace hE := hE.trans (E_v_passIt_l34.eq_def _ _ _ _ _ _ _ _ _ _ _)
      refine lv_iload_n hx hb dX12_passIt_34 rfl (lv_at hl 0 rfl) (lv_aload_n hx hb dX12_passIt_35 rfl (lv_at hl 2 rfl) (va_get (ci := 12) (v := .ref w0) (C := RX12) (T := TX12) (N := 60) hx hb hts hw12 hown hK hP 1 rfl rfl 3 (by decide +kernel) (hts _ mm_X12_passIt_833) (fun _ h9 => h9) rfl dX12_passIt_36 (lv_iconst (v := 0) hx hb dX12_passIt_39 (by decide +kernel) (va_iald hx hb hK hP 2 0 rfl rfl (i_in (x := 0) rfl (by omega)) dX12_passIt_40 (lv_topi (fun x_794 ex_794 => ?_))))))
      replace hE := hE.trans (Lt_in ex_794)
      have px_794 := RwOK.at hf_692_0 (show (0 : Int32).toInt = 0 from rfl) (show 0 ≤ 0 ∧ 0 < 100 by omega)
      rw [← ex_794] at px_794
      have hx_794 := PR.r_0 px_794 (by omega)
      refine lv_icmp_ge (tgt := 67) hx hb dX12_passIt_41 (by decide +kernel) (fun c_795 => ?_) (fun c_795 => ?_)
      · have c_795i := i_le (x := x_794.toInt) (y := v_756.toInt) rfl rfl c_795
        replace hE := hE.trans (if_pos c_795)
        refine lv_iconst (v := 0) hx hb dX12_passIt_67 (by decide +kernel) (lv_istore_n (lv' := [(2, .int 0), (1, .int r_679), (0, .ref m0)]) hx hb dX12_passIt_68 rfl hl (by decide +kernel) rfl (fun ls hl => ?_))
        have lp_949 : ∀ (nn_ : Nat) (v_897 : Int32) (f_898 : Nat → Int32) (hv_897 : 0 ≤ v_897.toInt ∧ v_897.toInt ≤ 8) (hf_898_0 : RwOK f_898) (hf_898_1 : FzM gr f_898) (hn : (9 - v_897.toInt : Int).toNat < nn_) (hE : E_v_passIt lw bro val sm fw fe frs fb = Lp (α := Int32 → (Nat → Int32) → (Int32 × Int32 × Int32 × Int64 × Int64 × (Nat → Int32) × (Nat → Int64) × (Nat → Int64) × (Nat → Int32))) (E_v_passIt_l69 r_679 v_757 v_758 v_759 v_760 f_761 f_762 f_763) (fun _ _ => ((0, 0, 0, 0, 0, fun _ => 0, fun _ => 0, fun _ => 0, fun _ => 0) : Int32 × Int32 × Int32 × Int64 × Int64 × (Nat → Int32) × (Nat → Int64) × (Nat → Int64) × (Nat → Int32))) nn_ v_897 f_898) (H : Heap) (locs : List Loc) (hP : va_P D vwCl [(cc_l b0 (K 0) 8 f_761), (cc_O m0 12 [m_0, m_1, m_2, .ref w0, m_4, m_5, m_6, m_7, m_8, m_9, m_10, m_11, m_12, m_13, m_14, m_15, m_16, m_17, m_18, m_19, .int 0, m_21, m_22, m_23, m_24, m_25, m_26, m_27, m_28, m_29, m_30, m_31, m_32, m_33, .int v_757, .ref e0, m_36, .ref q0, .int v_758, .long v_759, .long v_760, .ref b0, m_42, m_43, m_44, m_45, m_46, m_47, m_48, m_49, m_50, m_51, m_52, m_53, m_54, m_55, m_56, m_57, m_58, m_59]), (cc_l w0 (K 0) 5500 f_898), (cc_rl e0 (K 2) 13 f_762), (cc_rl q0 (K 2) 400 f_763)] H) (hD : va_D A [(cc_l b0 (K 0) 8 f_761), (cc_O m0 12 [m_0, m_1, m_2, .ref w0, m_4, m_5, m_6, m_7, m_8, m_9, m_10, m_11, m_12, m_13, m_14, m_15, m_16, m_17, m_18, m_19, .int 0, m_21, m_22, m_23, m_24, m_25, m_26, m_27, m_28, m_29, m_30, m_31, m_32, m_33, .int v_757, .ref e0, m_36, .ref q0, .int v_758, .long v_759, .long v_760, .ref b0, m_42, m_43, m_44, m_45, m_46, m_47, m_48, m_49, m_50, m_51, m_52, m_53, m_54, m_55, m_56, m_57, m_58, m_59]), (cc_l w0 (K 0) 5500 f_898), (cc_rl e0 (K 2) 13 f_762), (cc_rl q0 (K 2) 400 f_763)]) (hS : va_S A s.heap H locs) (ls : Array Slot) (hl : lv_has ls 3 [(2, .int v_897), (1, .int r_679), (0, .ref m0)]), W p l e ({ frames := 5, cells := 0, slots := 0, locals := 125 }) s m (([.ref m0] : List Value).toArray) below meth c H locs 0 0 Q (F0 m 69 ls []) := by
          clear hE hP hD hS hl
          intro nn_
          induction nn_ with
          | zero =>
            intro v_897 f_898 hv_897 hf_898_0 hf_898_1 hn hE H locs hP hD hS ls hl
            exact absurd hn (Nat.not_lt_zero _)
          | succ nn_ ih_950 =>
            intro v_897 f_898 hv_897 hf_898_0 hf_898_1 hn hE H locs hP hD hS ls hl
            replace hE : E_v_passIt lw bro val sm fw fe frs fb = E_v_passIt_l69 r_679 v_757 v_758 v_759 v_760 f_761 f_762 f_763 (Lp (α := Int32 → (Nat → Int32) → (Int32 × Int32 × Int32 × Int64 × Int64 × (Nat → Int32) × (Nat → Int64) × (Nat → Int64) × (Nat → Int32))) (E_v_passIt_l69 r_679 v_757 v_758 v_759 v_760 f_761 f_762 f_763) (fun _ _ => ((0, 0, 0, 0, 0, fun _ => 0, fun _ => 0, fun _ => 0, fun _ => 0) : Int32 × Int32 × Int32 × Int64 × Int64 × (Nat → Int32) × (Nat → Int64) × (Nat → Int64) × (Nat → Int32))) nn_) v_897 f_898 := hE
            obtain ⟨rec_949, hrec_949⟩ : ∃ z9, z9 = Lp (α := Int32 → (Nat → Int32) → (Int32 × Int32 × Int32 × Int64 × Int64 × (Nat → Int32) × (Nat → Int64) × (Nat → Int64) × (Nat → Int32))) (E_v_passIt_l69 r_679 v_757 v_758 v_759 v_760 f_761 f_762 f_763) (fun _ _ => ((0, 0, 0, 0, 0, fun _ => 0, fun _ => 0, fun _ => 0, fun _ => 0) : Int32 × Int32 × Int32 × Int64 × Int64 × (Nat → Int32) × (Nat → Int64) × (Nat → Int64) × (Nat → Int32))) nn_ := ⟨_, rfl⟩
            rw [← hrec_949] at hE
            replace hE := hE.trans (E_v_passIt_l69.eq_def _ _ _ _ _ _ _ _ _ _ _)
            refine lv_iload_n hx hb dX12_passIt_69 rfl (lv_at hl 0 rfl) (lv_aload_n hx hb dX12_passIt_70 rfl (lv_at hl 2 rfl) (va_get (ci := 12) (v := .ref w0) (C := RX12) (T := TX12) (N := 60) hx hb hts hw12 hown hK hP 1 rfl rfl 3 (by decide +kernel) (hts _ mm_X12_passIt_833) (fun _ h9 => h9) rfl dX12_passIt_71 (lv_iconst (v := 0) hx hb dX12_passIt_74 (by decide +kernel) (va_iald hx hb hK hP 2 0 rfl rfl (i_in (x := 0) rfl (by omega)) dX12_passIt_75 (lv_topi (fun x_951 ex_951 => ?_))))))
            replace hE := hE.trans (Lt_in ex_951)
            have px_951 := RwOK.at hf_898_0 (show (0 : Int32).toInt = 0 from rfl) (show 0 ≤ 0 ∧ 0 < 100 by omega)
            rw [← ex_951] at px_951
            have hx_951 := PR.r_0 px_951 (by omega)
            refine lv_icmp_ge (tgt := 153) hx hb dX12_passIt_76 (by decide +kernel) (fun c_952 => ?_) (fun c_952 => ?_)
            · have c_952i := i_le (x := x_951.toInt) (y := v_897.toInt) rfl rfl c_952
              replace hE := hE.trans (if_pos c_952)
              refine lv_aload_n hx hb dX12_passIt_153 rfl (lv_at hl 2 rfl) (kcv (S := Su) (wr := [(cc_l b0 (K 0) 8 f_761), (cc_rl e0 (K 2) 13 f_762), (cc_rl q0 (K 2) 400 f_763)]) (va_runV (As := []) (rest := []) ⟨hx, hb, hml, hown, hts⟩ (v_goOn l D K m0 m_0 m_1 m_2 w0 m_4 m_5 m_6 m_7 m_8 m_9 m_10 m_11 m_12 m_13 m_14 m_15 m_16 m_17 m_18 m_19 (.int 0) m_21 m_22 m_23 m_24 m_25 m_26 m_27 m_28 m_29 m_30 m_31 m_32 m_33 (.int v_757) (.ref e0) m_36 (.ref q0) (.int v_758) (.long v_759) (.long v_760) (.ref b0) m_42 m_43 m_44 m_45 m_46 m_47 m_48 m_49 m_50 m_51 m_52 m_53 m_54 m_55 m_56 m_57 m_58 m_59 f_898 gr H.size hf_898_0 hf_898_1) (cwV 0 hts gX12_passIt_X12_goOn rfl rfl rfl (by decide +kernel) ⟨Nat.le_of_ble_eq_true rfl, Nat.le_of_ble_eq_true rfl⟩) (mkV hK hN (hP.sub [1, 2] rfl) (hD.sub [1, 2] (by decide +kernel) rfl) (ci := 12) (q0 := 0) rfl rfl) rfl rfl hl.1 rfl (lv_room (Nat.le_of_ble_eq_true rfl)) dX12_passIt_154 ⟨Nat.le_of_ble_eq_true rfl, Nat.le_of_ble_eq_true rfl⟩) hP hD hS hA [1, 2] [0, 3, 4] rfl rfl (by decide +kernel) (by decide +kernel) (fun u_954 H locs hw hP0 hD0 hS0 => ?_))
              replace hP : va_P D vwCl [(cc_l b0 (K 0) 8 f_761), (cc_rl e0 (K 2) 13 f_762), (cc_rl q0 (K 2) 400 f_763), (cc_O m0 12 [m_0, m_1, m_2, .ref w0, m_4, m_5, m_6, m_7, m_8, m_9, m_10, m_11, m_12, m_13, m_14, m_15, m_16, m_17, m_18, m_19, .int 0, m_21, m_22, m_23, m_24, m_25, m_26, m_27, m_28, m_29, m_30, m_31, m_32, m_33, .int v_757, .ref e0, m_36, .ref q0, .int v_758, .long v_759, .long v_760, .ref b0, m_42, m_43, m_44, m_45, m_46, m_47, m_48, m_49, m_50, m_51, m_52, m_53, m_54, m_55, m_56, m_57, m_58, m_59]), (cc_l w0 (K 0) 5500 (u_954.2.1 0))] H := hP0
              replace hD := as_D hP hD0 rfl
              replace hS := hS0
              clear hP0 hD0 hS0
              obtain ⟨k_955, k_956, k_957, -⟩ := hw
              replace hE := hE.trans (Lt_in k_957)
              refine lv_iload_n hx hb dX12_passIt_157 rfl (lv_at hl 1 rfl) ?_
              rw [← hQ]
              have hP9 := hP.sub (ws' := [(cc_O m0 12 [m_0, m_1, m_2, .ref w0, m_4, m_5, m_6, m_7, m_8, m_9, m_10, m_11, m_12, m_13, m_14, m_15, m_16, m_17, m_18, m_19, .int 0, m_21, m_22, m_23, m_24, m_25, m_26, m_27, m_28, m_29, m_30, m_31, m_32, m_33, .int v_757, .ref e0, m_36, .ref q0, .int v_758, .long v_759, .long v_760, .ref b0, m_42, m_43, m_44, m_45, m_46, m_47, m_48, m_49, m_50, m_51, m_52, m_53, m_54, m_55, m_56, m_57, m_58, m_59]), (cc_l w0 (K 0) 5500 (u_954.2.1 0)), (cc_rl e0 (K 2) 13 f_762), (cc_rl q0 (K 2) 400 f_763), (cc_l b0 (K 0) 8 f_761)]) [3, 4, 1, 2, 0] rfl
              have hD9 := sub_D hP9 hD [3, 4, 1, 2, 0] (by decide +kernel) rfl
              exact W.zret (v := r_679) hx hb hr (zb rfl (by omega)) (fun t ht hW => ⟨⟨r_679, ((fun _ => 0, fun i => match i with | 0 => (u_954.2.1 0) | _ => f_761, fun i => match i with | 0 => f_762 | _ => f_763, fun i => match i with | 0 => v_757 | _ => v_758, fun i => match i with | 0 => v_759 | _ => v_760, fun _ => fun _ => none) : Su), rfl, ⟨(show 0 ≤ r_679.toInt ∧ r_679.toInt ≤ 1 by omega), (show 0 ≤ (v_758 : Int32).toInt ∧ (v_758 : Int32).toInt ≤ 1 by omega), k_955, k_956, hE.symm, trivial⟩, (⟨by rw [ht]; exact hP9, hD9⟩ : Wd D A _ t)⟩, hS.F ht⟩) hS.2.2 dX12_passIt_158
            · have c_952i := i_nle (x := x_951.toInt) (y := v_897.toInt) rfl rfl c_952
              replace hE := hE.trans (if_neg c_952)
              refine lv_aload_n hx hb dX12_passIt_79 rfl (lv_at hl 2 rfl) (va_get (ci := 12) (v := .ref w0) (C := RX12) (T := TX12) (N := 60) hx hb hts hw12 hown hK hP 1 rfl rfl 3 (by decide +kernel) (hts _ mm_X12_passIt_833) (fun _ h9 => h9) rfl dX12_passIt_80 (lv_bipush (v := 27) hx hb dX12_passIt_83 (by decide +kernel) (lv_iload_n hx hb dX12_passIt_85 rfl (lv_at hl 0 rfl) (lv_iadd hx hb dX12_passIt_86 (lv_topi (fun x_958 ex_958 => ?_))))))
              replace hE := hE.trans (Lt_in ex_958)
              have hx_958 : x_958.toInt = (27 + v_897.toInt) := by rw [ex_958]; exact i_add (show (27 : Int32).toInt = 27 from rfl) rfl (by omega)
              refine lv_aload_n hx hb dX12_passIt_87 rfl (lv_at hl 2 rfl) (va_get (ci := 12) (v := .ref w0) (C := RX12) (T := TX12) (N := 60) hx hb hts hw12 hown hK hP 1 rfl rfl 3 (by decide +kernel) (hts _ mm_X12_passIt_833) (fun _ h9 => h9) rfl dX12_passIt_88 (lv_bipush (v := 27) hx hb dX12_passIt_91 (by decide +kernel) (lv_iload_n hx hb dX12_passIt_93 rfl (lv_at hl 0 rfl) (lv_iadd hx hb dX12_passIt_94 (lv_topi (fun x_959 ex_959 => ?_))))))
              replace hE := hE.trans (Lt_in ex_959)
              have hx_959 : x_959.toInt = (27 + v_897.toInt) := by rw [ex_959]; exact i_add (show (27 : Int32).toInt = 27 from rfl) rfl (by omega)
              refine va_iald hx hb hK hP 2 0 rfl rfl (i_in hx_959 (by omega)) dX12_passIt_95 (lv_topi (fun x_960 ex_960 => ?_))
              replace hE := hE.trans (Lt_in ex_960)
              have px_960 := RwOK.at hf_898_0 hx_959 (show 0 ≤ (27 + v_897.toInt) ∧ (27 + v_897.toInt) < 100 by omega)
              rw [← ex_960] at px_960
              refine lv_aload_n hx hb dX12_passIt_96 rfl (lv_at hl 2 rfl) (va_get (ci := 12) (v := .ref w0) (C := RX12) (T := TX12) (N := 60) hx hb hts hw12 hown hK hP 1 rfl rfl 3 (by decide +kernel) (hts _ mm_X12_passIt_833) (fun _ h9 => h9) rfl dX12_passIt_97 (lv_bipush (v := 11) hx hb dX12_passIt_100 (by decide +kernel) (lv_iload_n hx hb dX12_passIt_102 rfl (lv_at hl 0 rfl) (lv_iadd hx hb dX12_passIt_103 (lv_topi (fun x_961 ex_961 => ?_))))))
              replace hE := hE.trans (Lt_in ex_961)
              have hx_961 : x_961.toInt = (11 + v_897.toInt) := by rw [ex_961]; exact i_add (show (11 : Int32).toInt = 11 from rfl) rfl (by omega)
              refine va_iald hx hb hK hP 2 0 rfl rfl (i_in hx_961 (by omega)) dX12_passIt_104 (lv_topi (fun x_962 ex_962 => ?_))
              replace hE := hE.trans (Lt_in ex_962)
              have px_962 := RwOK.at hf_898_0 hx_961 (show 0 ≤ (11 + v_897.toInt) ∧ (11 + v_897.toInt) < 100 by omega)
              rw [← ex_962] at px_962
              have hx_962 := PR.r_11 px_962 (by omega)
              refine lv_iadd hx hb dX12_passIt_105 (lv_topi (fun x_963 ex_963 => ?_))
              replace hE := hE.trans (Lt_in ex_963)
              refine lv_i2l hx hb dX12_passIt_106 rfl (lv_topl (fun x_964 ex_964 => ?_))
              replace hE := hE.trans (Lt_in ex_964)
              have hx_964 : x_964.toInt = x_963.toInt := by rw [ex_964]; exact i_wide rfl
              have hbx_964 := i_rng (a := x_963) rfl
              refine lv_iconst (v := 0) hx hb dX12_passIt_107 (by decide +kernel) (lv_sipush (v := 9999) hx hb dX12_passIt_108 (by decide +kernel) (pci (va_runS (As := [.long x_964, .int 0, .int 9999]) (rest := [.int x_958, .ref w0]) ⟨hx, hb, hml, hown, hts⟩ (v_within_9999 l D K x_964 H.size) (va_cwS 3 hts gX12_passIt_X12_within rfl rfl rfl (by decide +kernel) ⟨Nat.le_of_ble_eq_true rfl, Nat.le_of_ble_eq_true rfl⟩) (mkS hK hN (va_P.nil) (va_D.nil (A := fun _ => True))) rfl rfl hl.1 rfl (lv_room (Nat.le_of_ble_eq_true rfl)) dX12_passIt_111 ⟨Nat.le_of_ble_eq_true rfl, Nat.le_of_ble_eq_true rfl⟩) (fun r_965 hw => ?_)))
              obtain ⟨h_967, k_966, -⟩ := hw
              replace hE := hE.trans (Lt_in k_966)
              refine va_iast hx hb hK hP hD hS 2 0 rfl rfl (i_in hx_958 (by omega)) dX12_passIt_114 (fun H locs hP0 hD0 hS0 => ?_)
              replace hP := hP0
              replace hD := hD0
              replace hS := hS0
              clear hP0 hD0 hS0
              generalize hf_968 : (upd f_898 (x_958 : Int32).toNatClampNeg r_965) = f_968 at hP hD
              replace hE := hE.trans (Lt_in hf_968.symm)
              have hf_968_0 : RwOK f_968 := by rw [← hf_968]; exact RwOK.upd hf_898_0 hx_958 (by omega) rfl (PR.free (by omega))
              have hf_968_1 : FzM gr f_968 := by rw [← hf_968]; exact FzM.put hf_898_1 hx_958 (by omega)
              replace hP : va_P D vwCl [(cc_l b0 (K 0) 8 f_761), (cc_O m0 12 [m_0, m_1, m_2, .ref w0, m_4, m_5, m_6, m_7, m_8, m_9, m_10, m_11, m_12, m_13, m_14, m_15, m_16, m_17, m_18, m_19, .int 0, m_21, m_22, m_23, m_24, m_25, m_26, m_27, m_28, m_29, m_30, m_31, m_32, m_33, .int v_757, .ref e0, m_36, .ref q0, .int v_758, .long v_759, .long v_760, .ref b0, m_42, m_43, m_44, m_45, m_46, m_47, m_48, m_49, m_50, m_51, m_52, m_53, m_54, m_55, m_56, m_57, m_58, m_59]), (cc_l w0 (K 0) 5500 f_968), (cc_rl e0 (K 2) 13 f_762), (cc_rl q0 (K 2) 400 f_763)] H := hP
              replace hD := as_D hP hD rfl
              refine lv_aload_n hx hb dX12_passIt_115 rfl (lv_at hl 2 rfl) (va_get (ci := 12) (v := .ref w0) (C := RX12) (T := TX12) (N := 60) hx hb hts hw12 hown hK hP 1 rfl rfl 3 (by decide +kernel) (hts _ mm_X12_passIt_833) (fun _ h9 => h9) rfl dX12_passIt_116 (lv_bipush (v := 11) hx hb dX12_passIt_119 (by decide +kernel) (lv_iload_n hx hb dX12_passIt_121 rfl (lv_at hl 0 rfl) (lv_iadd hx hb dX12_passIt_122 (lv_topi (fun x_969 ex_969 => ?_))))))
              replace hE := hE.trans (Lt_in ex_969)
              have hx_969 : x_969.toInt = (11 + v_897.toInt) := by rw [ex_969]; exact i_add (show (11 : Int32).toInt = 11 from rfl) rfl (by omega)
              refine lv_aload_n hx hb dX12_passIt_123 rfl (lv_at hl 2 rfl) (va_get (ci := 12) (v := .ref w0) (C := RX12) (T := TX12) (N := 60) hx hb hts hw12 hown hK hP 1 rfl rfl 3 (by decide +kernel) (hts _ mm_X12_passIt_833) (fun _ h9 => h9) rfl dX12_passIt_124 (lv_bipush (v := 11) hx hb dX12_passIt_127 (by decide +kernel) (lv_iload_n hx hb dX12_passIt_129 rfl (lv_at hl 0 rfl) (lv_iadd hx hb dX12_passIt_130 (lv_topi (fun x_970 ex_970 => ?_))))))
              replace hE := hE.trans (Lt_in ex_970)
              have hx_970 : x_970.toInt = (11 + v_897.toInt) := by rw [ex_970]; exact i_add (show (11 : Int32).toInt = 11 from rfl) rfl (by omega)
              refine va_iald hx hb hK hP 2 0 rfl rfl (i_in hx_970 (by omega)) dX12_passIt_131 (lv_topi (fun x_971 ex_971 => ?_))
              replace hE := hE.trans (Lt_in ex_971)
              have px_971 := RwOK.at hf_968_0 hx_970 (show 0 ≤ (11 + v_897.toInt) ∧ (11 + v_897.toInt) < 100 by omega)
              rw [← ex_971] at px_971
              have hx_971 := PR.r_11 px_971 (by omega)
              refine lv_aload_n hx hb dX12_passIt_132 rfl (lv_at hl 2 rfl) (va_get (ci := 12) (v := .ref b0) (C := RX12) (T := TX12) (N := 60) hx hb hts hw12 hown hK hP 1 rfl rfl 41 (by decide +kernel) (hts _ mm_X12_passIt_871) (fun _ h9 => h9) rfl dX12_passIt_133 (lv_iload_n hx hb dX12_passIt_136 rfl (lv_at hl 0 rfl) (va_iald hx hb hK hP 0 0 rfl rfl (i_in rfl (by omega)) dX12_passIt_137 (lv_topi (fun x_972 ex_972 => ?_)))))
              replace hE := hE.trans (Lt_in ex_972)
              refine lv_isub hx hb dX12_passIt_138 (lv_topi (fun x_973 ex_973 => ?_))
              replace hE := hE.trans (Lt_in ex_973)
              refine lv_i2l hx hb dX12_passIt_139 rfl (lv_topl (fun x_974 ex_974 => ?_))
              replace hE := hE.trans (Lt_in ex_974)
              have hx_974 : x_974.toInt = x_973.toInt := by rw [ex_974]; exact i_wide rfl
              have hbx_974 := i_rng (a := x_973) rfl
              refine lv_iconst (v := 0) hx hb dX12_passIt_140 (by decide +kernel) (lv_bipush (v := 20) hx hb dX12_passIt_141 (by decide +kernel) (pci (va_runS (As := [.long x_974, .int 0, .int 20]) (rest := [.int x_969, .ref w0]) ⟨hx, hb, hml, hown, hts⟩ (v_within_20 l D K x_974 H.size) (va_cwS 3 hts gX12_passIt_X12_within rfl rfl rfl (by decide +kernel) ⟨Nat.le_of_ble_eq_true rfl, Nat.le_of_ble_eq_true rfl⟩) (mkS hK hN (va_P.nil) (va_D.nil (A := fun _ => True))) rfl rfl hl.1 rfl (lv_room (Nat.le_of_ble_eq_true rfl)) dX12_passIt_143 ⟨Nat.le_of_ble_eq_true rfl, Nat.le_of_ble_eq_true rfl⟩) (fun r_975 hw => ?_)))
              obtain ⟨h_977, k_976, -⟩ := hw
              replace hE := hE.trans (Lt_in k_976)
              refine va_iast hx hb hK hP hD hS 2 0 rfl rfl (i_in hx_969 (by omega)) dX12_passIt_146 (fun H locs hP0 hD0 hS0 => ?_)
              replace hP := hP0
              replace hD := hD0
              replace hS := hS0
              clear hP0 hD0 hS0
              generalize hf_978 : (upd f_968 (x_969 : Int32).toNatClampNeg r_975) = f_978 at hP hD
              replace hE := hE.trans (Lt_in hf_978.symm)
              have hf_978_0 : RwOK f_978 := by rw [← hf_978]; exact RwOK.upd hf_968_0 hx_969 (by omega) rfl (PR.w_11 (by omega) (by omega))
              have hf_978_1 : FzM gr f_978 := by rw [← hf_978]; exact FzM.put hf_968_1 hx_969 (by omega)
              replace hP : va_P D vwCl [(cc_l b0 (K 0) 8 f_761), (cc_O m0 12 [m_0, m_1, m_2, .ref w0, m_4, m_5, m_6, m_7, m_8, m_9, m_10, m_11, m_12, m_13, m_14, m_15, m_16, m_17, m_18, m_19, .int 0, m_21, m_22, m_23, m_24, m_25, m_26, m_27, m_28, m_29, m_30, m_31, m_32, m_33, .int v_757, .ref e0, m_36, .ref q0, .int v_758, .long v_759, .long v_760, .ref b0, m_42, m_43, m_44, m_45, m_46, m_47, m_48, m_49, m_50, m_51, m_52, m_53, m_54, m_55, m_56, m_57, m_58, m_59]), (cc_l w0 (K 0) 5500 f_978), (cc_rl e0 (K 2) 13 f_762), (cc_rl q0 (K 2) 400 f_763)] H := hP
              replace hD := as_D hP hD rfl
              obtain ⟨x_979, ex_979⟩ : ∃ y : Int32, y = v_897 + Int32.ofInt 1 := ⟨_, rfl⟩
              replace hE := hE.trans (Lt_in ex_979)
              have hx_979 : x_979.toInt = (v_897.toInt + 1) := by rw [ex_979]; exact i_add rfl (show (Int32.ofInt 1).toInt = 1 from rfl) (by omega)
              refine lv_iinc (v := x_979) (lv' := [(2, .int x_979), (1, .int r_679), (0, .ref m0)]) hx hb dX12_passIt_147 hl (k := 0) rfl (by rw [ex_979]) (by decide +kernel) rfl (fun ls hl => ?_)
              refine lv_goto (tgt := 69) hx hb dX12_passIt_150 (by decide +kernel) ?_
              exact ih_950 x_979 f_978 (by rw [hx_979]; omega) hf_978_0 hf_978_1 (by omega) (hE.trans (by rw [hrec_949])) _ _ hP hD hS ls (lv_sub hl [0, 1, 2] rfl)
        exact lp_949 ((9 - (0 : Int32).toInt : Int).toNat + 1) 0 f_692 (by decide +kernel) hf_692_0 hf_692_1 (Nat.lt_succ_self _) hE _ _ hP hD hS ls (lv_sub hl [0, 1, 2] rfl)
      · have c_795i := i_nle (x := x_794.toInt) (y := v_756.toInt) rfl rfl c_795
        replace hE := hE.trans (if_neg c_795)
        refine lv_aload_n hx hb dX12_passIt_44 rfl (lv_at hl 2 rfl) (va_get (ci := 12) (v := .ref b0) (C := RX12) (T := TX12) (N := 60) hx hb hts hw12 hown hK hP 1 rfl rfl 41 (by decide +kernel) (hts _ mm_X12_passIt_871) (fun _ h9 => h9) rfl dX12_passIt_45 (lv_iload_n hx hb dX12_passIt_48 rfl (lv_at hl 0 rfl) (lv_aload_n hx hb dX12_passIt_49 rfl (lv_at hl 2 rfl) (lv_aload_n hx hb dX12_passIt_50 rfl (lv_at hl 2 rfl) (va_get (ci := 12) (v := .ref w0) (C := RX12) (T := TX12) (N := 60) hx hb hts hw12 hown hK hP 1 rfl rfl 3 (by decide +kernel) (hts _ mm_X12_passIt_833) (fun _ h9 => h9) rfl dX12_passIt_51 (lv_iconst (v := 3) hx hb dX12_passIt_54 (by decide +kernel) (va_iald hx hb hK hP 2 0 rfl rfl (i_in (x := 3) rfl (by omega)) dX12_passIt_55 (lv_topi (fun x_980 ex_980 => ?_)))))))))
        replace hE := hE.trans (Lt_in ex_980)
        have px_980 := RwOK.at hf_692_0 (show (3 : Int32).toInt = 3 from rfl) (show 0 ≤ 3 ∧ 3 < 100 by omega)
        rw [← ex_980] at px_980
        have hx_980 := PR.r_3 px_980 (by omega)
        refine lv_iload_n hx hb dX12_passIt_56 rfl (lv_at hl 0 rfl) (kci (S := Su) (wr := [(cc_l b0 (K 0) 8 f_761)]) (va_runV (As := [.int x_980, .int v_756]) (rest := [.int v_756, .ref b0]) ⟨hx, hb, hml, hown, hts⟩ (v_burnsOf l D K m0 x_980 v_756 m_0 m_1 m_2 w0 m_4 m_5 m_6 m_7 m_8 m_9 m_10 m_11 m_12 m_13 m_14 m_15 m_16 m_17 m_18 m_19 m_21 m_22 m_23 m_24 m_25 m_26 m_27 m_28 m_29 m_30 m_31 m_32 m_33 v_757 e0 m_36 q0 v_758 v_759 v_760 (.ref b0) m_42 m_43 m_44 m_45 m_46 m_47 m_48 m_49 m_50 m_51 m_52 m_53 m_54 m_55 m_56 m_57 m_58 m_59 f_692 gr f_762 f_763 H.size (by first | omega | decide) (by first | omega | decide) (by first | omega | decide) hf_692_0 hf_692_1) (cwV 2 hts gX12_passIt_X12_burnsOf rfl rfl rfl (by decide +kernel) ⟨Nat.le_of_ble_eq_true rfl, Nat.le_of_ble_eq_true rfl⟩) (mkV hK hN (hP.sub [1, 2, 3, 4] rfl) (hD.sub [1, 2, 3, 4] (by decide +kernel) rfl) (ci := 12) (q0 := 0) rfl rfl) rfl rfl hl.1 rfl (lv_room (Nat.le_of_ble_eq_true rfl)) dX12_passIt_57 ⟨Nat.le_of_ble_eq_true rfl, Nat.le_of_ble_eq_true rfl⟩) hP hD hS hA [1, 2, 3, 4] [0] rfl rfl (by decide +kernel) (by decide +kernel) (fun r_981 u_982 H locs hw hP0 hD0 hS0 => ?_))
        replace hP : va_P D vwCl [(cc_l b0 (K 0) 8 f_761), (cc_O m0 12 [m_0, m_1, m_2, .ref w0, m_4, m_5, m_6, m_7, m_8, m_9, m_10, m_11, m_12, m_13, m_14, m_15, m_16, m_17, m_18, m_19, .int 0, m_21, m_22, m_23, m_24, m_25, m_26, m_27, m_28, m_29, m_30, m_31, m_32, m_33, .int (u_982.2.2.2.1 0), .ref e0, m_36, .ref q0, .int (u_982.2.2.2.1 1), .long (u_982.2.2.2.2.1 0), .long (u_982.2.2.2.2.1 1), .ref b0, m_42, m_43, m_44, m_45, m_46, m_47, m_48, m_49, m_50, m_51, m_52, m_53, m_54, m_55, m_56, m_57, m_58, m_59]), (cc_l w0 (K 0) 5500 f_692), (cc_rl e0 (K 2) 13 (u_982.2.2.1 0)), (cc_rl q0 (K 2) 400 (u_982.2.2.1 1))] H := hP0
        replace hD := as_D hP hD0 rfl
        replace hS := hS0
        clear hP0 hD0 hS0
        obtain ⟨h_985, k_983, k_984, -⟩ := hw
        replace hE := (((((hE.trans (Lt2_in k_984)).trans (Lt2_in rfl)).trans (Lt2_in rfl)).trans (Lt2_in rfl)).trans (Lt2_in rfl)).trans (Lt2_in rfl)
        refine va_iast hx hb hK hP hD hS 0 0 rfl rfl (i_in rfl (by omega)) dX12_passIt_60 (fun H locs hP0 hD0 hS0 => ?_)
        replace hP := hP0
        replace hD := hD0
        replace hS := hS0
        clear hP0 hD0 hS0
        generalize hf_986 : (upd f_761 (v_756 : Int32).toNatClampNeg r_981) = f_986 at hP hD
        replace hE := hE.trans (Lt_in hf_986.symm)
        replace hP : va_P D vwCl [(cc_l b0 (K 0) 8 f_986), (cc_O m0 12 [m_0, m_1, m_2, .ref w0, m_4, m_5, m_6, m_7, m_8, m_9, m_10, m_11, m_12, m_13, m_14, m_15, m_16, m_17, m_18, m_19, .int 0, m_21, m_22, m_23, m_24, m_25, m_26, m_27, m_28, m_29, m_30, m_31, m_32, m_33, .int (u_982.2.2.2.1 0), .ref e0, m_36, .ref q0, .int (u_982.2.2.2.1 1), .long (u_982.2.2.2.2.1 0), .long (u_982.2.2.2.2.1 1), .ref b0, m_42, m_43, m_44, m_45, m_46, m_47, m_48, m_49, m_50, m_51, m_52, m_53, m_54, m_55, m_56, m_57, m_58, m_59]), (cc_l w0 (K 0) 5500 f_692), (cc_rl e0 (K 2) 13 (u_982.2.2.1 0)), (cc_rl q0 (K 2) 400 (u_982.2.2.1 1))] H := hP
        replace hD := as_D hP hD rfl
        obtain ⟨x_987, ex_987⟩ : ∃ y : Int32, y = v_756 + Int32.ofInt 1 := ⟨_, rfl⟩
        replace hE := hE.trans (Lt_in ex_987)
        have hx_987 : x_987.toInt = (v_756.toInt + 1) := by rw [ex_987]; exact i_add rfl (show (Int32.ofInt 1).toInt = 1 from rfl) (by omega)
        refine lv_iinc (v := x_987) (lv' := [(2, .int x_987), (1, .int r_679), (0, .ref m0)]) hx hb dX12_passIt_61 hl (k := 0) rfl (by rw [ex_987]) (by decide +kernel) rfl (fun ls hl => ?_)
        refine lv_goto (tgt := 34) hx hb dX12_passIt_64 (by decide +kernel) ?_
        exact ih_793 x_987 (u_982.2.2.2.1 0) (u_982.2.2.2.1 1) (u_982.2.2.2.2.1 0) (u_982.2.2.2.2.1 1) f_986 (u_982.2.2.1 0) (u_982.2.2.1 1) (by rw [hx_987]; omega) (by omega) (by omega) (hE.trans (by rw [hrec_792])) _ _ hP hD hS ls (lv_sub hl [0, 1, 2] rfl)
  exact lp_792 ((9 - (0 : Int32).toInt : Int).toNat + 1) 0 (u_684.2.2.2.1 0) (u_684.2.2.2.1 1) (u_684.2.2.2.2.1 0) (u_684.2.2.2.2.1 1) fb (u_684.2.2.1 0) (u_684.2.2.1 1) (by decide +kernel) (by omega) (Nat.lt_succ_self _) hE _ _ hP hD hS ls (lv_sub hl [0, 1, 2] rfl)
set_option maxRecDepth 100000 in
noncomputable def E_v_passNow (nu : Int32) (lw : Int32) (bro : Int32) (val : Int64) (sm : Int64) (fw : Nat → Int32) (fe : Nat → Int64) (frs : Nat → Int64) (fu : Nat → Int32) (fs : Nat → Int32) (fb : Nat → Int32) : Int32 × Int32 × Int32 × Int32 × Int64 × Int64 × (Nat → Int32) × (Nat → Int64) × (Nat → Int64) × (Nat → Int32) × (Nat → Int32) × (Nat → Int32) :=
  Lt (E_v_canPass fw) (fun r_97 => if r_97 = 0 then ((((-3), nu, lw, bro, val, sm, fw, fe, frs, fu, fs, fb) : Int32 × Int32 × Int32 × Int32 × Int64 × Int64 × (Nat → Int32) × (Nat → Int64) × (Nat → Int64) × (Nat → Int32) × (Nat → Int32) × (Nat → Int32))) else (Lt2 (E_v_remember 3 nu fw fu fs) (fun u_102_2_2_2_1_0 q0_u_102_2_2_2_1_0 => Lt2 q0_u_102_2_2_2_1_0 (fun u_102_2_1_0 u_102_2_1_1 => Lt2 (E_v_passIt lw bro val sm fw fe frs fb) (fun r_107 q0_r_107 => Lt2 q0_r_107 (fun u_108_2_2_2_1_0 q1_u_108_2_2_2_1_0 => Lt2 q1_u_108_2_2_2_1_0 (fun u_108_2_2_2_1_1 q2_u_108_2_2_2_1_1 => Lt2 q2_u_108_2_2_2_1_1 (fun u_108_2_2_2_2_1_0 q3_u_108_2_2_2_2_1_0 => Lt2 q3_u_108_2_2_2_2_1_0 (fun u_108_2_2_2_2_1_1 q4_u_108_2_2_2_2_1_1 => Lt2 q4_u_108_2_2_2_2_1_1 (fun u_108_2_1_0 q5_u_108_2_1_0 => Lt2 q5_u_108_2_1_0 (fun u_108_2_2_1_0 q6_u_108_2_2_1_0 => Lt2 q6_u_108_2_2_1_0 (fun u_108_2_2_1_1 u_108_2_1_1 => if r_107 = 0 then (((0, u_102_2_2_2_1_0, u_108_2_2_2_1_0, u_108_2_2_2_1_1, u_108_2_2_2_2_1_0, u_108_2_2_2_2_1_1, u_108_2_1_0, u_108_2_2_1_0, u_108_2_2_1_1, u_102_2_1_0, u_102_2_1_1, u_108_2_1_1) : Int32 × Int32 × Int32 × Int32 × Int64 × Int64 × (Nat → Int32) × (Nat → Int64) × (Nat → Int64) × (Nat → Int32) × (Nat → Int32) × (Nat → Int32))) else (((1, u_102_2_2_2_1_0, u_108_2_2_2_1_0, u_108_2_2_2_1_1, u_108_2_2_2_2_1_0, u_108_2_2_2_2_1_1, u_108_2_1_0, u_108_2_2_1_0, u_108_2_2_1_1, u_102_2_1_0, u_102_2_1_1, u_108_2_1_1) : Int32 × Int32 × Int32 × Int32 × Int64 × Int64 × (Nat → Int32) × (Nat → Int64) × (Nat → Int64) × (Nat → Int32) × (Nat → Int32) × (Nat → Int32)))))))))))))))
set_option maxHeartbeats 4000000 in
set_option maxRecDepth 100000 in
theorem v_passNow (l : Launch) (D : va_G) (K : Nat → ClassId) (m0 : Nat) (m_0 : Value) (m_1 : Value) (m_2 : Value) (w0 : Nat) (m_4 : Value) (m_5 : Value) (u0 : Nat) (s0 : Nat) (nu : Int32) (m_9 : Value) (m_10 : Value) (m_11 : Value) (m_12 : Value) (m_13 : Value) (m_14 : Value) (m_15 : Value) (m_16 : Value) (m_17 : Value) (m_18 : Value) (m_19 : Value) (m_21 : Value) (m_22 : Value) (m_23 : Value) (m_24 : Value) (m_25 : Value) (m_26 : Value) (m_27 : Value) (m_28 : Value) (m_29 : Value) (m_30 : Value) (m_31 : Value) (m_32 : Value) (m_33 : Value) (lw : Int32) (e0 : Nat) (m_36 : Value) (q0 : Nat) (bro : Int32) (val : Int64) (sm : Int64) (b0 : Nat) (m_42 : Value) (m_43 : Value) (m_44 : Value) (m_45 : Value) (m_46 : Value) (m_47 : Value) (m_48 : Value) (m_49 : Value) (m_50 : Value) (m_51 : Value) (m_52 : Value) (m_53 : Value) (m_54 : Value) (m_55 : Value) (m_56 : Value) (m_57 : Value) (m_58 : Value) (m_59 : Value) (fw : Nat → Int32) (gr : Nat → Int32) (fe : Nat → Int64) (frs : Nat → Int64) (fu : Nat → Int32) (fs : Nat → Int32) (fb : Nat → Int32) (sz : Nat) (zbro : 0 ≤ bro.toInt ∧ bro.toInt ≤ 1) (znu : 0 ≤ nu.toInt ∧ nu.toInt ≤ 16) (zfw : RwOK fw) (zgr : FzM gr fw) (zfu : Pu 558 fu) (zfs : Rg 16 0 3 fs) : Met l yX12_passNow wsX12_passNow ({ frames := 6, cells := 0, slots := 0, locals := 147 }) (va_Pc [.ref m0] (Pre D K [(cc_O m0 12 [m_0, m_1, m_2, .ref w0, m_4, m_5, .ref u0, .ref s0, .int nu, m_9, m_10, m_11, m_12, m_13, m_14, m_15, m_16, m_17, m_18, m_19, .int 0, m_21, m_22, m_23, m_24, m_25, m_26, m_27, m_28, m_29, m_30, m_31, m_32, m_33, .int lw, .ref e0, m_36, .ref q0, .int bro, .long val, .long sm, .ref b0, m_42, m_43, m_44, m_45, m_46, m_47, m_48, m_49, m_50, m_51, m_52, m_53, m_54, m_55, m_56, m_57, m_58, m_59]), (cc_l w0 (K 0) 5500 fw), (cc_rl e0 (K 2) 13 fe), (cc_rl q0 (K 2) 400 frs), (cc_l u0 (K 0) 558 fu), (cc_l s0 (K 0) 16 fs), (cc_l b0 (K 0) 8 fb)] sz)) (va_Qi (S := Su) (fun (r : Int32) (u : Su) => ((-3) ≤ r.toInt ∧ r.toInt ≤ 1) ∧ (0 ≤ (u.2.2.2.1 0).toInt ∧ (u.2.2.2.1 0).toInt ≤ 16) ∧ (0 ≤ (u.2.2.2.1 2).toInt ∧ (u.2.2.2.1 2).toInt ≤ 1) ∧ (RwOK (u.2.1 0)) ∧ (FzM gr (u.2.1 0)) ∧ (Pu 558 (u.2.1 1)) ∧ (Rg 16 0 3 (u.2.1 2)) ∧ ((r, (u.2.2.2.1 0), (u.2.2.2.1 1), (u.2.2.2.1 2), (u.2.2.2.2.1 0), (u.2.2.2.2.1 1), (u.2.1 0), (u.2.2.1 0), (u.2.2.1 1), (u.2.1 1), (u.2.1 2), (u.2.1 3)) = E_v_passNow nu lw bro val sm fw fe frs fu fs fb) ∧ True) (fun u t => Wd D (va_A [(cc_O m0 12 [m_0, m_1, m_2, .ref w0, m_4, m_5, .ref u0, .ref s0, .int nu, m_9, m_10, m_11, m_12, m_13, m_14, m_15, m_16, m_17, m_18, m_19, .int 0, m_21, m_22, m_23, m_24, m_25, m_26, m_27, m_28, m_29, m_30, m_31, m_32, m_33, .int lw, .ref e0, m_36, .ref q0, .int bro, .long val, .long sm, .ref b0, m_42, m_43, m_44, m_45, m_46, m_47, m_48, m_49, m_50, m_51, m_52, m_53, m_54, m_55, m_56, m_57, m_58, m_59]), (cc_l w0 (K 0) 5500 fw), (cc_rl e0 (K 2) 13 fe), (cc_rl q0 (K 2) 400 frs), (cc_l u0 (K 0) 558 fu), (cc_l s0 (K 0) 16 fs), (cc_l b0 (K 0) 8 fb)] sz) ((fun u => [(cc_O m0 12 [m_0, m_1, m_2, .ref w0, m_4, m_5, .ref u0, .ref s0, .int (u.2.2.2.1 0), m_9, m_10, m_11, m_12, m_13, m_14, m_15, m_16, m_17, m_18, m_19, .int 0, m_21, m_22, m_23, m_24, m_25, m_26, m_27, m_28, m_29, m_30, m_31, m_32, m_33, .int (u.2.2.2.1 1), .ref e0, m_36, .ref q0, .int (u.2.2.2.1 2), .long (u.2.2.2.2.1 0), .long (u.2.2.2.2.1 1), .ref b0, m_42, m_43, m_44, m_45, m_46, m_47, m_48, m_49, m_50, m_51, m_52, m_53, m_54, m_55, m_56, m_57, m_58, m_59]), (cc_l w0 (K 0) 5500 (u.2.1 0)), (cc_rl e0 (K 2) 13 (u.2.2.1 0)), (cc_rl q0 (K 2) 400 (u.2.2.1 1)), (cc_l u0 (K 0) 558 (u.2.1 1)), (cc_l s0 (K 0) 16 (u.2.1 2)), (cc_l b0 (K 0) 8 (u.2.1 3))]) u) t) (va_A [(cc_O m0 12 [m_0, m_1, m_2, .ref w0, m_4, m_5, .ref u0, .ref s0, .int nu, m_9, m_10, m_11, m_12, m_13, m_14, m_15, m_16, m_17, m_18, m_19, .int 0, m_21, m_22, m_23, m_24, m_25, m_26, m_27, m_28, m_29, m_30, m_31, m_32, m_33, .int lw, .ref e0, m_36, .ref q0, .int bro, .long val, .long sm, .ref b0, m_42, m_43, m_44, m_45, m_46, m_47, m_48, m_49, m_50, m_51, m_52, m_53, m_54, m_55, m_56, m_57, m_58, m_59]), (cc_l w0 (K 0) 5500 fw), (cc_rl e0 (K 2) 13 fe), (cc_rl q0 (K 2) 400 frs), (cc_l u0 (K 0) 558 fu), (cc_l s0 (K 0) 16 fs), (cc_l b0 (K 0) 8 fb)] sz)) 0 0 (va_A [(cc_O m0 12 [m_0, m_1, m_2, .ref w0, m_4, m_5, .ref u0, .ref s0, .int nu, m_9, m_10, m_11, m_12, m_13, m_14, m_15, m_16, m_17, m_18, m_19, .int 0, m_21, m_22, m_23, m_24, m_25, m_26, m_27, m_28, m_29, m_30, m_31, m_32, m_33, .int lw, .ref e0, m_36, .ref q0, .int bro, .long val, .long sm, .ref b0, m_42, m_43, m_44, m_45, m_46, m_47, m_48, m_49, m_50, m_51, m_52, m_53, m_54, m_55, m_56, m_57, m_58, m_59]), (cc_l w0 (K 0) 5500 fw), (cc_rl e0 (K 2) 13 fe), (cc_rl q0 (K 2) 400 frs), (cc_l u0 (K 0) 558 fu), (cc_l s0 (K 0) 16 fs), (cc_l b0 (K 0) 8 fb)] sz) := by
  refine Met.ofW (cc := cX12_passNow) (maxL := 1) (ret := (some .int)) (by decide +kernel) rfl ?_
  intro p e s m args below meth c s₁ B hml hv
  obtain ⟨rfl, hsz, hP, hK, hD0, hN⟩ := hv
  have hx := B.exec
  have hb := B.bytes
  have hr := B.returns
  have hts := atoms_spec (ws := wsX12_passNow) B.pre
  have hown : s.vm.findClass RX12 = some m.cls := findClass_of_methodNamed B.named
  have hlocks := B.notSynchronized
  subst hsz
  have hD := hD0.self (sz := s.heap.size)
  generalize hAe : va_A [(cc_O m0 12 [m_0, m_1, m_2, .ref w0, m_4, m_5, .ref u0, .ref s0, .int nu, m_9, m_10, m_11, m_12, m_13, m_14, m_15, m_16, m_17, m_18, m_19, .int 0, m_21, m_22, m_23, m_24, m_25, m_26, m_27, m_28, m_29, m_30, m_31, m_32, m_33, .int lw, .ref e0, m_36, .ref q0, .int bro, .long val, .long sm, .ref b0, m_42, m_43, m_44, m_45, m_46, m_47, m_48, m_49, m_50, m_51, m_52, m_53, m_54, m_55, m_56, m_57, m_58, m_59]), (cc_l w0 (K 0) 5500 fw), (cc_rl e0 (K 2) 13 fe), (cc_rl q0 (K 2) 400 frs), (cc_l u0 (K 0) 558 fu), (cc_l s0 (K 0) 16 fs), (cc_l b0 (K 0) 8 fb)] s.heap.size = A at hD ⊢
  have hA : ∀ q : Nat, s.heap.size ≤ q → A q := fun q h => by rw [← hAe]; exact Or.inr h
  clear hAe
  have hS : va_S A s.heap s.heap [] := va_S.rf
  replace hP : va_P D vwCl [(cc_O m0 12 [m_0, m_1, m_2, .ref w0, m_4, m_5, .ref u0, .ref s0, .int nu, m_9, m_10, m_11, m_12, m_13, m_14, m_15, m_16, m_17, m_18, m_19, .int 0, m_21, m_22, m_23, m_24, m_25, m_26, m_27, m_28, m_29, m_30, m_31, m_32, m_33, .int lw, .ref e0, m_36, .ref q0, .int bro, .long val, .long sm, .ref b0, m_42, m_43, m_44, m_45, m_46, m_47, m_48, m_49, m_50, m_51, m_52, m_53, m_54, m_55, m_56, m_57, m_58, m_59]), (cc_l w0 (K 0) 5500 fw), (cc_rl e0 (K 2) 13 fe), (cc_rl q0 (K 2) 400 frs), (cc_l u0 (K 0) 558 fu), (cc_l s0 (K 0) 16 fs), (cc_l b0 (K 0) 8 fb)] s.heap := hP
  have hl := lv_entry [.ref m0] (n := 1) (Nat.le_of_ble_eq_true rfl)
  rw [lg_entry_eq]
  generalize (lg_sl [.ref m0] ++ List.replicate (1 - (lg_sl [.ref m0]).length) Slot.unset).toArray = ls at hl ⊢
  have hl : lv_has ls 1 [(0, .ref m0)] := hl
  have hw12 : ∀ w ∈ wsX120, w ∈ wsX12_passNow := fun w h => (List.mem_cons_of_mem _ (List.mem_append_right _ h))
  generalize hQ : MQ below _ _ s _ _ _ = Q
  have hE := E_v_passNow.eq_def nu lw bro val sm fw fe frs fu fs fb
  refine lv_aload_n hx hb dX12_passNow_0 rfl (lv_at hl 0 rfl) (pci (va_runV (As := []) (rest := []) ⟨hx, hb, hml, hown, hts⟩ (v_canPass l D K m0 m_0 m_1 m_2 w0 m_4 m_5 (.ref u0) (.ref s0) (.int nu) m_9 m_10 m_11 m_12 m_13 m_14 m_15 m_16 m_17 m_18 m_19 (.int 0) m_21 m_22 m_23 m_24 m_25 m_26 m_27 m_28 m_29 m_30 m_31 m_32 m_33 (.int lw) (.ref e0) m_36 (.ref q0) (.int bro) (.long val) (.long sm) (.ref b0) m_42 m_43 m_44 m_45 m_46 m_47 m_48 m_49 m_50 m_51 m_52 m_53 m_54 m_55 m_56 m_57 m_58 m_59 fw s.heap.size zfw) (cwV 0 hts gX12_passNow_X12_canPass rfl rfl rfl (by decide +kernel) ⟨Nat.le_of_ble_eq_true rfl, Nat.le_of_ble_eq_true rfl⟩) (mkV hK hN (hP.sub [0, 1] rfl) (hD.sub [0, 1] (by decide +kernel) rfl) (ci := 12) (q0 := 0) rfl rfl) rfl rfl hl.1 rfl (lv_room (Nat.le_of_ble_eq_true rfl)) dX12_passNow_1 ⟨Nat.le_of_ble_eq_true rfl, Nat.le_of_ble_eq_true rfl⟩) (fun r_97 hw => ?_))
  obtain ⟨h_99, k_98, -⟩ := hw
  replace hE := hE.trans (Lt_in k_98)
  refine lv_if_ne (tgt := 10) hx hb dX12_passNow_4 (by decide +kernel) (fun c_100 => ?_) (fun c_100 => ?_)
  · have c_100i := i_ne (x := r_97.toInt) (y := 0) rfl rfl c_100
    replace hE := hE.trans (if_neg c_100)
    refine lv_aload_n hx hb dX12_passNow_10 rfl (lv_at hl 0 rfl) (lv_iconst (v := 3) hx hb dX12_passNow_11 (by decide +kernel) (kcv (S := Su) (wr := [(cc_rl e0 (K 2) 13 fe), (cc_rl q0 (K 2) 400 frs), (cc_l b0 (K 0) 8 fb)]) (va_runV (As := [.int 3]) (rest := []) ⟨hx, hb, hml, hown, hts⟩ (v_remember l D K m0 3 m_0 m_1 m_2 w0 m_4 m_5 u0 s0 nu m_9 m_10 m_11 m_12 m_13 m_14 m_15 m_16 m_17 m_18 m_19 (.int 0) m_21 m_22 m_23 m_24 m_25 m_26 m_27 m_28 m_29 m_30 m_31 m_32 m_33 (.int lw) (.ref e0) m_36 (.ref q0) (.int bro) (.long val) (.long sm) (.ref b0) m_42 m_43 m_44 m_45 m_46 m_47 m_48 m_49 m_50 m_51 m_52 m_53 m_54 m_55 m_56 m_57 m_58 m_59 fw gr fu fs s.heap.size (by first | omega | decide) (by first | omega | decide) zfw zgr zfu zfs) (cwV 1 hts gX12_passNow_X12_remember rfl rfl rfl (by decide +kernel) ⟨Nat.le_of_ble_eq_true rfl, Nat.le_of_ble_eq_true rfl⟩) (mkV hK hN (hP.sub [0, 1, 4, 5] rfl) (hD.sub [0, 1, 4, 5] (by decide +kernel) rfl) (ci := 12) (q0 := 0) rfl rfl) rfl rfl hl.1 rfl (lv_room (Nat.le_of_ble_eq_true rfl)) dX12_passNow_12 ⟨Nat.le_of_ble_eq_true rfl, Nat.le_of_ble_eq_true rfl⟩) hP hD hS hA [0, 1, 4, 5] [2, 3, 6] rfl rfl (by decide +kernel) (by decide +kernel) (fun u_102 H locs hw hP0 hD0 hS0 => ?_)))
    replace hP : va_P D vwCl [(cc_rl e0 (K 2) 13 fe), (cc_rl q0 (K 2) 400 frs), (cc_l b0 (K 0) 8 fb), (cc_O m0 12 [m_0, m_1, m_2, .ref w0, m_4, m_5, .ref u0, .ref s0, .int (u_102.2.2.2.1 0), m_9, m_10, m_11, m_12, m_13, m_14, m_15, m_16, m_17, m_18, m_19, .int 0, m_21, m_22, m_23, m_24, m_25, m_26, m_27, m_28, m_29, m_30, m_31, m_32, m_33, .int lw, .ref e0, m_36, .ref q0, .int bro, .long val, .long sm, .ref b0, m_42, m_43, m_44, m_45, m_46, m_47, m_48, m_49, m_50, m_51, m_52, m_53, m_54, m_55, m_56, m_57, m_58, m_59]), (cc_l w0 (K 0) 5500 fw), (cc_l u0 (K 0) 558 (u_102.2.1 0)), (cc_l s0 (K 0) 16 (u_102.2.1 1))] H := hP0
    replace hD := as_D hP hD0 rfl
    replace hS := hS0
    clear hP0 hD0 hS0
    obtain ⟨k_103, k_104, k_105, k_106, -⟩ := hw
    replace hE := (hE.trans (Lt2_in k_106)).trans (Lt2_in rfl)
    refine lv_aload_n hx hb dX12_passNow_15 rfl (lv_at hl 0 rfl) (kci (S := Su) (wr := [(cc_l u0 (K 0) 558 (u_102.2.1 0)), (cc_l s0 (K 0) 16 (u_102.2.1 1))]) (va_runV (As := []) (rest := []) ⟨hx, hb, hml, hown, hts⟩ (v_passIt l D K m0 m_0 m_1 m_2 w0 m_4 m_5 (.ref u0) (.ref s0) (.int (u_102.2.2.2.1 0)) m_9 m_10 m_11 m_12 m_13 m_14 m_15 m_16 m_17 m_18 m_19 m_21 m_22 m_23 m_24 m_25 m_26 m_27 m_28 m_29 m_30 m_31 m_32 m_33 lw e0 m_36 q0 bro val sm b0 m_42 m_43 m_44 m_45 m_46 m_47 m_48 m_49 m_50 m_51 m_52 m_53 m_54 m_55 m_56 m_57 m_58 m_59 fw gr fe frs fb H.size (by first | omega | decide) zfw zgr) (cwV 0 hts gX12_passNow_X12_passIt rfl rfl rfl (by decide +kernel) ⟨Nat.le_of_ble_eq_true rfl, Nat.le_of_ble_eq_true rfl⟩) (mkV hK hN (hP.sub [3, 4, 0, 1, 2] rfl) (hD.sub [3, 4, 0, 1, 2] (by decide +kernel) rfl) (ci := 12) (q0 := 0) rfl rfl) rfl rfl hl.1 rfl (lv_room (Nat.le_of_ble_eq_true rfl)) dX12_passNow_16 ⟨Nat.le_of_ble_eq_true rfl, Nat.le_of_ble_eq_true rfl⟩) hP hD hS hA [3, 4, 0, 1, 2] [5, 6] rfl rfl (by decide +kernel) (by decide +kernel) (fun r_107 u_108 H locs hw hP0 hD0 hS0 => ?_))
    replace hP : va_P D vwCl [(cc_l u0 (K 0) 558 (u_102.2.1 0)), (cc_l s0 (K 0) 16 (u_102.2.1 1)), (cc_O m0 12 [m_0, m_1, m_2, .ref w0, m_4, m_5, .ref u0, .ref s0, .int (u_102.2.2.2.1 0), m_9, m_10, m_11, m_12, m_13, m_14, m_15, m_16, m_17, m_18, m_19, .int 0, m_21, m_22, m_23, m_24, m_25, m_26, m_27, m_28, m_29, m_30, m_31, m_32, m_33, .int (u_108.2.2.2.1 0), .ref e0, m_36, .ref q0, .int (u_108.2.2.2.1 1), .long (u_108.2.2.2.2.1 0), .long (u_108.2.2.2.2.1 1), .ref b0, m_42, m_43, m_44, m_45, m_46, m_47, m_48, m_49, m_50, m_51, m_52, m_53, m_54, m_55, m_56, m_57, m_58, m_59]), (cc_l w0 (K 0) 5500 (u_108.2.1 0)), (cc_rl e0 (K 2) 13 (u_108.2.2.1 0)), (cc_rl q0 (K 2) 400 (u_108.2.2.1 1)), (cc_l b0 (K 0) 8 (u_108.2.1 1))] H := hP0
    replace hD := as_D hP hD0 rfl
    replace hS := hS0
    clear hP0 hD0 hS0
    obtain ⟨h_113, k_109, k_110, k_111, k_112, -⟩ := hw
    replace hE := (((((((hE.trans (Lt2_in k_112)).trans (Lt2_in rfl)).trans (Lt2_in rfl)).trans (Lt2_in rfl)).trans (Lt2_in rfl)).trans (Lt2_in rfl)).trans (Lt2_in rfl)).trans (Lt2_in rfl)
    refine lv_if_eq (tgt := 26) hx hb dX12_passNow_19 (by decide +kernel) (fun c_114 => ?_) (fun c_114 => ?_)
    · have c_114i := i_eq (x := r_107.toInt) (y := 0) rfl rfl c_114
      replace hE := hE.trans (if_pos c_114)
      refine lv_iconst (v := 0) hx hb dX12_passNow_26 (by decide +kernel) ?_
      rw [← hQ]
      have hP9 := hP.sub (ws' := [(cc_O m0 12 [m_0, m_1, m_2, .ref w0, m_4, m_5, .ref u0, .ref s0, .int (u_102.2.2.2.1 0), m_9, m_10, m_11, m_12, m_13, m_14, m_15, m_16, m_17, m_18, m_19, .int 0, m_21, m_22, m_23, m_24, m_25, m_26, m_27, m_28, m_29, m_30, m_31, m_32, m_33, .int (u_108.2.2.2.1 0), .ref e0, m_36, .ref q0, .int (u_108.2.2.2.1 1), .long (u_108.2.2.2.2.1 0), .long (u_108.2.2.2.2.1 1), .ref b0, m_42, m_43, m_44, m_45, m_46, m_47, m_48, m_49, m_50, m_51, m_52, m_53, m_54, m_55, m_56, m_57, m_58, m_59]), (cc_l w0 (K 0) 5500 (u_108.2.1 0)), (cc_rl e0 (K 2) 13 (u_108.2.2.1 0)), (cc_rl q0 (K 2) 400 (u_108.2.2.1 1)), (cc_l u0 (K 0) 558 (u_102.2.1 0)), (cc_l s0 (K 0) 16 (u_102.2.1 1)), (cc_l b0 (K 0) 8 (u_108.2.1 1))]) [2, 3, 4, 5, 0, 1, 6] rfl
      have hD9 := sub_D hP9 hD [2, 3, 4, 5, 0, 1, 6] (by decide +kernel) rfl
      exact W.iret (v := 0) hx hb hr (fun t ht hW => ⟨⟨0, ((fun _ => 0, fun i => match i with | 0 => (u_108.2.1 0) | 1 => (u_102.2.1 0) | 2 => (u_102.2.1 1) | _ => (u_108.2.1 1), fun i => match i with | 0 => (u_108.2.2.1 0) | _ => (u_108.2.2.1 1), fun i => match i with | 0 => (u_102.2.2.2.1 0) | 1 => (u_108.2.2.2.1 0) | _ => (u_108.2.2.2.1 1), fun i => match i with | 0 => (u_108.2.2.2.2.1 0) | _ => (u_108.2.2.2.2.1 1), fun _ => fun _ => none) : Su), rfl, ⟨(show (-3) ≤ (0 : Int32).toInt ∧ (0 : Int32).toInt ≤ 1 by decide), (show 0 ≤ ((u_102.2.2.2.1 0) : Int32).toInt ∧ ((u_102.2.2.2.1 0) : Int32).toInt ≤ 16 by omega), (show 0 ≤ ((u_108.2.2.2.1 1) : Int32).toInt ∧ ((u_108.2.2.2.1 1) : Int32).toInt ≤ 1 by omega), k_110, k_111, k_104, k_105, hE.symm, trivial⟩, (⟨by rw [ht]; exact hP9, hD9⟩ : Wd D A _ t)⟩, hS.F ht⟩) hS.2.2 dX12_passNow_27
    · have c_114i := i_ne (x := r_107.toInt) (y := 0) rfl rfl c_114
      replace hE := hE.trans (if_neg c_114)
      refine lv_iconst (v := 1) hx hb dX12_passNow_22 (by decide +kernel) (lv_goto (tgt := 27) hx hb dX12_passNow_23 (by decide +kernel) ?_)
      rw [← hQ]
      have hP9 := hP.sub (ws' := [(cc_O m0 12 [m_0, m_1, m_2, .ref w0, m_4, m_5, .ref u0, .ref s0, .int (u_102.2.2.2.1 0), m_9, m_10, m_11, m_12, m_13, m_14, m_15, m_16, m_17, m_18, m_19, .int 0, m_21, m_22, m_23, m_24, m_25, m_26, m_27, m_28, m_29, m_30, m_31, m_32, m_33, .int (u_108.2.2.2.1 0), .ref e0, m_36, .ref q0, .int (u_108.2.2.2.1 1), .long (u_108.2.2.2.2.1 0), .long (u_108.2.2.2.2.1 1), .ref b0, m_42, m_43, m_44, m_45, m_46, m_47, m_48, m_49, m_50, m_51, m_52, m_53, m_54, m_55, m_56, m_57, m_58, m_59]), (cc_l w0 (K 0) 5500 (u_108.2.1 0)), (cc_rl e0 (K 2) 13 (u_108.2.2.1 0)), (cc_rl q0 (K 2) 400 (u_108.2.2.1 1)), (cc_l u0 (K 0) 558 (u_102.2.1 0)), (cc_l s0 (K 0) 16 (u_102.2.1 1)), (cc_l b0 (K 0) 8 (u_108.2.1 1))]) [2, 3, 4, 5, 0, 1, 6] rfl
      have hD9 := sub_D hP9 hD [2, 3, 4, 5, 0, 1, 6] (by decide +kernel) rfl
      exact W.iret (v := 1) hx hb hr (fun t ht hW => ⟨⟨1, ((fun _ => 0, fun i => match i with | 0 => (u_108.2.1 0) | 1 => (u_102.2.1 0) | 2 => (u_102.2.1 1) | _ => (u_108.2.1 1), fun i => match i with | 0 => (u_108.2.2.1 0) | _ => (u_108.2.2.1 1), fun i => match i with | 0 => (u_102.2.2.2.1 0) | 1 => (u_108.2.2.2.1 0) | _ => (u_108.2.2.2.1 1), fun i => match i with | 0 => (u_108.2.2.2.2.1 0) | _ => (u_108.2.2.2.2.1 1), fun _ => fun _ => none) : Su), rfl, ⟨(show (-3) ≤ (1 : Int32).toInt ∧ (1 : Int32).toInt ≤ 1 by decide), (show 0 ≤ ((u_102.2.2.2.1 0) : Int32).toInt ∧ ((u_102.2.2.2.1 0) : Int32).toInt ≤ 16 by omega), (show 0 ≤ ((u_108.2.2.2.1 1) : Int32).toInt ∧ ((u_108.2.2.2.1 1) : Int32).toInt ≤ 1 by omega), k_110, k_111, k_104, k_105, hE.symm, trivial⟩, (⟨by rw [ht]; exact hP9, hD9⟩ : Wd D A _ t)⟩, hS.F ht⟩) hS.2.2 dX12_passNow_27
  · have c_100i := i_eq (x := r_97.toInt) (y := 0) rfl rfl c_100
    replace hE := hE.trans (if_pos c_100)
    refine lv_bipush (v := (-3)) hx hb dX12_passNow_7 (by decide +kernel) ?_
    rw [← hQ]
    have hP9 := hP.sub (ws' := [(cc_O m0 12 [m_0, m_1, m_2, .ref w0, m_4, m_5, .ref u0, .ref s0, .int nu, m_9, m_10, m_11, m_12, m_13, m_14, m_15, m_16, m_17, m_18, m_19, .int 0, m_21, m_22, m_23, m_24, m_25, m_26, m_27, m_28, m_29, m_30, m_31, m_32, m_33, .int lw, .ref e0, m_36, .ref q0, .int bro, .long val, .long sm, .ref b0, m_42, m_43, m_44, m_45, m_46, m_47, m_48, m_49, m_50, m_51, m_52, m_53, m_54, m_55, m_56, m_57, m_58, m_59]), (cc_l w0 (K 0) 5500 fw), (cc_rl e0 (K 2) 13 fe), (cc_rl q0 (K 2) 400 frs), (cc_l u0 (K 0) 558 fu), (cc_l s0 (K 0) 16 fs), (cc_l b0 (K 0) 8 fb)]) [0, 1, 2, 3, 4, 5, 6] rfl
    have hD9 := sub_D hP9 hD [0, 1, 2, 3, 4, 5, 6] (by decide +kernel) rfl
    exact W.iret (v := (-3)) hx hb hr (fun t ht hW => ⟨⟨(-3), ((fun _ => 0, fun i => match i with | 0 => fw | 1 => fu | 2 => fs | _ => fb, fun i => match i with | 0 => fe | _ => frs, fun i => match i with | 0 => nu | 1 => lw | _ => bro, fun i => match i with | 0 => val | _ => sm, fun _ => fun _ => none) : Su), rfl, ⟨(show (-3) ≤ ((-3) : Int32).toInt ∧ ((-3) : Int32).toInt ≤ 1 by decide), (show 0 ≤ (nu : Int32).toInt ∧ (nu : Int32).toInt ≤ 16 by omega), (show 0 ≤ (bro : Int32).toInt ∧ (bro : Int32).toInt ≤ 1 by omega), zfw, zgr, zfu, zfs, hE.symm, trivial⟩, (⟨by rw [ht]; exact hP9, hD9⟩ : Wd D A _ t)⟩, hS.F ht⟩) hS.2.2 dX12_passNow_9
set_option maxRecDepth 100000 in
noncomputable def E_v_pass (thr : Int32) (sta : Int32) (nu : Int32) (lw : Int32) (bro : Int32) (val : Int64) (sm : Int64) (fw : Nat → Int32) (fe : Nat → Int64) (frs : Nat → Int64) (fu : Nat → Int32) (fs : Nat → Int32) (fb : Nat → Int32) (frf : Nat → Int32) : Int32 × Int32 × Int32 × Int32 × Int32 × Int64 × Int64 × (Nat → Int32) × (Nat → Int64) × (Nat → Int64) × (Nat → Int32) × (Nat → Int32) × (Nat → Int32) × (Nat → Int32) :=
  Lt2 (E_v_passNow nu lw bro val sm fw fe frs fu fs fb) (fun r_91 q0_r_91 => Lt2 q0_r_91 (fun u_92_2_2_2_1_0 q1_u_92_2_2_2_1_0 => Lt2 q1_u_92_2_2_2_1_0 (fun u_92_2_2_2_1_1 q2_u_92_2_2_2_1_1 => Lt2 q2_u_92_2_2_2_1_1 (fun u_92_2_2_2_1_2 q3_u_92_2_2_2_1_2 => Lt2 q3_u_92_2_2_2_1_2 (fun u_92_2_2_2_2_1_0 q4_u_92_2_2_2_2_1_0 => Lt2 q4_u_92_2_2_2_2_1_0 (fun u_92_2_2_2_2_1_1 q5_u_92_2_2_2_2_1_1 => Lt2 q5_u_92_2_2_2_2_1_1 (fun u_92_2_1_0 q6_u_92_2_1_0 => Lt2 q6_u_92_2_1_0 (fun u_92_2_2_1_0 q7_u_92_2_2_1_0 => Lt2 q7_u_92_2_2_1_0 (fun u_92_2_2_1_1 q8_u_92_2_2_1_1 => Lt2 q8_u_92_2_2_1_1 (fun u_92_2_1_1 q9_u_92_2_1_1 => Lt2 q9_u_92_2_1_1 (fun u_92_2_1_2 u_92_2_1_3 => Lt2 (E_v_tell r_91 sta frf) (fun r_101 q0_r_101 => Lt2 q0_r_101 (fun u_102_2_2_2_1_0 u_102_2_1_0 => ((r_101, u_102_2_2_2_1_0, u_92_2_2_2_1_0, u_92_2_2_2_1_1, u_92_2_2_2_1_2, u_92_2_2_2_2_1_0, u_92_2_2_2_2_1_1, u_92_2_1_0, u_92_2_2_1_0, u_92_2_2_1_1, u_92_2_1_1, u_92_2_1_2, u_92_2_1_3, u_102_2_1_0) : Int32 × Int32 × Int32 × Int32 × Int32 × Int64 × Int64 × (Nat → Int32) × (Nat → Int64) × (Nat → Int64) × (Nat → Int32) × (Nat → Int32) × (Nat → Int32) × (Nat → Int32)))))))))))))))
set_option maxHeartbeats 4000000 in
set_option maxRecDepth 100000 in
theorem v_pass (l : Launch) (D : va_G) (K : Nat → ClassId) (m0 : Nat) (thr : Int32) (sta : Int32) (r0 : Nat) (w0 : Nat) (m_4 : Value) (m_5 : Value) (u0 : Nat) (s0 : Nat) (nu : Int32) (m_9 : Value) (m_10 : Value) (m_11 : Value) (m_12 : Value) (m_13 : Value) (m_14 : Value) (m_15 : Value) (m_16 : Value) (m_17 : Value) (m_18 : Value) (m_19 : Value) (m_21 : Value) (m_22 : Value) (m_23 : Value) (m_24 : Value) (m_25 : Value) (m_26 : Value) (m_27 : Value) (m_28 : Value) (m_29 : Value) (m_30 : Value) (m_31 : Value) (m_32 : Value) (m_33 : Value) (lw : Int32) (e0 : Nat) (m_36 : Value) (q0 : Nat) (bro : Int32) (val : Int64) (sm : Int64) (b0 : Nat) (m_42 : Value) (m_43 : Value) (m_44 : Value) (m_45 : Value) (m_46 : Value) (m_47 : Value) (m_48 : Value) (m_49 : Value) (m_50 : Value) (m_51 : Value) (m_52 : Value) (m_53 : Value) (m_54 : Value) (m_55 : Value) (m_56 : Value) (m_57 : Value) (m_58 : Value) (m_59 : Value) (fw : Nat → Int32) (gr : Nat → Int32) (fe : Nat → Int64) (frs : Nat → Int64) (fu : Nat → Int32) (fs : Nat → Int32) (fb : Nat → Int32) (frf : Nat → Int32) (sz : Nat) (zbro : 0 ≤ bro.toInt ∧ bro.toInt ≤ 1) (znu : 0 ≤ nu.toInt ∧ nu.toInt ≤ 16) (zfw : RwOK fw) (zgr : FzM gr fw) (zfu : Pu 558 fu) (zfs : Rg 16 0 3 fs) : Met l yX12_pass wsX12_pass ({ frames := 7, cells := 0, slots := 0, locals := 167 }) (va_Pc [.ref m0] (Pre D K [(cc_O m0 12 [.int thr, .int sta, .ref r0, .ref w0, m_4, m_5, .ref u0, .ref s0, .int nu, m_9, m_10, m_11, m_12, m_13, m_14, m_15, m_16, m_17, m_18, m_19, .int 0, m_21, m_22, m_23, m_24, m_25, m_26, m_27, m_28, m_29, m_30, m_31, m_32, m_33, .int lw, .ref e0, m_36, .ref q0, .int bro, .long val, .long sm, .ref b0, m_42, m_43, m_44, m_45, m_46, m_47, m_48, m_49, m_50, m_51, m_52, m_53, m_54, m_55, m_56, m_57, m_58, m_59]), (cc_l w0 (K 0) 5500 fw), (cc_rl e0 (K 2) 13 fe), (cc_rl q0 (K 2) 400 frs), (cc_l u0 (K 0) 558 fu), (cc_l s0 (K 0) 16 fs), (cc_l b0 (K 0) 8 fb), (cc_l r0 (K 0) 7 frf)] sz)) (va_Qi (S := Su) (fun (r : Int32) (u : Su) => ((-6) ≤ r.toInt) ∧ ((-6) ≤ (u.2.2.2.1 0).toInt ∧ (u.2.2.2.1 0).toInt ≤ 0) ∧ (0 ≤ (u.2.2.2.1 1).toInt ∧ (u.2.2.2.1 1).toInt ≤ 16) ∧ (0 ≤ (u.2.2.2.1 3).toInt ∧ (u.2.2.2.1 3).toInt ≤ 1) ∧ (RwOK (u.2.1 0)) ∧ (FzM gr (u.2.1 0)) ∧ (Pu 558 (u.2.1 1)) ∧ (Rg 16 0 3 (u.2.1 2)) ∧ ((r, (u.2.2.2.1 0), (u.2.2.2.1 1), (u.2.2.2.1 2), (u.2.2.2.1 3), (u.2.2.2.2.1 0), (u.2.2.2.2.1 1), (u.2.1 0), (u.2.2.1 0), (u.2.2.1 1), (u.2.1 1), (u.2.1 2), (u.2.1 3), (u.2.1 4)) = E_v_pass thr sta nu lw bro val sm fw fe frs fu fs fb frf) ∧ True) (fun u t => Wd D (va_A [(cc_O m0 12 [.int thr, .int sta, .ref r0, .ref w0, m_4, m_5, .ref u0, .ref s0, .int nu, m_9, m_10, m_11, m_12, m_13, m_14, m_15, m_16, m_17, m_18, m_19, .int 0, m_21, m_22, m_23, m_24, m_25, m_26, m_27, m_28, m_29, m_30, m_31, m_32, m_33, .int lw, .ref e0, m_36, .ref q0, .int bro, .long val, .long sm, .ref b0, m_42, m_43, m_44, m_45, m_46, m_47, m_48, m_49, m_50, m_51, m_52, m_53, m_54, m_55, m_56, m_57, m_58, m_59]), (cc_l w0 (K 0) 5500 fw), (cc_rl e0 (K 2) 13 fe), (cc_rl q0 (K 2) 400 frs), (cc_l u0 (K 0) 558 fu), (cc_l s0 (K 0) 16 fs), (cc_l b0 (K 0) 8 fb), (cc_l r0 (K 0) 7 frf)] sz) ((fun u => [(cc_O m0 12 [.int 0, .int (u.2.2.2.1 0), .ref r0, .ref w0, m_4, m_5, .ref u0, .ref s0, .int (u.2.2.2.1 1), m_9, m_10, m_11, m_12, m_13, m_14, m_15, m_16, m_17, m_18, m_19, .int 0, m_21, m_22, m_23, m_24, m_25, m_26, m_27, m_28, m_29, m_30, m_31, m_32, m_33, .int (u.2.2.2.1 2), .ref e0, m_36, .ref q0, .int (u.2.2.2.1 3), .long (u.2.2.2.2.1 0), .long (u.2.2.2.2.1 1), .ref b0, m_42, m_43, m_44, m_45, m_46, m_47, m_48, m_49, m_50, m_51, m_52, m_53, m_54, m_55, m_56, m_57, m_58, m_59]), (cc_l w0 (K 0) 5500 (u.2.1 0)), (cc_rl e0 (K 2) 13 (u.2.2.1 0)), (cc_rl q0 (K 2) 400 (u.2.2.1 1)), (cc_l u0 (K 0) 558 (u.2.1 1)), (cc_l s0 (K 0) 16 (u.2.1 2)), (cc_l b0 (K 0) 8 (u.2.1 3)), (cc_l r0 (K 0) 7 (u.2.1 4))]) u) t) (va_A [(cc_O m0 12 [.int thr, .int sta, .ref r0, .ref w0, m_4, m_5, .ref u0, .ref s0, .int nu, m_9, m_10, m_11, m_12, m_13, m_14, m_15, m_16, m_17, m_18, m_19, .int 0, m_21, m_22, m_23, m_24, m_25, m_26, m_27, m_28, m_29, m_30, m_31, m_32, m_33, .int lw, .ref e0, m_36, .ref q0, .int bro, .long val, .long sm, .ref b0, m_42, m_43, m_44, m_45, m_46, m_47, m_48, m_49, m_50, m_51, m_52, m_53, m_54, m_55, m_56, m_57, m_58, m_59]), (cc_l w0 (K 0) 5500 fw), (cc_rl e0 (K 2) 13 fe), (cc_rl q0 (K 2) 400 frs), (cc_l u0 (K 0) 558 fu), (cc_l s0 (K 0) 16 fs), (cc_l b0 (K 0) 8 fb), (cc_l r0 (K 0) 7 frf)] sz)) 0 0 (va_A [(cc_O m0 12 [.int thr, .int sta, .ref r0, .ref w0, m_4, m_5, .ref u0, .ref s0, .int nu, m_9, m_10, m_11, m_12, m_13, m_14, m_15, m_16, m_17, m_18, m_19, .int 0, m_21, m_22, m_23, m_24, m_25, m_26, m_27, m_28, m_29, m_30, m_31, m_32, m_33, .int lw, .ref e0, m_36, .ref q0, .int bro, .long val, .long sm, .ref b0, m_42, m_43, m_44, m_45, m_46, m_47, m_48, m_49, m_50, m_51, m_52, m_53, m_54, m_55, m_56, m_57, m_58, m_59]), (cc_l w0 (K 0) 5500 fw), (cc_rl e0 (K 2) 13 fe), (cc_rl q0 (K 2) 400 frs), (cc_l u0 (K 0) 558 fu), (cc_l s0 (K 0) 16 fs), (cc_l b0 (K 0) 8 fb), (cc_l r0 (K 0) 7 frf)] sz) := by
  refine Met.ofW (cc := cX12_pass) (maxL := 1) (ret := (some .int)) (by decide +kernel) rfl ?_
  intro p e s m args below meth c s₁ B hml hv
  obtain ⟨rfl, hsz, hP, hK, hD0, hN⟩ := hv
  have hx := B.exec
  have hb := B.bytes
  have hr := B.returns
  have hts := atoms_spec (ws := wsX12_pass) B.pre
  have hown : s.vm.findClass RX12 = some m.cls := findClass_of_methodNamed B.named
  have hlocks := B.notSynchronized
  subst hsz
  have hD := hD0.self (sz := s.heap.size)
  generalize hAe : va_A [(cc_O m0 12 [.int thr, .int sta, .ref r0, .ref w0, m_4, m_5, .ref u0, .ref s0, .int nu, m_9, m_10, m_11, m_12, m_13, m_14, m_15, m_16, m_17, m_18, m_19, .int 0, m_21, m_22, m_23, m_24, m_25, m_26, m_27, m_28, m_29, m_30, m_31, m_32, m_33, .int lw, .ref e0, m_36, .ref q0, .int bro, .long val, .long sm, .ref b0, m_42, m_43, m_44, m_45, m_46, m_47, m_48, m_49, m_50, m_51, m_52, m_53, m_54, m_55, m_56, m_57, m_58, m_59]), (cc_l w0 (K 0) 5500 fw), (cc_rl e0 (K 2) 13 fe), (cc_rl q0 (K 2) 400 frs), (cc_l u0 (K 0) 558 fu), (cc_l s0 (K 0) 16 fs), (cc_l b0 (K 0) 8 fb), (cc_l r0 (K 0) 7 frf)] s.heap.size = A at hD ⊢
  have hA : ∀ q : Nat, s.heap.size ≤ q → A q := fun q h => by rw [← hAe]; exact Or.inr h
  clear hAe
  have hS : va_S A s.heap s.heap [] := va_S.rf
  replace hP : va_P D vwCl [(cc_O m0 12 [.int thr, .int sta, .ref r0, .ref w0, m_4, m_5, .ref u0, .ref s0, .int nu, m_9, m_10, m_11, m_12, m_13, m_14, m_15, m_16, m_17, m_18, m_19, .int 0, m_21, m_22, m_23, m_24, m_25, m_26, m_27, m_28, m_29, m_30, m_31, m_32, m_33, .int lw, .ref e0, m_36, .ref q0, .int bro, .long val, .long sm, .ref b0, m_42, m_43, m_44, m_45, m_46, m_47, m_48, m_49, m_50, m_51, m_52, m_53, m_54, m_55, m_56, m_57, m_58, m_59]), (cc_l w0 (K 0) 5500 fw), (cc_rl e0 (K 2) 13 fe), (cc_rl q0 (K 2) 400 frs), (cc_l u0 (K 0) 558 fu), (cc_l s0 (K 0) 16 fs), (cc_l b0 (K 0) 8 fb), (cc_l r0 (K 0) 7 frf)] s.heap := hP
  have hl := lv_entry [.ref m0] (n := 1) (Nat.le_of_ble_eq_true rfl)
  rw [lg_entry_eq]
  generalize (lg_sl [.ref m0] ++ List.replicate (1 - (lg_sl [.ref m0]).length) Slot.unset).toArray = ls at hl ⊢
  have hl : lv_has ls 1 [(0, .ref m0)] := hl
  have hw12 : ∀ w ∈ wsX120, w ∈ wsX12_pass := fun w h => (List.mem_cons_of_mem _ (List.mem_append_right _ h))
  generalize hQ : MQ below _ _ s _ _ _ = Q
  have hE := E_v_pass.eq_def thr sta nu lw bro val sm fw fe frs fu fs fb frf
  refine lv_aload_n hx hb dX12_pass_0 rfl (lv_at hl 0 rfl) (lv_iconst (v := 0) hx hb dX12_pass_1 (by decide +kernel) (va_put (ci := 12) (v := .int 0) (ty := .int) (C := RX12) (T := TX12) (N := 60) hx hb hts hw12 tyX12 tyX12_ok nmX12 hown hK hP hD hS 0 rfl rfl 0 (by decide +kernel) (hts _ mm_X12_pass_830) (fun _ h9 => h9) rfl (by decide +kernel) (by first | rfl | decide) (by first | rfl | decide) (Nat.le_of_ble_eq_true rfl) dX12_pass_2 (fun H locs hP0 hD0 hS0 => ?_)))
  replace hP : va_P D vwCl [(cc_O m0 12 [.int 0, .int sta, .ref r0, .ref w0, m_4, m_5, .ref u0, .ref s0, .int nu, m_9, m_10, m_11, m_12, m_13, m_14, m_15, m_16, m_17, m_18, m_19, .int 0, m_21, m_22, m_23, m_24, m_25, m_26, m_27, m_28, m_29, m_30, m_31, m_32, m_33, .int lw, .ref e0, m_36, .ref q0, .int bro, .long val, .long sm, .ref b0, m_42, m_43, m_44, m_45, m_46, m_47, m_48, m_49, m_50, m_51, m_52, m_53, m_54, m_55, m_56, m_57, m_58, m_59]), (cc_l w0 (K 0) 5500 fw), (cc_rl e0 (K 2) 13 fe), (cc_rl q0 (K 2) 400 frs), (cc_l u0 (K 0) 558 fu), (cc_l s0 (K 0) 16 fs), (cc_l b0 (K 0) 8 fb), (cc_l r0 (K 0) 7 frf)] H := hP0
  replace hD := as_D hP hD0 rfl
  replace hS := hS0
  clear hP0 hD0 hS0
  refine lv_aload_n hx hb dX12_pass_5 rfl (lv_at hl 0 rfl) (lv_aload_n hx hb dX12_pass_6 rfl (lv_at hl 0 rfl) (kci (S := Su) (wr := [(cc_l r0 (K 0) 7 frf)]) (va_runV (As := []) (rest := [.ref m0]) ⟨hx, hb, hml, hown, hts⟩ (v_passNow l D K m0 (.int 0) (.int sta) (.ref r0) w0 m_4 m_5 u0 s0 nu m_9 m_10 m_11 m_12 m_13 m_14 m_15 m_16 m_17 m_18 m_19 m_21 m_22 m_23 m_24 m_25 m_26 m_27 m_28 m_29 m_30 m_31 m_32 m_33 lw e0 m_36 q0 bro val sm b0 m_42 m_43 m_44 m_45 m_46 m_47 m_48 m_49 m_50 m_51 m_52 m_53 m_54 m_55 m_56 m_57 m_58 m_59 fw gr fe frs fu fs fb H.size (by first | omega | decide) (by first | omega | decide) zfw zgr zfu zfs) (cwV 0 hts gX12_pass_X12_passNow rfl rfl rfl (by decide +kernel) ⟨Nat.le_of_ble_eq_true rfl, Nat.le_of_ble_eq_true rfl⟩) (mkV hK hN (hP.sub [0, 1, 2, 3, 4, 5, 6] rfl) (hD.sub [0, 1, 2, 3, 4, 5, 6] (by decide +kernel) rfl) (ci := 12) (q0 := 0) rfl rfl) rfl rfl hl.1 rfl (lv_room (Nat.le_of_ble_eq_true rfl)) dX12_pass_7 ⟨Nat.le_of_ble_eq_true rfl, Nat.le_of_ble_eq_true rfl⟩) hP hD hS hA [0, 1, 2, 3, 4, 5, 6] [7] rfl rfl (by decide +kernel) (by decide +kernel) (fun r_91 u_92 H locs hw hP0 hD0 hS0 => ?_)))
  replace hP : va_P D vwCl [(cc_l r0 (K 0) 7 frf), (cc_O m0 12 [.int 0, .int sta, .ref r0, .ref w0, m_4, m_5, .ref u0, .ref s0, .int (u_92.2.2.2.1 0), m_9, m_10, m_11, m_12, m_13, m_14, m_15, m_16, m_17, m_18, m_19, .int 0, m_21, m_22, m_23, m_24, m_25, m_26, m_27, m_28, m_29, m_30, m_31, m_32, m_33, .int (u_92.2.2.2.1 1), .ref e0, m_36, .ref q0, .int (u_92.2.2.2.1 2), .long (u_92.2.2.2.2.1 0), .long (u_92.2.2.2.2.1 1), .ref b0, m_42, m_43, m_44, m_45, m_46, m_47, m_48, m_49, m_50, m_51, m_52, m_53, m_54, m_55, m_56, m_57, m_58, m_59]), (cc_l w0 (K 0) 5500 (u_92.2.1 0)), (cc_rl e0 (K 2) 13 (u_92.2.2.1 0)), (cc_rl q0 (K 2) 400 (u_92.2.2.1 1)), (cc_l u0 (K 0) 558 (u_92.2.1 1)), (cc_l s0 (K 0) 16 (u_92.2.1 2)), (cc_l b0 (K 0) 8 (u_92.2.1 3))] H := hP0
  replace hD := as_D hP hD0 rfl
  replace hS := hS0
  clear hP0 hD0 hS0
  obtain ⟨h_100, k_93, k_94, k_95, k_96, k_97, k_98, k_99, -⟩ := hw
  replace hE := ((((((((((hE.trans (Lt2_in k_99)).trans (Lt2_in rfl)).trans (Lt2_in rfl)).trans (Lt2_in rfl)).trans (Lt2_in rfl)).trans (Lt2_in rfl)).trans (Lt2_in rfl)).trans (Lt2_in rfl)).trans (Lt2_in rfl)).trans (Lt2_in rfl)).trans (Lt2_in rfl)
  refine kci (S := Su) (wr := [(cc_l w0 (K 0) 5500 (u_92.2.1 0)), (cc_rl e0 (K 2) 13 (u_92.2.2.1 0)), (cc_rl q0 (K 2) 400 (u_92.2.2.1 1)), (cc_l u0 (K 0) 558 (u_92.2.1 1)), (cc_l s0 (K 0) 16 (u_92.2.1 2)), (cc_l b0 (K 0) 8 (u_92.2.1 3))]) (va_runV (As := [.int r_91]) (rest := []) ⟨hx, hb, hml, hown, hts⟩ (v_tell l D K m0 r_91 (.int 0) sta r0 (.ref w0) m_4 m_5 (.ref u0) (.ref s0) (.int (u_92.2.2.2.1 0)) m_9 m_10 m_11 m_12 m_13 m_14 m_15 m_16 m_17 m_18 m_19 (.int 0) m_21 m_22 m_23 m_24 m_25 m_26 m_27 m_28 m_29 m_30 m_31 m_32 m_33 (.int (u_92.2.2.2.1 1)) (.ref e0) m_36 (.ref q0) (.int (u_92.2.2.2.1 2)) (.long (u_92.2.2.2.2.1 0)) (.long (u_92.2.2.2.2.1 1)) (.ref b0) m_42 m_43 m_44 m_45 m_46 m_47 m_48 m_49 m_50 m_51 m_52 m_53 m_54 m_55 m_56 m_57 m_58 m_59 frf H.size (by first | omega | decide)) (cwV 1 hts gX12_pass_X12_tell rfl rfl rfl (by decide +kernel) ⟨Nat.le_of_ble_eq_true rfl, Nat.le_of_ble_eq_true rfl⟩) (mkV hK hN (hP.sub [1, 0] rfl) (hD.sub [1, 0] (by decide +kernel) rfl) (ci := 12) (q0 := 0) rfl rfl) rfl rfl hl.1 rfl (lv_room (Nat.le_of_ble_eq_true rfl)) dX12_pass_10 ⟨Nat.le_of_ble_eq_true rfl, Nat.le_of_ble_eq_true rfl⟩) hP hD hS hA [1, 0] [2, 3, 4, 5, 6, 7] rfl rfl (by decide +kernel) (by decide +kernel) (fun r_101 u_102 H locs hw hP0 hD0 hS0 => ?_)
  replace hP : va_P D vwCl [(cc_l w0 (K 0) 5500 (u_92.2.1 0)), (cc_rl e0 (K 2) 13 (u_92.2.2.1 0)), (cc_rl q0 (K 2) 400 (u_92.2.2.1 1)), (cc_l u0 (K 0) 558 (u_92.2.1 1)), (cc_l s0 (K 0) 16 (u_92.2.1 2)), (cc_l b0 (K 0) 8 (u_92.2.1 3)), (cc_O m0 12 [.int 0, .int (u_102.2.2.2.1 0), .ref r0, .ref w0, m_4, m_5, .ref u0, .ref s0, .int (u_92.2.2.2.1 0), m_9, m_10, m_11, m_12, m_13, m_14, m_15, m_16, m_17, m_18, m_19, .int 0, m_21, m_22, m_23, m_24, m_25, m_26, m_27, m_28, m_29, m_30, m_31, m_32, m_33, .int (u_92.2.2.2.1 1), .ref e0, m_36, .ref q0, .int (u_92.2.2.2.1 2), .long (u_92.2.2.2.2.1 0), .long (u_92.2.2.2.2.1 1), .ref b0, m_42, m_43, m_44, m_45, m_46, m_47, m_48, m_49, m_50, m_51, m_52, m_53, m_54, m_55, m_56, m_57, m_58, m_59]), (cc_l r0 (K 0) 7 (u_102.2.1 0))] H := hP0
  replace hD := as_D hP hD0 rfl
  replace hS := hS0
  clear hP0 hD0 hS0
  obtain ⟨h_105, k_103, k_104, -⟩ := hw
  replace hE := (hE.trans (Lt2_in k_104)).trans (Lt2_in rfl)
  rw [← hQ]
  have hP9 := hP.sub (ws' := [(cc_O m0 12 [.int 0, .int (u_102.2.2.2.1 0), .ref r0, .ref w0, m_4, m_5, .ref u0, .ref s0, .int (u_92.2.2.2.1 0), m_9, m_10, m_11, m_12, m_13, m_14, m_15, m_16, m_17, m_18, m_19, .int 0, m_21, m_22, m_23, m_24, m_25, m_26, m_27, m_28, m_29, m_30, m_31, m_32, m_33, .int (u_92.2.2.2.1 1), .ref e0, m_36, .ref q0, .int (u_92.2.2.2.1 2), .long (u_92.2.2.2.2.1 0), .long (u_92.2.2.2.2.1 1), .ref b0, m_42, m_43, m_44, m_45, m_46, m_47, m_48, m_49, m_50, m_51, m_52, m_53, m_54, m_55, m_56, m_57, m_58, m_59]), (cc_l w0 (K 0) 5500 (u_92.2.1 0)), (cc_rl e0 (K 2) 13 (u_92.2.2.1 0)), (cc_rl q0 (K 2) 400 (u_92.2.2.1 1)), (cc_l u0 (K 0) 558 (u_92.2.1 1)), (cc_l s0 (K 0) 16 (u_92.2.1 2)), (cc_l b0 (K 0) 8 (u_92.2.1 3)), (cc_l r0 (K 0) 7 (u_102.2.1 0))]) [6, 0, 1, 2, 3, 4, 5, 7] rfl
  have hD9 := sub_D hP9 hD [6, 0, 1, 2, 3, 4, 5, 7] (by decide +kernel) rfl
  exact W.iret (v := r_101) hx hb hr (fun t ht hW => ⟨⟨r_101, ((fun _ => 0, fun i => match i with | 0 => (u_92.2.1 0) | 1 => (u_92.2.1 1) | 2 => (u_92.2.1 2) | 3 => (u_92.2.1 3) | _ => (u_102.2.1 0), fun i => match i with | 0 => (u_92.2.2.1 0) | _ => (u_92.2.2.1 1), fun i => match i with | 0 => (u_102.2.2.2.1 0) | 1 => (u_92.2.2.2.1 0) | 2 => (u_92.2.2.2.1 1) | _ => (u_92.2.2.2.1 2), fun i => match i with | 0 => (u_92.2.2.2.2.1 0) | _ => (u_92.2.2.2.2.1 1), fun _ => fun _ => none) : Su), rfl, ⟨(show (-6) ≤ r_101.toInt by omega), (show (-6) ≤ ((u_102.2.2.2.1 0) : Int32).toInt ∧ ((u_102.2.2.2.1 0) : Int32).toInt ≤ 0 by omega), (show 0 ≤ ((u_92.2.2.2.1 0) : Int32).toInt ∧ ((u_92.2.2.2.1 0) : Int32).toInt ≤ 16 by omega), (show 0 ≤ ((u_92.2.2.2.1 2) : Int32).toInt ∧ ((u_92.2.2.2.1 2) : Int32).toInt ≤ 1 by omega), k_95, k_96, k_97, k_98, hE.symm, trivial⟩, (⟨by rw [ht]; exact hP9, hD9⟩ : Wd D A _ t)⟩, hS.F ht⟩) hS.2.2 dX12_pass_13
