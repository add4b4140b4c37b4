theorem BX9_has_0 : bsegs (ByteArray.data cX9_has |>.toList.drop 0) 0 [(0, [27]), (1, [155, 0, 15]), (4, [27]), (5, [42]), (6, [180, 0, 27]), (9, [162, 0, 7]), (12, [4]), (13, [167, 0, 4]), (16, [3]), (17, [172])] = true := by decide +kernel
theorem dX9_has_0 : decode cX9_has 0 = .ok (.iload_n 1, 1) := dk_27 (bs_at BX9_has_0 0 rfl)
theorem dX9_has_1 : decode cX9_has 1 = .ok (.ifCond .lt 15, 3) := dk_155 0 15 (bs_at BX9_has_0 1 rfl) rfl
theorem dX9_has_4 : decode cX9_has 4 = .ok (.iload_n 1, 1) := dk_27 (bs_at BX9_has_0 2 rfl)
theorem dX9_has_5 : decode cX9_has 5 = .ok (.aload_n 0, 1) := dk_42 (bs_at BX9_has_0 3 rfl)
theorem dX9_has_6 : decode cX9_has 6 = .ok (.getfield 27, 3) := dk_180 0 27 (bs_at BX9_has_0 4 rfl) rfl
theorem dX9_has_9 : decode cX9_has 9 = .ok (.if_icmp .ge 7, 3) := dk_162 0 7 (bs_at BX9_has_0 5 rfl) rfl
theorem dX9_has_12 : decode cX9_has 12 = .ok (.iconst 1, 1) := dk_4 (bs_at BX9_has_0 6 rfl)
theorem dX9_has_13 : decode cX9_has 13 = .ok (.goto 4, 3) := dk_167 0 4 (bs_at BX9_has_0 7 rfl) rfl
theorem dX9_has_16 : decode cX9_has 16 = .ok (.iconst 0, 1) := dk_3 (bs_at BX9_has_0 8 rfl)
theorem dX9_has_17 : decode cX9_has 17 = .ok (.ireturn, 1) := dk_172 (bs_at BX9_has_0 9 rfl)
theorem BX9_fact_0 : bsegs (ByteArray.data cX9_fact |>.toList.drop 0) 0 [(0, [27]), (1, [155, 0, 23]), (4, [27]), (5, [16, 8]), (7, [162, 0, 17]), (10, [28]), (11, [155, 0, 13]), (14, [28]), (15, [16, 7]), (17, [162, 0, 7]), (20, [4]), (21, [167, 0, 4]), (24, [3]), (25, [62]), (26, [29]), (27, [153, 0, 17]), (30, [42]), (31, [180, 0, 9]), (34, [28]), (35, [16, 8]), (37, [104]), (38, [27]), (39, [96]), (40, [46])] = true := by decide +kernel
theorem dX9_fact_0 : decode cX9_fact 0 = .ok (.iload_n 1, 1) := dk_27 (bs_at BX9_fact_0 0 rfl)
theorem dX9_fact_1 : decode cX9_fact 1 = .ok (.ifCond .lt 23, 3) := dk_155 0 23 (bs_at BX9_fact_0 1 rfl) rfl
theorem dX9_fact_4 : decode cX9_fact 4 = .ok (.iload_n 1, 1) := dk_27 (bs_at BX9_fact_0 2 rfl)
theorem dX9_fact_5 : decode cX9_fact 5 = .ok (.bipush 8, 2) := dk_16 8 (bs_at BX9_fact_0 3 rfl) rfl
theorem dX9_fact_7 : decode cX9_fact 7 = .ok (.if_icmp .ge 17, 3) := dk_162 0 17 (bs_at BX9_fact_0 4 rfl) rfl
theorem dX9_fact_10 : decode cX9_fact 10 = .ok (.iload_n 2, 1) := dk_28 (bs_at BX9_fact_0 5 rfl)
theorem dX9_fact_11 : decode cX9_fact 11 = .ok (.ifCond .lt 13, 3) := dk_155 0 13 (bs_at BX9_fact_0 6 rfl) rfl
theorem dX9_fact_14 : decode cX9_fact 14 = .ok (.iload_n 2, 1) := dk_28 (bs_at BX9_fact_0 7 rfl)
theorem dX9_fact_15 : decode cX9_fact 15 = .ok (.bipush 7, 2) := dk_16 7 (bs_at BX9_fact_0 8 rfl) rfl
theorem dX9_fact_17 : decode cX9_fact 17 = .ok (.if_icmp .ge 7, 3) := dk_162 0 7 (bs_at BX9_fact_0 9 rfl) rfl
theorem dX9_fact_20 : decode cX9_fact 20 = .ok (.iconst 1, 1) := dk_4 (bs_at BX9_fact_0 10 rfl)
theorem dX9_fact_21 : decode cX9_fact 21 = .ok (.goto 4, 3) := dk_167 0 4 (bs_at BX9_fact_0 11 rfl) rfl
theorem dX9_fact_24 : decode cX9_fact 24 = .ok (.iconst 0, 1) := dk_3 (bs_at BX9_fact_0 12 rfl)
theorem dX9_fact_25 : decode cX9_fact 25 = .ok (.istore_n 3, 1) := dk_62 (bs_at BX9_fact_0 13 rfl)
theorem dX9_fact_26 : decode cX9_fact 26 = .ok (.iload_n 3, 1) := dk_29 (bs_at BX9_fact_0 14 rfl)
theorem dX9_fact_27 : decode cX9_fact 27 = .ok (.ifCond .eq 17, 3) := dk_153 0 17 (bs_at BX9_fact_0 15 rfl) rfl
theorem dX9_fact_30 : decode cX9_fact 30 = .ok (.aload_n 0, 1) := dk_42 (bs_at BX9_fact_0 16 rfl)
theorem dX9_fact_31 : decode cX9_fact 31 = .ok (.getfield 9, 3) := dk_180 0 9 (bs_at BX9_fact_0 17 rfl) rfl
theorem dX9_fact_34 : decode cX9_fact 34 = .ok (.iload_n 2, 1) := dk_28 (bs_at BX9_fact_0 18 rfl)
theorem dX9_fact_35 : decode cX9_fact 35 = .ok (.bipush 8, 2) := dk_16 8 (bs_at BX9_fact_0 19 rfl) rfl
theorem dX9_fact_37 : decode cX9_fact 37 = .ok (.imul, 1) := dk_104 (bs_at BX9_fact_0 20 rfl)
theorem dX9_fact_38 : decode cX9_fact 38 = .ok (.iload_n 1, 1) := dk_27 (bs_at BX9_fact_0 21 rfl)
theorem dX9_fact_39 : decode cX9_fact 39 = .ok (.iadd, 1) := dk_96 (bs_at BX9_fact_0 22 rfl)
theorem dX9_fact_40 : decode cX9_fact 40 = .ok (.iaload, 1) := dk_46 (bs_at BX9_fact_0 23 rfl)
theorem BX9_fact_41 : bsegs (ByteArray.data cX9_fact |>.toList.drop 41) 41 [(41, [167, 0, 4]), (44, [2]), (45, [172])] = true := by decide +kernel
theorem dX9_fact_41 : decode cX9_fact 41 = .ok (.goto 4, 3) := dk_167 0 4 (bs_at BX9_fact_41 0 rfl) rfl
theorem dX9_fact_44 : decode cX9_fact 44 = .ok (.iconst (-1), 1) := dk_2 (bs_at BX9_fact_41 1 rfl)
theorem dX9_fact_45 : decode cX9_fact 45 = .ok (.ireturn, 1) := dk_172 (bs_at BX9_fact_41 2 rfl)
theorem BX9_put_0 : bsegs (ByteArray.data cX9_put |>.toList.drop 0) 0 [(0, [27]), (1, [3]), (2, [16, 7]), (4, [184, 0, 52]), (7, [153, 0, 25]), (10, [28]), (11, [3]), (12, [16, 6]), (14, [184, 0, 52]), (17, [153, 0, 15]), (20, [42]), (21, [180, 0, 9]), (24, [28]), (25, [16, 8]), (27, [104]), (28, [27]), (29, [96]), (30, [29]), (31, [79]), (32, [177])] = true := by decide +kernel
theorem dX9_put_0 : decode cX9_put 0 = .ok (.iload_n 1, 1) := dk_27 (bs_at BX9_put_0 0 rfl)
theorem dX9_put_1 : decode cX9_put 1 = .ok (.iconst 0, 1) := dk_3 (bs_at BX9_put_0 1 rfl)
theorem dX9_put_2 : decode cX9_put 2 = .ok (.bipush 7, 2) := dk_16 7 (bs_at BX9_put_0 2 rfl) rfl
theorem dX9_put_4 : decode cX9_put 4 = .ok (.invokestatic 52, 3) := dk_184 0 52 (bs_at BX9_put_0 3 rfl) rfl
theorem dX9_put_7 : decode cX9_put 7 = .ok (.ifCond .eq 25, 3) := dk_153 0 25 (bs_at BX9_put_0 4 rfl) rfl
theorem dX9_put_10 : decode cX9_put 10 = .ok (.iload_n 2, 1) := dk_28 (bs_at BX9_put_0 5 rfl)
theorem dX9_put_11 : decode cX9_put 11 = .ok (.iconst 0, 1) := dk_3 (bs_at BX9_put_0 6 rfl)
theorem dX9_put_12 : decode cX9_put 12 = .ok (.bipush 6, 2) := dk_16 6 (bs_at BX9_put_0 7 rfl) rfl
theorem dX9_put_14 : decode cX9_put 14 = .ok (.invokestatic 52, 3) := dk_184 0 52 (bs_at BX9_put_0 8 rfl) rfl
theorem dX9_put_17 : decode cX9_put 17 = .ok (.ifCond .eq 15, 3) := dk_153 0 15 (bs_at BX9_put_0 9 rfl) rfl
theorem dX9_put_20 : decode cX9_put 20 = .ok (.aload_n 0, 1) := dk_42 (bs_at BX9_put_0 10 rfl)
theorem dX9_put_21 : decode cX9_put 21 = .ok (.getfield 9, 3) := dk_180 0 9 (bs_at BX9_put_0 11 rfl) rfl
theorem dX9_put_24 : decode cX9_put 24 = .ok (.iload_n 2, 1) := dk_28 (bs_at BX9_put_0 12 rfl)
theorem dX9_put_25 : decode cX9_put 25 = .ok (.bipush 8, 2) := dk_16 8 (bs_at BX9_put_0 13 rfl) rfl
theorem dX9_put_27 : decode cX9_put 27 = .ok (.imul, 1) := dk_104 (bs_at BX9_put_0 14 rfl)
theorem dX9_put_28 : decode cX9_put 28 = .ok (.iload_n 1, 1) := dk_27 (bs_at BX9_put_0 15 rfl)
theorem dX9_put_29 : decode cX9_put 29 = .ok (.iadd, 1) := dk_96 (bs_at BX9_put_0 16 rfl)
theorem dX9_put_30 : decode cX9_put 30 = .ok (.iload_n 3, 1) := dk_29 (bs_at BX9_put_0 17 rfl)
theorem dX9_put_31 : decode cX9_put 31 = .ok (.iastore, 1) := dk_79 (bs_at BX9_put_0 18 rfl)
theorem dX9_put_32 : decode cX9_put 32 = .ok (.return_, 1) := dk_177 (bs_at BX9_put_0 19 rfl)
theorem BX9_dinerOf_0 : bsegs (ByteArray.data cX9_dinerOf |>.toList.drop 0) 0 [(0, [3]), (1, [61]), (2, [28]), (3, [42]), (4, [180, 0, 27]), (7, [162, 0, 21]), (10, [42]), (11, [28]), (12, [6]), (13, [182, 0, 56]), (16, [27]), (17, [160, 0, 5]), (20, [28]), (21, [172]), (22, [132, 2, 1]), (25, [167, 255, 233]), (28, [2]), (29, [172])] = true := by decide +kernel
theorem dX9_dinerOf_0 : decode cX9_dinerOf 0 = .ok (.iconst 0, 1) := dk_3 (bs_at BX9_dinerOf_0 0 rfl)
theorem dX9_dinerOf_1 : decode cX9_dinerOf 1 = .ok (.istore_n 2, 1) := dk_61 (bs_at BX9_dinerOf_0 1 rfl)
theorem dX9_dinerOf_2 : decode cX9_dinerOf 2 = .ok (.iload_n 2, 1) := dk_28 (bs_at BX9_dinerOf_0 2 rfl)
theorem dX9_dinerOf_3 : decode cX9_dinerOf 3 = .ok (.aload_n 0, 1) := dk_42 (bs_at BX9_dinerOf_0 3 rfl)
theorem dX9_dinerOf_4 : decode cX9_dinerOf 4 = .ok (.getfield 27, 3) := dk_180 0 27 (bs_at BX9_dinerOf_0 4 rfl) rfl
theorem dX9_dinerOf_7 : decode cX9_dinerOf 7 = .ok (.if_icmp .ge 21, 3) := dk_162 0 21 (bs_at BX9_dinerOf_0 5 rfl) rfl
theorem dX9_dinerOf_10 : decode cX9_dinerOf 10 = .ok (.aload_n 0, 1) := dk_42 (bs_at BX9_dinerOf_0 6 rfl)
theorem dX9_dinerOf_11 : decode cX9_dinerOf 11 = .ok (.iload_n 2, 1) := dk_28 (bs_at BX9_dinerOf_0 7 rfl)
theorem dX9_dinerOf_12 : decode cX9_dinerOf 12 = .ok (.iconst 3, 1) := dk_6 (bs_at BX9_dinerOf_0 8 rfl)
theorem dX9_dinerOf_13 : decode cX9_dinerOf 13 = .ok (.invokevirtual 56, 3) := dk_182 0 56 (bs_at BX9_dinerOf_0 9 rfl) rfl
theorem dX9_dinerOf_16 : decode cX9_dinerOf 16 = .ok (.iload_n 1, 1) := dk_27 (bs_at BX9_dinerOf_0 10 rfl)
theorem dX9_dinerOf_17 : decode cX9_dinerOf 17 = .ok (.if_icmp .ne 5, 3) := dk_160 0 5 (bs_at BX9_dinerOf_0 11 rfl) rfl
theorem dX9_dinerOf_20 : decode cX9_dinerOf 20 = .ok (.iload_n 2, 1) := dk_28 (bs_at BX9_dinerOf_0 12 rfl)
theorem dX9_dinerOf_21 : decode cX9_dinerOf 21 = .ok (.ireturn, 1) := dk_172 (bs_at BX9_dinerOf_0 13 rfl)
theorem dX9_dinerOf_22 : decode cX9_dinerOf 22 = .ok (.iinc 2 1, 3) := dk_132 2 1 (bs_at BX9_dinerOf_0 14 rfl) rfl
theorem dX9_dinerOf_25 : decode cX9_dinerOf 25 = .ok (.goto (-23), 3) := dk_167 255 233 (bs_at BX9_dinerOf_0 15 rfl) rfl
theorem dX9_dinerOf_28 : decode cX9_dinerOf 28 = .ok (.iconst (-1), 1) := dk_2 (bs_at BX9_dinerOf_0 16 rfl)
theorem dX9_dinerOf_29 : decode cX9_dinerOf 29 = .ok (.ireturn, 1) := dk_172 (bs_at BX9_dinerOf_0 17 rfl)
theorem BX9_build_0 : bsegs (ByteArray.data cX9_build |>.toList.drop 0) 0 [(0, [42]), (1, [180, 0, 27]), (4, [54, 6]), (6, [42]), (7, [21, 6]), (9, [3]), (10, [27]), (11, [182, 0, 60]), (14, [42]), (15, [21, 6]), (17, [4]), (18, [28]), (19, [182, 0, 60]), (22, [42]), (23, [21, 6]), (25, [5]), (26, [29]), (27, [182, 0, 60]), (30, [42]), (31, [21, 6]), (33, [6]), (34, [21, 4]), (36, [182, 0, 60]), (39, [42])] = true := by decide +kernel
theorem dX9_build_0 : decode cX9_build 0 = .ok (.aload_n 0, 1) := dk_42 (bs_at BX9_build_0 0 rfl)
theorem dX9_build_1 : decode cX9_build 1 = .ok (.getfield 27, 3) := dk_180 0 27 (bs_at BX9_build_0 1 rfl) rfl
theorem dX9_build_4 : decode cX9_build 4 = .ok (.istore 6, 2) := dk_54 6 (bs_at BX9_build_0 2 rfl)
theorem dX9_build_6 : decode cX9_build 6 = .ok (.aload_n 0, 1) := dk_42 (bs_at BX9_build_0 3 rfl)
theorem dX9_build_7 : decode cX9_build 7 = .ok (.iload 6, 2) := dk_21 6 (bs_at BX9_build_0 4 rfl)
theorem dX9_build_9 : decode cX9_build 9 = .ok (.iconst 0, 1) := dk_3 (bs_at BX9_build_0 5 rfl)
theorem dX9_build_10 : decode cX9_build 10 = .ok (.iload_n 1, 1) := dk_27 (bs_at BX9_build_0 6 rfl)
theorem dX9_build_11 : decode cX9_build 11 = .ok (.invokevirtual 60, 3) := dk_182 0 60 (bs_at BX9_build_0 7 rfl) rfl
theorem dX9_build_14 : decode cX9_build 14 = .ok (.aload_n 0, 1) := dk_42 (bs_at BX9_build_0 8 rfl)
theorem dX9_build_15 : decode cX9_build 15 = .ok (.iload 6, 2) := dk_21 6 (bs_at BX9_build_0 9 rfl)
theorem dX9_build_17 : decode cX9_build 17 = .ok (.iconst 1, 1) := dk_4 (bs_at BX9_build_0 10 rfl)
theorem dX9_build_18 : decode cX9_build 18 = .ok (.iload_n 2, 1) := dk_28 (bs_at BX9_build_0 11 rfl)
theorem dX9_build_19 : decode cX9_build 19 = .ok (.invokevirtual 60, 3) := dk_182 0 60 (bs_at BX9_build_0 12 rfl) rfl
theorem dX9_build_22 : decode cX9_build 22 = .ok (.aload_n 0, 1) := dk_42 (bs_at BX9_build_0 13 rfl)
theorem dX9_build_23 : decode cX9_build 23 = .ok (.iload 6, 2) := dk_21 6 (bs_at BX9_build_0 14 rfl)
theorem dX9_build_25 : decode cX9_build 25 = .ok (.iconst 2, 1) := dk_5 (bs_at BX9_build_0 15 rfl)
theorem dX9_build_26 : decode cX9_build 26 = .ok (.iload_n 3, 1) := dk_29 (bs_at BX9_build_0 16 rfl)
theorem dX9_build_27 : decode cX9_build 27 = .ok (.invokevirtual 60, 3) := dk_182 0 60 (bs_at BX9_build_0 17 rfl) rfl
theorem dX9_build_30 : decode cX9_build 30 = .ok (.aload_n 0, 1) := dk_42 (bs_at BX9_build_0 18 rfl)
theorem dX9_build_31 : decode cX9_build 31 = .ok (.iload 6, 2) := dk_21 6 (bs_at BX9_build_0 19 rfl)
theorem dX9_build_33 : decode cX9_build 33 = .ok (.iconst 3, 1) := dk_6 (bs_at BX9_build_0 20 rfl)
theorem dX9_build_34 : decode cX9_build 34 = .ok (.iload 4, 2) := dk_21 4 (bs_at BX9_build_0 21 rfl)
theorem dX9_build_36 : decode cX9_build 36 = .ok (.invokevirtual 60, 3) := dk_182 0 60 (bs_at BX9_build_0 22 rfl) rfl
theorem dX9_build_39 : decode cX9_build 39 = .ok (.aload_n 0, 1) := dk_42 (bs_at BX9_build_0 23 rfl)
theorem BX9_build_40 : bsegs (ByteArray.data cX9_build |>.toList.drop 40) 40 [(40, [21, 6]), (42, [7]), (43, [21, 5]), (45, [182, 0, 60]), (48, [42]), (49, [89]), (50, [180, 0, 27]), (53, [4]), (54, [96]), (55, [181, 0, 27]), (58, [21, 6]), (60, [172])] = true := by decide +kernel
theorem dX9_build_40 : decode cX9_build 40 = .ok (.iload 6, 2) := dk_21 6 (bs_at BX9_build_40 0 rfl)
theorem dX9_build_42 : decode cX9_build 42 = .ok (.iconst 4, 1) := dk_7 (bs_at BX9_build_40 1 rfl)
theorem dX9_build_43 : decode cX9_build 43 = .ok (.iload 5, 2) := dk_21 5 (bs_at BX9_build_40 2 rfl)
theorem dX9_build_45 : decode cX9_build 45 = .ok (.invokevirtual 60, 3) := dk_182 0 60 (bs_at BX9_build_40 3 rfl) rfl
theorem dX9_build_48 : decode cX9_build 48 = .ok (.aload_n 0, 1) := dk_42 (bs_at BX9_build_40 4 rfl)
theorem dX9_build_49 : decode cX9_build 49 = .ok (.dup, 1) := dk_89 (bs_at BX9_build_40 5 rfl)
theorem dX9_build_50 : decode cX9_build 50 = .ok (.getfield 27, 3) := dk_180 0 27 (bs_at BX9_build_40 6 rfl) rfl
theorem dX9_build_53 : decode cX9_build 53 = .ok (.iconst 1, 1) := dk_4 (bs_at BX9_build_40 7 rfl)
theorem dX9_build_54 : decode cX9_build 54 = .ok (.iadd, 1) := dk_96 (bs_at BX9_build_40 8 rfl)
theorem dX9_build_55 : decode cX9_build 55 = .ok (.putfield 27, 3) := dk_181 0 27 (bs_at BX9_build_40 9 rfl) rfl
theorem dX9_build_58 : decode cX9_build 58 = .ok (.iload 6, 2) := dk_21 6 (bs_at BX9_build_40 10 rfl)
theorem dX9_build_60 : decode cX9_build 60 = .ok (.ireturn, 1) := dk_172 (bs_at BX9_build_40 11 rfl)
theorem BX9_loud_0 : bsegs (ByteArray.data cX9_loud |>.toList.drop 0) 0 [(0, [27]), (1, [42]), (2, [180, 0, 18]), (5, [5]), (6, [46]), (7, [161, 0, 17]), (10, [27]), (11, [42]), (12, [180, 0, 18]), (15, [6]), (16, [46]), (17, [163, 0, 7]), (20, [4]), (21, [167, 0, 4]), (24, [3]), (25, [172])] = true := by decide +kernel
theorem dX9_loud_0 : decode cX9_loud 0 = .ok (.iload_n 1, 1) := dk_27 (bs_at BX9_loud_0 0 rfl)
theorem dX9_loud_1 : decode cX9_loud 1 = .ok (.aload_n 0, 1) := dk_42 (bs_at BX9_loud_0 1 rfl)
theorem dX9_loud_2 : decode cX9_loud 2 = .ok (.getfield 18, 3) := dk_180 0 18 (bs_at BX9_loud_0 2 rfl) rfl
theorem dX9_loud_5 : decode cX9_loud 5 = .ok (.iconst 2, 1) := dk_5 (bs_at BX9_loud_0 3 rfl)
theorem dX9_loud_6 : decode cX9_loud 6 = .ok (.iaload, 1) := dk_46 (bs_at BX9_loud_0 4 rfl)
theorem dX9_loud_7 : decode cX9_loud 7 = .ok (.if_icmp .lt 17, 3) := dk_161 0 17 (bs_at BX9_loud_0 5 rfl) rfl
theorem dX9_loud_10 : decode cX9_loud 10 = .ok (.iload_n 1, 1) := dk_27 (bs_at BX9_loud_0 6 rfl)
theorem dX9_loud_11 : decode cX9_loud 11 = .ok (.aload_n 0, 1) := dk_42 (bs_at BX9_loud_0 7 rfl)
theorem dX9_loud_12 : decode cX9_loud 12 = .ok (.getfield 18, 3) := dk_180 0 18 (bs_at BX9_loud_0 8 rfl) rfl
theorem dX9_loud_15 : decode cX9_loud 15 = .ok (.iconst 3, 1) := dk_6 (bs_at BX9_loud_0 9 rfl)
theorem dX9_loud_16 : decode cX9_loud 16 = .ok (.iaload, 1) := dk_46 (bs_at BX9_loud_0 10 rfl)
theorem dX9_loud_17 : decode cX9_loud 17 = .ok (.if_icmp .gt 7, 3) := dk_163 0 7 (bs_at BX9_loud_0 11 rfl) rfl
theorem dX9_loud_20 : decode cX9_loud 20 = .ok (.iconst 1, 1) := dk_4 (bs_at BX9_loud_0 12 rfl)
theorem dX9_loud_21 : decode cX9_loud 21 = .ok (.goto 4, 3) := dk_167 0 4 (bs_at BX9_loud_0 13 rfl) rfl
theorem dX9_loud_24 : decode cX9_loud 24 = .ok (.iconst 0, 1) := dk_3 (bs_at BX9_loud_0 14 rfl)
theorem dX9_loud_25 : decode cX9_loud 25 = .ok (.ireturn, 1) := dk_172 (bs_at BX9_loud_0 15 rfl)
theorem BX9_sings_0 : bsegs (ByteArray.data cX9_sings |>.toList.drop 0) 0 [(0, [42]), (1, [42]), (2, [27]), (3, [8]), (4, [182, 0, 56]), (7, [182, 0, 68]), (10, [172])] = true := by decide +kernel
theorem dX9_sings_0 : decode cX9_sings 0 = .ok (.aload_n 0, 1) := dk_42 (bs_at BX9_sings_0 0 rfl)
theorem dX9_sings_1 : decode cX9_sings 1 = .ok (.aload_n 0, 1) := dk_42 (bs_at BX9_sings_0 1 rfl)
theorem dX9_sings_2 : decode cX9_sings 2 = .ok (.iload_n 1, 1) := dk_27 (bs_at BX9_sings_0 2 rfl)
theorem dX9_sings_3 : decode cX9_sings 3 = .ok (.iconst 5, 1) := dk_8 (bs_at BX9_sings_0 3 rfl)
theorem dX9_sings_4 : decode cX9_sings 4 = .ok (.invokevirtual 56, 3) := dk_182 0 56 (bs_at BX9_sings_0 4 rfl) rfl
theorem dX9_sings_7 : decode cX9_sings 7 = .ok (.invokevirtual 68, 3) := dk_182 0 68 (bs_at BX9_sings_0 5 rfl) rfl
theorem dX9_sings_10 : decode cX9_sings 10 = .ok (.ireturn, 1) := dk_172 (bs_at BX9_sings_0 6 rfl)
theorem BX9_beside_0 : bsegs (ByteArray.data cX9_beside |>.toList.drop 0) 0 [(0, [42]), (1, [27]), (2, [3]), (3, [182, 0, 56]), (6, [42]), (7, [28]), (8, [3]), (9, [182, 0, 56]), (12, [100]), (13, [184, 0, 72]), (16, [62]), (17, [42]), (18, [27]), (19, [4]), (20, [182, 0, 56]), (23, [42]), (24, [28]), (25, [4]), (26, [182, 0, 56]), (29, [160, 0, 18]), (32, [29]), (33, [4]), (34, [159, 0, 9]), (37, [29])] = true := by decide +kernel
theorem dX9_beside_0 : decode cX9_beside 0 = .ok (.aload_n 0, 1) := dk_42 (bs_at BX9_beside_0 0 rfl)
theorem dX9_beside_1 : decode cX9_beside 1 = .ok (.iload_n 1, 1) := dk_27 (bs_at BX9_beside_0 1 rfl)
theorem dX9_beside_2 : decode cX9_beside 2 = .ok (.iconst 0, 1) := dk_3 (bs_at BX9_beside_0 2 rfl)
theorem dX9_beside_3 : decode cX9_beside 3 = .ok (.invokevirtual 56, 3) := dk_182 0 56 (bs_at BX9_beside_0 3 rfl) rfl
theorem dX9_beside_6 : decode cX9_beside 6 = .ok (.aload_n 0, 1) := dk_42 (bs_at BX9_beside_0 4 rfl)
theorem dX9_beside_7 : decode cX9_beside 7 = .ok (.iload_n 2, 1) := dk_28 (bs_at BX9_beside_0 5 rfl)
theorem dX9_beside_8 : decode cX9_beside 8 = .ok (.iconst 0, 1) := dk_3 (bs_at BX9_beside_0 6 rfl)
theorem dX9_beside_9 : decode cX9_beside 9 = .ok (.invokevirtual 56, 3) := dk_182 0 56 (bs_at BX9_beside_0 7 rfl) rfl
theorem dX9_beside_12 : decode cX9_beside 12 = .ok (.isub, 1) := dk_100 (bs_at BX9_beside_0 8 rfl)
theorem dX9_beside_13 : decode cX9_beside 13 = .ok (.invokestatic 72, 3) := dk_184 0 72 (bs_at BX9_beside_0 9 rfl) rfl
theorem dX9_beside_16 : decode cX9_beside 16 = .ok (.istore_n 3, 1) := dk_62 (bs_at BX9_beside_0 10 rfl)
theorem dX9_beside_17 : decode cX9_beside 17 = .ok (.aload_n 0, 1) := dk_42 (bs_at BX9_beside_0 11 rfl)
theorem dX9_beside_18 : decode cX9_beside 18 = .ok (.iload_n 1, 1) := dk_27 (bs_at BX9_beside_0 12 rfl)
theorem dX9_beside_19 : decode cX9_beside 19 = .ok (.iconst 1, 1) := dk_4 (bs_at BX9_beside_0 13 rfl)
theorem dX9_beside_20 : decode cX9_beside 20 = .ok (.invokevirtual 56, 3) := dk_182 0 56 (bs_at BX9_beside_0 14 rfl) rfl
theorem dX9_beside_23 : decode cX9_beside 23 = .ok (.aload_n 0, 1) := dk_42 (bs_at BX9_beside_0 15 rfl)
theorem dX9_beside_24 : decode cX9_beside 24 = .ok (.iload_n 2, 1) := dk_28 (bs_at BX9_beside_0 16 rfl)
theorem dX9_beside_25 : decode cX9_beside 25 = .ok (.iconst 1, 1) := dk_4 (bs_at BX9_beside_0 17 rfl)
theorem dX9_beside_26 : decode cX9_beside 26 = .ok (.invokevirtual 56, 3) := dk_182 0 56 (bs_at BX9_beside_0 18 rfl) rfl
theorem dX9_beside_29 : decode cX9_beside 29 = .ok (.if_icmp .ne 18, 3) := dk_160 0 18 (bs_at BX9_beside_0 19 rfl) rfl
theorem dX9_beside_32 : decode cX9_beside 32 = .ok (.iload_n 3, 1) := dk_29 (bs_at BX9_beside_0 20 rfl)
theorem dX9_beside_33 : decode cX9_beside 33 = .ok (.iconst 1, 1) := dk_4 (bs_at BX9_beside_0 21 rfl)
theorem dX9_beside_34 : decode cX9_beside 34 = .ok (.if_icmp .eq 9, 3) := dk_159 0 9 (bs_at BX9_beside_0 22 rfl) rfl
theorem dX9_beside_37 : decode cX9_beside 37 = .ok (.iload_n 3, 1) := dk_29 (bs_at BX9_beside_0 23 rfl)
theorem BX9_beside_38 : bsegs (ByteArray.data cX9_beside |>.toList.drop 38) 38 [(38, [16, 6]), (40, [160, 0, 7]), (43, [4]), (44, [167, 0, 4]), (47, [3]), (48, [172])] = true := by decide +kernel
theorem dX9_beside_38 : decode cX9_beside 38 = .ok (.bipush 6, 2) := dk_16 6 (bs_at BX9_beside_38 0 rfl) rfl
theorem dX9_beside_40 : decode cX9_beside 40 = .ok (.if_icmp .ne 7, 3) := dk_160 0 7 (bs_at BX9_beside_38 1 rfl) rfl
theorem dX9_beside_43 : decode cX9_beside 43 = .ok (.iconst 1, 1) := dk_4 (bs_at BX9_beside_38 2 rfl)
theorem dX9_beside_44 : decode cX9_beside 44 = .ok (.goto 4, 3) := dk_167 0 4 (bs_at BX9_beside_38 3 rfl) rfl
theorem dX9_beside_47 : decode cX9_beside 47 = .ok (.iconst 0, 1) := dk_3 (bs_at BX9_beside_38 4 rfl)
theorem dX9_beside_48 : decode cX9_beside 48 = .ok (.ireturn, 1) := dk_172 (bs_at BX9_beside_38 5 rfl)
theorem BX9_singing_0 : bsegs (ByteArray.data cX9_singing |>.toList.drop 0) 0 [(0, [3]), (1, [60]), (2, [3]), (3, [61]), (4, [28]), (5, [42]), (6, [180, 0, 27]), (9, [162, 0, 25]), (12, [27]), (13, [42]), (14, [28]), (15, [182, 0, 78]), (18, [153, 0, 7]), (21, [4]), (22, [167, 0, 4]), (25, [3]), (26, [96]), (27, [60]), (28, [132, 2, 1]), (31, [167, 255, 229]), (34, [27]), (35, [172])] = true := by decide +kernel
theorem dX9_singing_0 : decode cX9_singing 0 = .ok (.iconst 0, 1) := dk_3 (bs_at BX9_singing_0 0 rfl)
theorem dX9_singing_1 : decode cX9_singing 1 = .ok (.istore_n 1, 1) := dk_60 (bs_at BX9_singing_0 1 rfl)
theorem dX9_singing_2 : decode cX9_singing 2 = .ok (.iconst 0, 1) := dk_3 (bs_at BX9_singing_0 2 rfl)
theorem dX9_singing_3 : decode cX9_singing 3 = .ok (.istore_n 2, 1) := dk_61 (bs_at BX9_singing_0 3 rfl)
theorem dX9_singing_4 : decode cX9_singing 4 = .ok (.iload_n 2, 1) := dk_28 (bs_at BX9_singing_0 4 rfl)
theorem dX9_singing_5 : decode cX9_singing 5 = .ok (.aload_n 0, 1) := dk_42 (bs_at BX9_singing_0 5 rfl)
theorem dX9_singing_6 : decode cX9_singing 6 = .ok (.getfield 27, 3) := dk_180 0 27 (bs_at BX9_singing_0 6 rfl) rfl
theorem dX9_singing_9 : decode cX9_singing 9 = .ok (.if_icmp .ge 25, 3) := dk_162 0 25 (bs_at BX9_singing_0 7 rfl) rfl
theorem dX9_singing_12 : decode cX9_singing 12 = .ok (.iload_n 1, 1) := dk_27 (bs_at BX9_singing_0 8 rfl)
theorem dX9_singing_13 : decode cX9_singing 13 = .ok (.aload_n 0, 1) := dk_42 (bs_at BX9_singing_0 9 rfl)
theorem dX9_singing_14 : decode cX9_singing 14 = .ok (.iload_n 2, 1) := dk_28 (bs_at BX9_singing_0 10 rfl)
theorem dX9_singing_15 : decode cX9_singing 15 = .ok (.invokevirtual 78, 3) := dk_182 0 78 (bs_at BX9_singing_0 11 rfl) rfl
theorem dX9_singing_18 : decode cX9_singing 18 = .ok (.ifCond .eq 7, 3) := dk_153 0 7 (bs_at BX9_singing_0 12 rfl) rfl
theorem dX9_singing_21 : decode cX9_singing 21 = .ok (.iconst 1, 1) := dk_4 (bs_at BX9_singing_0 13 rfl)
theorem dX9_singing_22 : decode cX9_singing 22 = .ok (.goto 4, 3) := dk_167 0 4 (bs_at BX9_singing_0 14 rfl) rfl
theorem dX9_singing_25 : decode cX9_singing 25 = .ok (.iconst 0, 1) := dk_3 (bs_at BX9_singing_0 15 rfl)
theorem dX9_singing_26 : decode cX9_singing 26 = .ok (.iadd, 1) := dk_96 (bs_at BX9_singing_0 16 rfl)
theorem dX9_singing_27 : decode cX9_singing 27 = .ok (.istore_n 1, 1) := dk_60 (bs_at BX9_singing_0 17 rfl)
theorem dX9_singing_28 : decode cX9_singing 28 = .ok (.iinc 2 1, 3) := dk_132 2 1 (bs_at BX9_singing_0 18 rfl) rfl
theorem dX9_singing_31 : decode cX9_singing 31 = .ok (.goto (-27), 3) := dk_167 255 229 (bs_at BX9_singing_0 19 rfl) rfl
theorem dX9_singing_34 : decode cX9_singing 34 = .ok (.iload_n 1, 1) := dk_27 (bs_at BX9_singing_0 20 rfl)
theorem dX9_singing_35 : decode cX9_singing 35 = .ok (.ireturn, 1) := dk_172 (bs_at BX9_singing_0 21 rfl)
theorem BX9_notesNow_0 : bsegs (ByteArray.data cX9_notesNow |>.toList.drop 0) 0 [(0, [3]), (1, [60]), (2, [3]), (3, [61]), (4, [28]), (5, [42]), (6, [180, 0, 27]), (9, [162, 0, 32]), (12, [27]), (13, [42]), (14, [28]), (15, [182, 0, 78]), (18, [153, 0, 14]), (21, [4]), (22, [42]), (23, [28]), (24, [3]), (25, [182, 0, 56]), (28, [120]), (29, [167, 0, 4]), (32, [3]), (33, [128]), (34, [60]), (35, [132, 2, 1])] = true := by decide +kernel
theorem dX9_notesNow_0 : decode cX9_notesNow 0 = .ok (.iconst 0, 1) := dk_3 (bs_at BX9_notesNow_0 0 rfl)
theorem dX9_notesNow_1 : decode cX9_notesNow 1 = .ok (.istore_n 1, 1) := dk_60 (bs_at BX9_notesNow_0 1 rfl)
theorem dX9_notesNow_2 : decode cX9_notesNow 2 = .ok (.iconst 0, 1) := dk_3 (bs_at BX9_notesNow_0 2 rfl)
theorem dX9_notesNow_3 : decode cX9_notesNow 3 = .ok (.istore_n 2, 1) := dk_61 (bs_at BX9_notesNow_0 3 rfl)
theorem dX9_notesNow_4 : decode cX9_notesNow 4 = .ok (.iload_n 2, 1) := dk_28 (bs_at BX9_notesNow_0 4 rfl)
theorem dX9_notesNow_5 : decode cX9_notesNow 5 = .ok (.aload_n 0, 1) := dk_42 (bs_at BX9_notesNow_0 5 rfl)
theorem dX9_notesNow_6 : decode cX9_notesNow 6 = .ok (.getfield 27, 3) := dk_180 0 27 (bs_at BX9_notesNow_0 6 rfl) rfl
theorem dX9_notesNow_9 : decode cX9_notesNow 9 = .ok (.if_icmp .ge 32, 3) := dk_162 0 32 (bs_at BX9_notesNow_0 7 rfl) rfl
theorem dX9_notesNow_12 : decode cX9_notesNow 12 = .ok (.iload_n 1, 1) := dk_27 (bs_at BX9_notesNow_0 8 rfl)
theorem dX9_notesNow_13 : decode cX9_notesNow 13 = .ok (.aload_n 0, 1) := dk_42 (bs_at BX9_notesNow_0 9 rfl)
theorem dX9_notesNow_14 : decode cX9_notesNow 14 = .ok (.iload_n 2, 1) := dk_28 (bs_at BX9_notesNow_0 10 rfl)
theorem dX9_notesNow_15 : decode cX9_notesNow 15 = .ok (.invokevirtual 78, 3) := dk_182 0 78 (bs_at BX9_notesNow_0 11 rfl) rfl
theorem dX9_notesNow_18 : decode cX9_notesNow 18 = .ok (.ifCond .eq 14, 3) := dk_153 0 14 (bs_at BX9_notesNow_0 12 rfl) rfl
theorem dX9_notesNow_21 : decode cX9_notesNow 21 = .ok (.iconst 1, 1) := dk_4 (bs_at BX9_notesNow_0 13 rfl)
theorem dX9_notesNow_22 : decode cX9_notesNow 22 = .ok (.aload_n 0, 1) := dk_42 (bs_at BX9_notesNow_0 14 rfl)
theorem dX9_notesNow_23 : decode cX9_notesNow 23 = .ok (.iload_n 2, 1) := dk_28 (bs_at BX9_notesNow_0 15 rfl)
theorem dX9_notesNow_24 : decode cX9_notesNow 24 = .ok (.iconst 0, 1) := dk_3 (bs_at BX9_notesNow_0 16 rfl)
theorem dX9_notesNow_25 : decode cX9_notesNow 25 = .ok (.invokevirtual 56, 3) := dk_182 0 56 (bs_at BX9_notesNow_0 17 rfl) rfl
theorem dX9_notesNow_28 : decode cX9_notesNow 28 = .ok (.ishl, 1) := dk_120 (bs_at BX9_notesNow_0 18 rfl)
theorem dX9_notesNow_29 : decode cX9_notesNow 29 = .ok (.goto 4, 3) := dk_167 0 4 (bs_at BX9_notesNow_0 19 rfl) rfl
theorem dX9_notesNow_32 : decode cX9_notesNow 32 = .ok (.iconst 0, 1) := dk_3 (bs_at BX9_notesNow_0 20 rfl)
theorem dX9_notesNow_33 : decode cX9_notesNow 33 = .ok (.ior, 1) := dk_128 (bs_at BX9_notesNow_0 21 rfl)
theorem dX9_notesNow_34 : decode cX9_notesNow 34 = .ok (.istore_n 1, 1) := dk_60 (bs_at BX9_notesNow_0 22 rfl)
theorem dX9_notesNow_35 : decode cX9_notesNow 35 = .ok (.iinc 2 1, 3) := dk_132 2 1 (bs_at BX9_notesNow_0 23 rfl) rfl
theorem BX9_notesNow_38 : bsegs (ByteArray.data cX9_notesNow |>.toList.drop 38) 38 [(38, [167, 255, 222]), (41, [27]), (42, [172])] = true := by decide +kernel
theorem dX9_notesNow_38 : decode cX9_notesNow 38 = .ok (.goto (-34), 3) := dk_167 255 222 (bs_at BX9_notesNow_38 0 rfl) rfl
theorem dX9_notesNow_41 : decode cX9_notesNow 41 = .ok (.iload_n 1, 1) := dk_27 (bs_at BX9_notesNow_38 1 rfl)
theorem dX9_notesNow_42 : decode cX9_notesNow 42 = .ok (.ireturn, 1) := dk_172 (bs_at BX9_notesNow_38 2 rfl)
theorem BX9_thirdsNow_0 : bsegs (ByteArray.data cX9_thirdsNow |>.toList.drop 0) 0 [(0, [42]), (1, [182, 0, 81]), (4, [60]), (5, [3]), (6, [61]), (7, [3]), (8, [62]), (9, [29]), (10, [16, 7]), (12, [162, 0, 49]), (15, [4]), (16, [29]), (17, [120]), (18, [4]), (19, [29]), (20, [5]), (21, [96]), (22, [16, 7]), (24, [112]), (25, [120]), (26, [128]), (27, [4]), (28, [29]), (29, [7])] = true := by decide +kernel
theorem dX9_thirdsNow_0 : decode cX9_thirdsNow 0 = .ok (.aload_n 0, 1) := dk_42 (bs_at BX9_thirdsNow_0 0 rfl)
theorem dX9_thirdsNow_1 : decode cX9_thirdsNow 1 = .ok (.invokevirtual 81, 3) := dk_182 0 81 (bs_at BX9_thirdsNow_0 1 rfl) rfl
theorem dX9_thirdsNow_4 : decode cX9_thirdsNow 4 = .ok (.istore_n 1, 1) := dk_60 (bs_at BX9_thirdsNow_0 2 rfl)
theorem dX9_thirdsNow_5 : decode cX9_thirdsNow 5 = .ok (.iconst 0, 1) := dk_3 (bs_at BX9_thirdsNow_0 3 rfl)
theorem dX9_thirdsNow_6 : decode cX9_thirdsNow 6 = .ok (.istore_n 2, 1) := dk_61 (bs_at BX9_thirdsNow_0 4 rfl)
theorem dX9_thirdsNow_7 : decode cX9_thirdsNow 7 = .ok (.iconst 0, 1) := dk_3 (bs_at BX9_thirdsNow_0 5 rfl)
theorem dX9_thirdsNow_8 : decode cX9_thirdsNow 8 = .ok (.istore_n 3, 1) := dk_62 (bs_at BX9_thirdsNow_0 6 rfl)
theorem dX9_thirdsNow_9 : decode cX9_thirdsNow 9 = .ok (.iload_n 3, 1) := dk_29 (bs_at BX9_thirdsNow_0 7 rfl)
theorem dX9_thirdsNow_10 : decode cX9_thirdsNow 10 = .ok (.bipush 7, 2) := dk_16 7 (bs_at BX9_thirdsNow_0 8 rfl) rfl
theorem dX9_thirdsNow_12 : decode cX9_thirdsNow 12 = .ok (.if_icmp .ge 49, 3) := dk_162 0 49 (bs_at BX9_thirdsNow_0 9 rfl) rfl
theorem dX9_thirdsNow_15 : decode cX9_thirdsNow 15 = .ok (.iconst 1, 1) := dk_4 (bs_at BX9_thirdsNow_0 10 rfl)
theorem dX9_thirdsNow_16 : decode cX9_thirdsNow 16 = .ok (.iload_n 3, 1) := dk_29 (bs_at BX9_thirdsNow_0 11 rfl)
theorem dX9_thirdsNow_17 : decode cX9_thirdsNow 17 = .ok (.ishl, 1) := dk_120 (bs_at BX9_thirdsNow_0 12 rfl)
theorem dX9_thirdsNow_18 : decode cX9_thirdsNow 18 = .ok (.iconst 1, 1) := dk_4 (bs_at BX9_thirdsNow_0 13 rfl)
theorem dX9_thirdsNow_19 : decode cX9_thirdsNow 19 = .ok (.iload_n 3, 1) := dk_29 (bs_at BX9_thirdsNow_0 14 rfl)
theorem dX9_thirdsNow_20 : decode cX9_thirdsNow 20 = .ok (.iconst 2, 1) := dk_5 (bs_at BX9_thirdsNow_0 15 rfl)
theorem dX9_thirdsNow_21 : decode cX9_thirdsNow 21 = .ok (.iadd, 1) := dk_96 (bs_at BX9_thirdsNow_0 16 rfl)
theorem dX9_thirdsNow_22 : decode cX9_thirdsNow 22 = .ok (.bipush 7, 2) := dk_16 7 (bs_at BX9_thirdsNow_0 17 rfl) rfl
theorem dX9_thirdsNow_24 : decode cX9_thirdsNow 24 = .ok (.irem, 1) := dk_112 (bs_at BX9_thirdsNow_0 18 rfl)
theorem dX9_thirdsNow_25 : decode cX9_thirdsNow 25 = .ok (.ishl, 1) := dk_120 (bs_at BX9_thirdsNow_0 19 rfl)
theorem dX9_thirdsNow_26 : decode cX9_thirdsNow 26 = .ok (.ior, 1) := dk_128 (bs_at BX9_thirdsNow_0 20 rfl)
theorem dX9_thirdsNow_27 : decode cX9_thirdsNow 27 = .ok (.iconst 1, 1) := dk_4 (bs_at BX9_thirdsNow_0 21 rfl)
theorem dX9_thirdsNow_28 : decode cX9_thirdsNow 28 = .ok (.iload_n 3, 1) := dk_29 (bs_at BX9_thirdsNow_0 22 rfl)
theorem dX9_thirdsNow_29 : decode cX9_thirdsNow 29 = .ok (.iconst 4, 1) := dk_7 (bs_at BX9_thirdsNow_0 23 rfl)
theorem BX9_thirdsNow_30 : bsegs (ByteArray.data cX9_thirdsNow |>.toList.drop 30) 30 [(30, [96]), (31, [16, 7]), (33, [112]), (34, [120]), (35, [128]), (36, [54, 4]), (38, [28]), (39, [27]), (40, [21, 4]), (42, [126]), (43, [21, 4]), (45, [160, 0, 7]), (48, [4]), (49, [167, 0, 4]), (52, [3]), (53, [96]), (54, [61]), (55, [132, 3, 1]), (58, [167, 255, 207]), (61, [28]), (62, [172])] = true := by decide +kernel
theorem dX9_thirdsNow_30 : decode cX9_thirdsNow 30 = .ok (.iadd, 1) := dk_96 (bs_at BX9_thirdsNow_30 0 rfl)
theorem dX9_thirdsNow_31 : decode cX9_thirdsNow 31 = .ok (.bipush 7, 2) := dk_16 7 (bs_at BX9_thirdsNow_30 1 rfl) rfl
theorem dX9_thirdsNow_33 : decode cX9_thirdsNow 33 = .ok (.irem, 1) := dk_112 (bs_at BX9_thirdsNow_30 2 rfl)
theorem dX9_thirdsNow_34 : decode cX9_thirdsNow 34 = .ok (.ishl, 1) := dk_120 (bs_at BX9_thirdsNow_30 3 rfl)
theorem dX9_thirdsNow_35 : decode cX9_thirdsNow 35 = .ok (.ior, 1) := dk_128 (bs_at BX9_thirdsNow_30 4 rfl)
theorem dX9_thirdsNow_36 : decode cX9_thirdsNow 36 = .ok (.istore 4, 2) := dk_54 4 (bs_at BX9_thirdsNow_30 5 rfl)
theorem dX9_thirdsNow_38 : decode cX9_thirdsNow 38 = .ok (.iload_n 2, 1) := dk_28 (bs_at BX9_thirdsNow_30 6 rfl)
theorem dX9_thirdsNow_39 : decode cX9_thirdsNow 39 = .ok (.iload_n 1, 1) := dk_27 (bs_at BX9_thirdsNow_30 7 rfl)
theorem dX9_thirdsNow_40 : decode cX9_thirdsNow 40 = .ok (.iload 4, 2) := dk_21 4 (bs_at BX9_thirdsNow_30 8 rfl)
theorem dX9_thirdsNow_42 : decode cX9_thirdsNow 42 = .ok (.iand, 1) := dk_126 (bs_at BX9_thirdsNow_30 9 rfl)
theorem dX9_thirdsNow_43 : decode cX9_thirdsNow 43 = .ok (.iload 4, 2) := dk_21 4 (bs_at BX9_thirdsNow_30 10 rfl)
theorem dX9_thirdsNow_45 : decode cX9_thirdsNow 45 = .ok (.if_icmp .ne 7, 3) := dk_160 0 7 (bs_at BX9_thirdsNow_30 11 rfl) rfl
theorem dX9_thirdsNow_48 : decode cX9_thirdsNow 48 = .ok (.iconst 1, 1) := dk_4 (bs_at BX9_thirdsNow_30 12 rfl)
theorem dX9_thirdsNow_49 : decode cX9_thirdsNow 49 = .ok (.goto 4, 3) := dk_167 0 4 (bs_at BX9_thirdsNow_30 13 rfl) rfl
theorem dX9_thirdsNow_52 : decode cX9_thirdsNow 52 = .ok (.iconst 0, 1) := dk_3 (bs_at BX9_thirdsNow_30 14 rfl)
theorem dX9_thirdsNow_53 : decode cX9_thirdsNow 53 = .ok (.iadd, 1) := dk_96 (bs_at BX9_thirdsNow_30 15 rfl)
theorem dX9_thirdsNow_54 : decode cX9_thirdsNow 54 = .ok (.istore_n 2, 1) := dk_61 (bs_at BX9_thirdsNow_30 16 rfl)
theorem dX9_thirdsNow_55 : decode cX9_thirdsNow 55 = .ok (.iinc 3 1, 3) := dk_132 3 1 (bs_at BX9_thirdsNow_30 17 rfl) rfl
theorem dX9_thirdsNow_58 : decode cX9_thirdsNow 58 = .ok (.goto (-49), 3) := dk_167 255 207 (bs_at BX9_thirdsNow_30 18 rfl) rfl
theorem dX9_thirdsNow_61 : decode cX9_thirdsNow 61 = .ok (.iload_n 2, 1) := dk_28 (bs_at BX9_thirdsNow_30 19 rfl)
theorem dX9_thirdsNow_62 : decode cX9_thirdsNow 62 = .ok (.ireturn, 1) := dk_172 (bs_at BX9_thirdsNow_30 20 rfl)
theorem BX9_chordAt_0 : bsegs (ByteArray.data cX9_chordAt |>.toList.drop 0) 0 [(0, [27]), (1, [155, 0, 18]), (4, [27]), (5, [16, 24]), (7, [162, 0, 12]), (10, [42]), (11, [180, 0, 15]), (14, [27]), (15, [46]), (16, [167, 0, 4]), (19, [2]), (20, [172])] = true := by decide +kernel
theorem dX9_chordAt_0 : decode cX9_chordAt 0 = .ok (.iload_n 1, 1) := dk_27 (bs_at BX9_chordAt_0 0 rfl)
theorem dX9_chordAt_1 : decode cX9_chordAt 1 = .ok (.ifCond .lt 18, 3) := dk_155 0 18 (bs_at BX9_chordAt_0 1 rfl) rfl
theorem dX9_chordAt_4 : decode cX9_chordAt 4 = .ok (.iload_n 1, 1) := dk_27 (bs_at BX9_chordAt_0 2 rfl)
theorem dX9_chordAt_5 : decode cX9_chordAt 5 = .ok (.bipush 24, 2) := dk_16 24 (bs_at BX9_chordAt_0 3 rfl) rfl
theorem dX9_chordAt_7 : decode cX9_chordAt 7 = .ok (.if_icmp .ge 12, 3) := dk_162 0 12 (bs_at BX9_chordAt_0 4 rfl) rfl
theorem dX9_chordAt_10 : decode cX9_chordAt 10 = .ok (.aload_n 0, 1) := dk_42 (bs_at BX9_chordAt_0 5 rfl)
theorem dX9_chordAt_11 : decode cX9_chordAt 11 = .ok (.getfield 15, 3) := dk_180 0 15 (bs_at BX9_chordAt_0 6 rfl) rfl
theorem dX9_chordAt_14 : decode cX9_chordAt 14 = .ok (.iload_n 1, 1) := dk_27 (bs_at BX9_chordAt_0 7 rfl)
theorem dX9_chordAt_15 : decode cX9_chordAt 15 = .ok (.iaload, 1) := dk_46 (bs_at BX9_chordAt_0 8 rfl)
theorem dX9_chordAt_16 : decode cX9_chordAt 16 = .ok (.goto 4, 3) := dk_167 0 4 (bs_at BX9_chordAt_0 9 rfl) rfl
theorem dX9_chordAt_19 : decode cX9_chordAt 19 = .ok (.iconst (-1), 1) := dk_2 (bs_at BX9_chordAt_0 10 rfl)
theorem dX9_chordAt_20 : decode cX9_chordAt 20 = .ok (.ireturn, 1) := dk_172 (bs_at BX9_chordAt_0 11 rfl)
theorem BX9_meetsChord_0 : bsegs (ByteArray.data cX9_meetsChord |>.toList.drop 0) 0 [(0, [42]), (1, [42]), (2, [180, 0, 18]), (5, [3]), (6, [46]), (7, [182, 0, 85]), (10, [60]), (11, [42]), (12, [182, 0, 81]), (15, [27]), (16, [126]), (17, [27]), (18, [160, 0, 7]), (21, [4]), (22, [167, 0, 4]), (25, [3]), (26, [172])] = true := by decide +kernel
theorem dX9_meetsChord_0 : decode cX9_meetsChord 0 = .ok (.aload_n 0, 1) := dk_42 (bs_at BX9_meetsChord_0 0 rfl)
theorem dX9_meetsChord_1 : decode cX9_meetsChord 1 = .ok (.aload_n 0, 1) := dk_42 (bs_at BX9_meetsChord_0 1 rfl)
theorem dX9_meetsChord_2 : decode cX9_meetsChord 2 = .ok (.getfield 18, 3) := dk_180 0 18 (bs_at BX9_meetsChord_0 2 rfl) rfl
theorem dX9_meetsChord_5 : decode cX9_meetsChord 5 = .ok (.iconst 0, 1) := dk_3 (bs_at BX9_meetsChord_0 3 rfl)
theorem dX9_meetsChord_6 : decode cX9_meetsChord 6 = .ok (.iaload, 1) := dk_46 (bs_at BX9_meetsChord_0 4 rfl)
theorem dX9_meetsChord_7 : decode cX9_meetsChord 7 = .ok (.invokevirtual 85, 3) := dk_182 0 85 (bs_at BX9_meetsChord_0 5 rfl) rfl
theorem dX9_meetsChord_10 : decode cX9_meetsChord 10 = .ok (.istore_n 1, 1) := dk_60 (bs_at BX9_meetsChord_0 6 rfl)
theorem dX9_meetsChord_11 : decode cX9_meetsChord 11 = .ok (.aload_n 0, 1) := dk_42 (bs_at BX9_meetsChord_0 7 rfl)
theorem dX9_meetsChord_12 : decode cX9_meetsChord 12 = .ok (.invokevirtual 81, 3) := dk_182 0 81 (bs_at BX9_meetsChord_0 8 rfl) rfl
theorem dX9_meetsChord_15 : decode cX9_meetsChord 15 = .ok (.iload_n 1, 1) := dk_27 (bs_at BX9_meetsChord_0 9 rfl)
theorem dX9_meetsChord_16 : decode cX9_meetsChord 16 = .ok (.iand, 1) := dk_126 (bs_at BX9_meetsChord_0 10 rfl)
theorem dX9_meetsChord_17 : decode cX9_meetsChord 17 = .ok (.iload_n 1, 1) := dk_27 (bs_at BX9_meetsChord_0 11 rfl)
theorem dX9_meetsChord_18 : decode cX9_meetsChord 18 = .ok (.if_icmp .ne 7, 3) := dk_160 0 7 (bs_at BX9_meetsChord_0 12 rfl) rfl
theorem dX9_meetsChord_21 : decode cX9_meetsChord 21 = .ok (.iconst 1, 1) := dk_4 (bs_at BX9_meetsChord_0 13 rfl)
theorem dX9_meetsChord_22 : decode cX9_meetsChord 22 = .ok (.goto 4, 3) := dk_167 0 4 (bs_at BX9_meetsChord_0 14 rfl) rfl
theorem dX9_meetsChord_25 : decode cX9_meetsChord 25 = .ok (.iconst 0, 1) := dk_3 (bs_at BX9_meetsChord_0 15 rfl)
theorem dX9_meetsChord_26 : decode cX9_meetsChord 26 = .ok (.ireturn, 1) := dk_172 (bs_at BX9_meetsChord_0 16 rfl)
theorem ggX9_put_X11_within : GoodIn wsX9_put wsX11_within := gi_ch ch_X9_put ch_X11_within (by decide +kernel)
set_option maxRecDepth 20000 in
theorem gX9_put_X11_within_n52 : GoodIn wsX9_put (wsX11_within) := ggX9_put_X11_within
theorem ggX9_dinerOf_X9_fact : GoodIn wsX9_dinerOf wsX9_fact := gi_ch ch_X9_dinerOf ch_X9_fact (by decide +kernel)
theorem gX9_dinerOf_X9_fact : GoodIn wsX9_dinerOf (wsV RX9 56 RX9 yX9_fact wsX9_fact) := gi_ch ch_X9_dinerOf (ch_v [380, 381, 2, 145] rfl ch_X9_fact) (by decide +kernel)
theorem ggX9_build_X9_put : GoodIn wsX9_build wsX9_put := gi_ch ch_X9_build ch_X9_put (by decide +kernel)
theorem gX9_build_X9_put : GoodIn wsX9_build (wsV RX9 60 RX9 yX9_put wsX9_put) := gi_ch ch_X9_build (ch_v [387, 388, 5, 145] rfl ch_X9_put) (by decide +kernel)
theorem ggX9_sings_X9_fact : GoodIn wsX9_sings wsX9_fact := gi_ch ch_X9_sings ch_X9_fact (by decide +kernel)
theorem gX9_sings_X9_fact : GoodIn wsX9_sings (wsV RX9 56 RX9 yX9_fact wsX9_fact) := gi_ch ch_X9_sings (ch_v [380, 381, 2, 145] rfl ch_X9_fact) (by decide +kernel)
theorem ggX9_sings_X9_loud : GoodIn wsX9_sings wsX9_loud := gi_ch ch_X9_sings ch_X9_loud (by decide +kernel)
theorem gX9_sings_X9_loud : GoodIn wsX9_sings (wsV RX9 68 RX9 yX9_loud wsX9_loud) := gi_ch ch_X9_sings (ch_v [401, 402, 9, 145] rfl ch_X9_loud) (by decide +kernel)
theorem ggX9_beside_X9_fact : GoodIn wsX9_beside wsX9_fact := gi_ch ch_X9_beside ch_X9_fact (by decide +kernel)
theorem gX9_beside_X9_fact : GoodIn wsX9_beside (wsV RX9 56 RX9 yX9_fact wsX9_fact) := gi_ch ch_X9_beside (ch_v [380, 381, 2, 145] rfl ch_X9_fact) (by decide +kernel)
theorem ggX9_singing_X9_sings : GoodIn wsX9_singing wsX9_sings := gi_ch ch_X9_singing ch_X9_sings (by decide +kernel)
theorem gX9_singing_X9_sings : GoodIn wsX9_singing (wsV RX9 78 RX9 yX9_sings wsX9_sings) := gi_ch ch_X9_singing (ch_v [614, 399, 8, 145] rfl ch_X9_sings) (by decide +kernel)
theorem ggX9_notesNow_X9_sings : GoodIn wsX9_notesNow wsX9_sings := gi_ch ch_X9_notesNow ch_X9_sings (by decide +kernel)
theorem gX9_notesNow_X9_sings : GoodIn wsX9_notesNow (wsV RX9 78 RX9 yX9_sings wsX9_sings) := gi_ch ch_X9_notesNow (ch_v [614, 399, 8, 145] rfl ch_X9_sings) (by decide +kernel)
theorem ggX9_notesNow_X9_fact : GoodIn wsX9_notesNow wsX9_fact := gi_ch ch_X9_notesNow ch_X9_fact (by decide +kernel)
theorem gX9_notesNow_X9_fact : GoodIn wsX9_notesNow (wsV RX9 56 RX9 yX9_fact wsX9_fact) := gi_ch ch_X9_notesNow (ch_v [380, 381, 2, 145] rfl ch_X9_fact) (by decide +kernel)
theorem ggX9_thirdsNow_X9_notesNow : GoodIn wsX9_thirdsNow wsX9_notesNow := gi_ch ch_X9_thirdsNow ch_X9_notesNow (by decide +kernel)
theorem gX9_thirdsNow_X9_notesNow : GoodIn wsX9_thirdsNow (wsV RX9 81 RX9 yX9_notesNow wsX9_notesNow) := gi_ch ch_X9_thirdsNow (ch_v [611, 612, 47, 145] rfl ch_X9_notesNow) (by decide +kernel)
theorem ggX9_meetsChord_X9_chordAt : GoodIn wsX9_meetsChord wsX9_chordAt := gi_ch ch_X9_meetsChord ch_X9_chordAt (by decide +kernel)
theorem gX9_meetsChord_X9_chordAt : GoodIn wsX9_meetsChord (wsV RX9 85 RX9 yX9_chordAt wsX9_chordAt) := gi_ch ch_X9_meetsChord (ch_v [610, 433, 17, 145] rfl ch_X9_chordAt) (by decide +kernel)
theorem ggX9_meetsChord_X9_notesNow : GoodIn wsX9_meetsChord wsX9_notesNow := gi_ch ch_X9_meetsChord ch_X9_notesNow (by decide +kernel)
theorem gX9_meetsChord_X9_notesNow : GoodIn wsX9_meetsChord (wsV RX9 81 RX9 yX9_notesNow wsX9_notesNow) := gi_ch ch_X9_meetsChord (ch_v [611, 612, 47, 145] rfl ch_X9_notesNow) (by decide +kernel)
noncomputable def Lt {α β : Type} (e : α) (f : α → β) : β := f e
theorem Lt_in {α β : Type} {x e : α} {f : α → β} (h : x = e) : Lt e f = f x := by rw [h]; rfl
noncomputable def Lt2 {α β γ : Type} (e : α × β) (f : α → β → γ) : γ := f e.1 e.2
theorem Lt2_in {α β γ : Type} {x : α} {y : β} {e : α × β} {f : α → β → γ} (h : (x, y) = e) : Lt2 e f = f x y := by rw [← h]; rfl
noncomputable def Oc {β : Type} (y : Option Nat) (a : β) (f : Nat → β) : β := match y with
  | none => a
  | some q => f q
theorem Oc_n {β : Type} {a : β} {f : Nat → β} : Oc none a f = a := rfl
theorem Oc_s {β : Type} {q : Nat} {a : β} {f : Nat → β} : Oc (some q) a f = f q := rfl
noncomputable def Lp {α : Type} (B : α → α) (z : α) (n : Nat) : α := match n with
  | 0 => z
  | n + 1 => B (Lp B z n)
theorem Lp_s {α : Type} {B : α → α} {z : α} {n : Nat} : Lp B z (n + 1) = B (Lp B z n) := rfl
set_option maxRecDepth 100000 in
noncomputable def E_w_within (v : Int32) (lo : Int32) (hi : Int32) : Int32 :=
  if v < lo then ((0 : Int32)) else (if hi < v then ((0 : Int32)) else ((1 : Int32)))
set_option maxHeartbeats 4000000 in
set_option maxRecDepth 100000 in
theorem w_within (l : Launch) (D : va_G) (K : Nat → ClassId) (V : Int) (LO : Int) (HI : Int) (v : Int32) (lo : Int32) (hi : Int32) (sz : Nat) (qv : v.toInt = V) (qlo : lo.toInt = LO) (qhi : hi.toInt = HI) : Met l yX11_within wsX11_within ({ frames := 0, cells := 0, slots := 0, locals := 0 }) (va_Pc [.int v, .int lo, .int hi] (Pre D K [] sz)) (vp_Si (fun r : Int32 => ((r = 1 ∧ LO ≤ V ∧ V ≤ HI) ∨ (r = 0 ∧ (V < LO ∨ HI < V))) ∧ (r = E_w_within v lo hi) ∧ True)) 0 0 (fun _ => False) := by
  refine Met.ofW (cc := cX11_within) (maxL := 3) (ret := (some .boolean)) (by decide +kernel) rfl ?_
  intro p e s m args below meth c s₁ B hml hv
  obtain ⟨rfl, hsz, hP, hK, hD0, hN⟩ := hv
  have hx := B.exec
  have hb := B.bytes
  have hr := B.returns
  have hts := atoms_spec (ws := wsX11_within) B.pre
  have hown : s.vm.findClass RX11 = some m.cls := findClass_of_methodNamed B.named
  have hlocks := B.notSynchronized
  subst hsz
  have hD := hD0
  replace hP : va_P D vwCl [] s.heap := hP
  have hl := lv_entry [.int v, .int lo, .int hi] (n := 3) (Nat.le_of_ble_eq_true rfl)
  rw [lg_entry_eq]
  generalize (lg_sl [.int v, .int lo, .int hi] ++ List.replicate (3 - (lg_sl [.int v, .int lo, .int hi]).length) Slot.unset).toArray = ls at hl ⊢
  have hl : lv_has ls 3 [(0, .int v), (1, .int lo), (2, .int hi)] := hl
  generalize hQ : MQ below _ _ s _ _ _ = Q
  have hE := E_w_within.eq_def v lo hi
  refine lv_iload_n hx hb dX11_within_0 rfl (lv_at hl 0 rfl) ?_
  refine lv_iload_n hx hb dX11_within_1 rfl (lv_at hl 1 rfl) ?_
  refine lv_icmp_lt (tgt := 14) hx hb dX11_within_2 (by decide +kernel) (fun c_65 => ?_) (fun c_65 => ?_)
  · have c_65i := i_lt (x := V) (y := LO) qv qlo c_65
    replace hE := hE.trans (if_pos c_65)
    refine lv_iconst (v := 0) hx hb dX11_within_14 (by decide +kernel) ?_
    rw [← hQ]
    exact W.zret (v := 0) hx hb hr (by decide +kernel) (fun t ht hW => ⟨_, rfl, ⟨(by first | exact Or.inr (⟨rfl, by first | omega | decide | (subst_vars; assumption)⟩)), hE.symm, trivial⟩, ht⟩) (fun q hq => by cases hq) dX11_within_15
  · have c_65i := i_nlt (x := V) (y := LO) qv qlo c_65
    replace hE := hE.trans (if_neg c_65)
    refine lv_iload_n hx hb dX11_within_5 rfl (lv_at hl 0 rfl) ?_
    refine lv_iload_n hx hb dX11_within_6 rfl (lv_at hl 2 rfl) ?_
    refine lv_icmp_gt (tgt := 14) hx hb dX11_within_7 (by decide +kernel) (fun c_66 => ?_) (fun c_66 => ?_)
    · have c_66i := i_lt (x := HI) (y := V) qhi qv c_66
      replace hE := hE.trans (if_pos c_66)
      refine lv_iconst (v := 0) hx hb dX11_within_14 (by decide +kernel) ?_
      rw [← hQ]
      exact W.zret (v := 0) hx hb hr (by decide +kernel) (fun t ht hW => ⟨_, rfl, ⟨(by first | exact Or.inr (⟨rfl, by first | omega | decide | (subst_vars; assumption)⟩)), hE.symm, trivial⟩, ht⟩) (fun q hq => by cases hq) dX11_within_15
    · have c_66i := i_nlt (x := HI) (y := V) qhi qv c_66
      replace hE := hE.trans (if_neg c_66)
      refine lv_iconst (v := 1) hx hb dX11_within_10 (by decide +kernel) ?_
      refine lv_goto (tgt := 15) hx hb dX11_within_11 (by decide +kernel) ?_
      rw [← hQ]
      exact W.zret (v := 1) hx hb hr (by decide +kernel) (fun t ht hW => ⟨_, rfl, ⟨(by first | exact Or.inl ⟨rfl, by first | omega | decide | (subst_vars; assumption), by first | omega | decide | (subst_vars; assumption)⟩), hE.symm, trivial⟩, ht⟩) (fun q hq => by cases hq) dX11_within_15
set_option maxRecDepth 100000 in
noncomputable def E_w_has (x : Int32) (n : Int32) : Int32 :=
  if x < 0 then ((0 : Int32)) else (if n ≤ x then ((0 : Int32)) else ((1 : Int32)))
set_option maxHeartbeats 4000000 in
set_option maxRecDepth 100000 in
theorem w_has (l : Launch) (D : va_G) (K : Nat → ClassId) (X : Int) (N : Int) (a0 : Nat) (x : Int32) (k_0 : Value) (k_1 : Value) (k_2 : Value) (k_3 : Value) (n : Int32) (k_5 : Value) (k_6 : Value) (k_7 : Value) (k_8 : Value) (k_9 : Value) (sz : Nat) (qx : x.toInt = X) (qn : n.toInt = N) : Met l yX9_has wsX9_has ({ frames := 0, cells := 0, slots := 0, locals := 0 }) (va_Pc [.ref a0, .int x] (Pre D K [(a0, .inr (9, [k_0, k_1, k_2, k_3, .int n, k_5, k_6, k_7, k_8, k_9]))] sz)) (vp_Si (fun r : Int32 => ((r = 1 ∧ 0 ≤ X ∧ X < N) ∨ (r = 0 ∧ (X < 0 ∨ N ≤ X))) ∧ (r = E_w_has x n) ∧ True)) 0 0 (fun _ => False) := by
  refine Met.ofW (cc := cX9_has) (maxL := 2) (ret := (some .boolean)) (by decide +kernel) rfl ?_
  intro p e s m args below meth c s₁ B hml hv
  obtain ⟨rfl, hsz, hP, hK, hD0, hN⟩ := hv
  have hx := B.exec
  have hb := B.bytes
  have hr := B.returns
  have hts := atoms_spec (ws := wsX9_has) B.pre
  have hown : s.vm.findClass RX9 = some m.cls := findClass_of_methodNamed B.named
  have hlocks := B.notSynchronized
  subst hsz
  have hD := hD0
  replace hP : va_P D vwCl [(a0, .inr (9, [k_0, k_1, k_2, k_3, .int n, k_5, k_6, k_7, k_8, k_9]))] s.heap := hP
  have hl := lv_entry [.ref a0, .int x] (n := 2) (Nat.le_of_ble_eq_true rfl)
  rw [lg_entry_eq]
  generalize (lg_sl [.ref a0, .int x] ++ List.replicate (2 - (lg_sl [.ref a0, .int x]).length) Slot.unset).toArray = ls at hl ⊢
  have hl : lv_has ls 2 [(0, .ref a0), (1, .int x)] := hl
  have hw9 : ∀ w ∈ wsX90, w ∈ wsX9_has := fun w h => (List.mem_cons_of_mem _ (List.mem_append_right _ h))
  generalize hQ : MQ below _ _ s _ _ _ = Q
  have hE := E_w_has.eq_def x n
  refine lv_iload_n hx hb dX9_has_0 rfl (lv_at hl 1 rfl) ?_
  refine lv_if_lt (tgt := 16) hx hb dX9_has_1 (by decide +kernel) (fun c_65 => ?_) (fun c_65 => ?_)
  · have c_65i := i_lt (x := X) (y := 0) qx rfl c_65
    replace hE := hE.trans (if_pos c_65)
    refine lv_iconst (v := 0) hx hb dX9_has_16 (by decide +kernel) ?_
    rw [← hQ]
    exact W.zret (v := 0) hx hb hr (by decide +kernel) (fun t ht hW => ⟨_, rfl, ⟨(by first | exact Or.inr (⟨rfl, by first | omega | decide | (subst_vars; assumption)⟩)), hE.symm, trivial⟩, ht⟩) (fun q hq => by cases hq) dX9_has_17
  · have c_65i := i_nlt (x := X) (y := 0) qx rfl c_65
    replace hE := hE.trans (if_neg c_65)
    refine lv_iload_n hx hb dX9_has_4 rfl (lv_at hl 1 rfl) ?_
    refine lv_aload_n hx hb dX9_has_5 rfl (lv_at hl 0 rfl) ?_
    refine va_get (ci := 9) (v := .int n) (C := RX9) (T := TX9) (N := 10) hx hb hts hw9 hown hK hP 0 rfl rfl 4 (by decide +kernel) (hts _ mm_X9_has_178) (fun _ h9 => h9) rfl dX9_has_6 ?_
    refine lv_icmp_ge (tgt := 16) hx hb dX9_has_9 (by decide +kernel) (fun c_66 => ?_) (fun c_66 => ?_)
    · have c_66i := i_le (x := N) (y := X) qn qx c_66
      replace hE := hE.trans (if_pos c_66)
      refine lv_iconst (v := 0) hx hb dX9_has_16 (by decide +kernel) ?_
      rw [← hQ]
      exact W.zret (v := 0) hx hb hr (by decide +kernel) (fun t ht hW => ⟨_, rfl, ⟨(by first | exact Or.inr (⟨rfl, by first | omega | decide | (subst_vars; assumption)⟩)), hE.symm, trivial⟩, ht⟩) (fun q hq => by cases hq) dX9_has_17
    · have c_66i := i_nle (x := N) (y := X) qn qx c_66
      replace hE := hE.trans (if_neg c_66)
      refine lv_iconst (v := 1) hx hb dX9_has_12 (by decide +kernel) ?_
      refine lv_goto (tgt := 17) hx hb dX9_has_13 (by decide +kernel) ?_
      rw [← hQ]
      exact W.zret (v := 1) hx hb hr (by decide +kernel) (fun t ht hW => ⟨_, rfl, ⟨(by first | exact Or.inl ⟨rfl, by first | omega | decide | (subst_vars; assumption), by first | omega | decide | (subst_vars; assumption)⟩), hE.symm, trivial⟩, ht⟩) (fun q hq => by cases hq) dX9_has_17
set_option maxRecDepth 100000 in
noncomputable def E_w_fact (x : Int32) (y : Int32) (f : Nat → Int32) : Int32 :=
  if x < 0 then (((-1) : Int32)) else (if 8 ≤ x then (((-1) : Int32)) else (if y < 0 then (((-1) : Int32)) else (if 7 ≤ y then (((-1) : Int32)) else (Lt (y * 8 : Int32) (fun x_94 => Lt (x_94 + x : Int32) (fun x_95 => Lt (f (x_95 : Int32).toNatClampNeg : Int32) (fun x_96 => (x_96 : Int32))))))))
set_option maxHeartbeats 4000000 in
set_option maxRecDepth 100000 in
theorem w_fact (l : Launch) (D : va_G) (K : Nat → ClassId) (a0 : Nat) (x : Int32) (y : Int32) (a1 : Nat) (k_1 : Value) (k_2 : Value) (k_3 : Value) (k_4 : Value) (k_5 : Value) (k_6 : Value) (k_7 : Value) (k_8 : Value) (k_9 : Value) (f : Nat → Int32) (sz : Nat) : Met l yX9_fact wsX9_fact ({ frames := 0, cells := 0, slots := 0, locals := 0 }) (va_Pc [.ref a0, .int x, .int y] (Pre D K [(a0, .inr (9, [.ref a1, k_1, k_2, k_3, k_4, k_5, k_6, k_7, k_8, k_9])), (a1, .inl (K 0, 56, .inl f))] sz)) (vp_Si (fun r : Int32 => (r = E_w_fact x y f) ∧ True)) 0 0 (fun _ => False) := by
  refine Met.ofW (cc := cX9_fact) (maxL := 4) (ret := (some .int)) (by decide +kernel) rfl ?_
  intro p e s m args below meth c s₁ B hml hv
  obtain ⟨rfl, hsz, hP, hK, hD0, hN⟩ := hv
  have hx := B.exec
  have hb := B.bytes
  have hr := B.returns
  have hts := atoms_spec (ws := wsX9_fact) B.pre
  have hown : s.vm.findClass RX9 = some m.cls := findClass_of_methodNamed B.named
  have hlocks := B.notSynchronized
  subst hsz
  have hD := hD0
  replace hP : va_P D vwCl [(a0, .inr (9, [.ref a1, k_1, k_2, k_3, k_4, k_5, k_6, k_7, k_8, k_9])), (a1, .inl (K 0, 56, .inl f))] s.heap := hP
  have hl := lv_entry [.ref a0, .int x, .int y] (n := 4) (Nat.le_of_ble_eq_true rfl)
  rw [lg_entry_eq]
  generalize (lg_sl [.ref a0, .int x, .int y] ++ List.replicate (4 - (lg_sl [.ref a0, .int x, .int y]).length) Slot.unset).toArray = ls at hl ⊢
  have hl : lv_has ls 4 [(0, .ref a0), (1, .int x), (2, .int y)] := hl
  have hw9 : ∀ w ∈ wsX90, w ∈ wsX9_fact := fun w h => (List.mem_cons_of_mem _ (List.mem_append_right _ h))
  generalize hQ : MQ below _ _ s _ _ _ = Q
  have hE := E_w_fact.eq_def x y f
  refine lv_iload_n hx hb dX9_fact_0 rfl (lv_at hl 1 rfl) ?_
  refine lv_if_lt (tgt := 24) hx hb dX9_fact_1 (by decide +kernel) (fun c_85 => ?_) (fun c_85 => ?_)
  · have c_85i := i_lt (x := x.toInt) (y := 0) rfl rfl c_85
    replace hE := hE.trans (if_pos c_85)
    refine lv_iconst (v := 0) hx hb dX9_fact_24 (by decide +kernel) ?_
    refine lv_istore_n (lv' := [(3, .int 0), (0, .ref a0), (1, .int x), (2, .int y)]) hx hb dX9_fact_25 rfl hl (by decide +kernel) rfl (fun ls hl => ?_)
    refine lv_iload_n hx hb dX9_fact_26 rfl (lv_at hl 0 rfl) ?_
    refine lv_if_eq (tgt := 44) hx hb dX9_fact_27 (by decide +kernel) (fun c_86 => ?_) (fun c_86 => absurd (by decide +kernel) c_86)
    refine lv_iconst (v := (-1)) hx hb dX9_fact_44 (by decide +kernel) ?_
    rw [← hQ]
    exact W.iret (v := (-1)) hx hb hr (fun t ht hW => ⟨_, rfl, ⟨hE.symm, trivial⟩, ht⟩) (fun q hq => by cases hq) dX9_fact_45
  · have c_85i := i_nlt (x := x.toInt) (y := 0) rfl rfl c_85
    replace hE := hE.trans (if_neg c_85)
    refine lv_iload_n hx hb dX9_fact_4 rfl (lv_at hl 1 rfl) ?_
    refine lv_bipush (v := 8) hx hb dX9_fact_5 (by decide +kernel) ?_
    refine lv_icmp_ge (tgt := 24) hx hb dX9_fact_7 (by decide +kernel) (fun c_87 => ?_) (fun c_87 => ?_)
    · have c_87i := i_le (x := 8) (y := x.toInt) rfl rfl c_87
      replace hE := hE.trans (if_pos c_87)
      refine lv_iconst (v := 0) hx hb dX9_fact_24 (by decide +kernel) ?_
      refine lv_istore_n (lv' := [(3, .int 0), (0, .ref a0), (1, .int x), (2, .int y)]) hx hb dX9_fact_25 rfl hl (by decide +kernel) rfl (fun ls hl => ?_)
      refine lv_iload_n hx hb dX9_fact_26 rfl (lv_at hl 0 rfl) ?_
      refine lv_if_eq (tgt := 44) hx hb dX9_fact_27 (by decide +kernel) (fun c_88 => ?_) (fun c_88 => absurd (by decide +kernel) c_88)
      refine lv_iconst (v := (-1)) hx hb dX9_fact_44 (by decide +kernel) ?_
      rw [← hQ]
      exact W.iret (v := (-1)) hx hb hr (fun t ht hW => ⟨_, rfl, ⟨hE.symm, trivial⟩, ht⟩) (fun q hq => by cases hq) dX9_fact_45
    · have c_87i := i_nle (x := 8) (y := x.toInt) rfl rfl c_87
      replace hE := hE.trans (if_neg c_87)
      refine lv_iload_n hx hb dX9_fact_10 rfl (lv_at hl 2 rfl) ?_
      refine lv_if_lt (tgt := 24) hx hb dX9_fact_11 (by decide +kernel) (fun c_89 => ?_) (fun c_89 => ?_)
      · have c_89i := i_lt (x := y.toInt) (y := 0) rfl rfl c_89
        replace hE := hE.trans (if_pos c_89)
        refine lv_iconst (v := 0) hx hb dX9_fact_24 (by decide +kernel) ?_
        refine lv_istore_n (lv' := [(3, .int 0), (0, .ref a0), (1, .int x), (2, .int y)]) hx hb dX9_fact_25 rfl hl (by decide +kernel) rfl (fun ls hl => ?_)
        refine lv_iload_n hx hb dX9_fact_26 rfl (lv_at hl 0 rfl) ?_
        refine lv_if_eq (tgt := 44) hx hb dX9_fact_27 (by decide +kernel) (fun c_90 => ?_) (fun c_90 => absurd (by decide +kernel) c_90)
        refine lv_iconst (v := (-1)) hx hb dX9_fact_44 (by decide +kernel) ?_
        rw [← hQ]
        exact W.iret (v := (-1)) hx hb hr (fun t ht hW => ⟨_, rfl, ⟨hE.symm, trivial⟩, ht⟩) (fun q hq => by cases hq) dX9_fact_45
      · have c_89i := i_nlt (x := y.toInt) (y := 0) rfl rfl c_89
        replace hE := hE.trans (if_neg c_89)
        refine lv_iload_n hx hb dX9_fact_14 rfl (lv_at hl 2 rfl) ?_
        refine lv_bipush (v := 7) hx hb dX9_fact_15 (by decide +kernel) ?_
        refine lv_icmp_ge (tgt := 24) hx hb dX9_fact_17 (by decide +kernel) (fun c_91 => ?_) (fun c_91 => ?_)
        · have c_91i := i_le (x := 7) (y := y.toInt) rfl rfl c_91
          replace hE := hE.trans (if_pos c_91)
          refine lv_iconst (v := 0) hx hb dX9_fact_24 (by decide +kernel) ?_
          refine lv_istore_n (lv' := [(3, .int 0), (0, .ref a0), (1, .int x), (2, .int y)]) hx hb dX9_fact_25 rfl hl (by decide +kernel) rfl (fun ls hl => ?_)
          refine lv_iload_n hx hb dX9_fact_26 rfl (lv_at hl 0 rfl) ?_
          refine lv_if_eq (tgt := 44) hx hb dX9_fact_27 (by decide +kernel) (fun c_92 => ?_) (fun c_92 => absurd (by decide +kernel) c_92)
          refine lv_iconst (v := (-1)) hx hb dX9_fact_44 (by decide +kernel) ?_
          rw [← hQ]
          exact W.iret (v := (-1)) hx hb hr (fun t ht hW => ⟨_, rfl, ⟨hE.symm, trivial⟩, ht⟩) (fun q hq => by cases hq) dX9_fact_45
        · have c_91i := i_nle (x := 7) (y := y.toInt) rfl rfl c_91
          replace hE := hE.trans (if_neg c_91)
          refine lv_iconst (v := 1) hx hb dX9_fact_20 (by decide +kernel) ?_
          refine lv_goto (tgt := 25) hx hb dX9_fact_21 (by decide +kernel) ?_
          refine lv_istore_n (lv' := [(3, .int 1), (0, .ref a0), (1, .int x), (2, .int y)]) hx hb dX9_fact_25 rfl hl (by decide +kernel) rfl (fun ls hl => ?_)
          refine lv_iload_n hx hb dX9_fact_26 rfl (lv_at hl 0 rfl) ?_
          refine lv_if_eq (tgt := 44) hx hb dX9_fact_27 (by decide +kernel) (fun c_93 => absurd c_93 (by decide +kernel)) (fun c_93 => ?_)
          refine lv_aload_n hx hb dX9_fact_30 rfl (lv_at hl 1 rfl) ?_
          refine va_get (ci := 9) (v := .ref a1) (C := RX9) (T := TX9) (N := 10) hx hb hts hw9 hown hK hP 0 rfl rfl 0 (by decide +kernel) (hts _ mm_X9_fact_174) (fun _ h9 => h9) rfl dX9_fact_31 ?_
          refine lv_iload_n hx hb dX9_fact_34 rfl (lv_at hl 3 rfl) ?_
          refine lv_bipush (v := 8) hx hb dX9_fact_35 (by decide +kernel) ?_
          refine lv_imul hx hb dX9_fact_37 ?_
          refine lv_topi (fun x_94 ex_94 => ?_)
          replace hE := hE.trans (Lt_in ex_94)
          have hx_94 : x_94.toInt = (y.toInt * 8) := by rw [ex_94]; exact i_mul rfl (show (8 : Int32).toInt = 8 from rfl) (by omega)
          refine lv_iload_n hx hb dX9_fact_38 rfl (lv_at hl 2 rfl) ?_
          refine lv_iadd hx hb dX9_fact_39 ?_
          refine lv_topi (fun x_95 ex_95 => ?_)
          replace hE := hE.trans (Lt_in ex_95)
          have hx_95 : x_95.toInt = ((y.toInt * 8) + x.toInt) := by rw [ex_95]; exact i_add hx_94 rfl (by omega)
          refine va_iald hx hb hK hP 1 0 rfl rfl (i_in hx_95 (by omega)) dX9_fact_40 ?_
          refine lv_topi (fun x_96 ex_96 => ?_)
          replace hE := hE.trans (Lt_in ex_96)
          refine lv_goto (tgt := 45) hx hb dX9_fact_41 (by decide +kernel) ?_
          rw [← hQ]
          exact W.iret (v := x_96) hx hb hr (fun t ht hW => ⟨_, rfl, ⟨hE.symm, trivial⟩, ht⟩) (fun q hq => by cases hq) dX9_fact_45
set_option maxRecDepth 100000 in
noncomputable def E_w_put_2 (x : Int32) (z : Int32) (f : Nat → Int32) : (Nat → Int32) :=
  Lt (E_w_within x 0 7) (fun r_93 => if r_93 = 1 then (Lt (E_w_within 2 0 6) (fun r_99 => if r_99 = 1 then (Lt (16 + x : Int32) (fun x_106 => Lt (upd f (x_106 : Int32).toNatClampNeg z : Nat → Int32) (fun f_107 => (f_107 : (Nat → Int32))))) else (((fun _ => 0) : Nat → Int32)))) else ((f : (Nat → Int32))))
set_option maxHeartbeats 4000000 in
set_option maxRecDepth 100000 in
theorem w_put_2 (l : Launch) (D : va_G) (K : Nat → ClassId) (a0 : Nat) (x : Int32) (z : Int32) (a1 : Nat) (k_1 : Value) (k_2 : Value) (k_3 : Value) (k_4 : Value) (k_5 : Value) (k_6 : Value) (k_7 : Value) (k_8 : Value) (k_9 : Value) (f : Nat → Int32) (gt : Nat → Int32) (sz : Nat) (zgt : FzC gt f) : Met l yX9_put wsX9_put ({ frames := 1, cells := 0, slots := 0, locals := 22 }) (va_Pc [.ref a0, .int x, .int 2, .int z] (Pre D K [(a0, .inr (9, [.ref a1, k_1, k_2, k_3, k_4, k_5, k_6, k_7, k_8, k_9])), (a1, .inl (K 0, 56, .inl f))] sz)) (va_Qv (S := Su) (fun (u : Su) => (FzC gt (u.2.1 0)) ∧ ((u.2.1 0) = E_w_put_2 x z f) ∧ True) (fun u t => Wd D (va_A [(a0, .inr (9, [.ref a1, k_1, k_2, k_3, k_4, k_5, k_6, k_7, k_8, k_9])), (a1, .inl (K 0, 56, .inl f))] sz) ((fun u => [(a0, .inr (9, [.ref a1, k_1, k_2, k_3, k_4, k_5, k_6, k_7, k_8, k_9])), (a1, .inl (K 0, 56, .inl (u.2.1 0)))]) u) t) (va_A [(a0, .inr (9, [.ref a1, k_1, k_2, k_3, k_4, k_5, k_6, k_7, k_8, k_9])), (a1, .inl (K 0, 56, .inl f))] sz)) 0 0 (va_A [(a0, .inr (9, [.ref a1, k_1, k_2, k_3, k_4, k_5, k_6, k_7, k_8, k_9])), (a1, .inl (K 0, 56, .inl f))] sz) := by
  refine Met.ofW (cc := cX9_put) (maxL := 4) (ret := none) (by decide +kernel) rfl ?_
  intro p e s m args below meth c s₁ B hml hv
  obtain ⟨rfl, hsz, hP, hK, hD0, hN⟩ := hv
  have hx := B.exec
  have hb := B.bytes
  have hr := B.returns
  have hts := atoms_spec (ws := wsX9_put) B.pre
  have hown : s.vm.findClass RX9 = some m.cls := findClass_of_methodNamed B.named
  have hlocks := B.notSynchronized
  subst hsz
  have hD := hD0.self (sz := s.heap.size)
  generalize hAe : va_A [(a0, .inr (9, [.ref a1, k_1, k_2, k_3, k_4, k_5, k_6, k_7, k_8, k_9])), (a1, .inl (K 0, 56, .inl f))] s.heap.size = A at hD ⊢
  have hA : ∀ q : Nat, s.heap.size ≤ q → A q := fun q h => by rw [← hAe]; exact Or.inr h
  clear hAe
  have hS : va_S A s.heap s.heap [] := va_S.rf
  replace hP : va_P D vwCl [(a0, .inr (9, [.ref a1, k_1, k_2, k_3, k_4, k_5, k_6, k_7, k_8, k_9])), (a1, .inl (K 0, 56, .inl f))] s.heap := hP
  have hl := lv_entry [.ref a0, .int x, .int 2, .int z] (n := 4) (Nat.le_of_ble_eq_true rfl)
  rw [lg_entry_eq]
  generalize (lg_sl [.ref a0, .int x, .int 2, .int z] ++ List.replicate (4 - (lg_sl [.ref a0, .int x, .int 2, .int z]).length) Slot.unset).toArray = ls at hl ⊢
  have hl : lv_has ls 4 [(0, .ref a0), (1, .int x), (2, .int 2), (3, .int z)] := hl
  have hw9 : ∀ w ∈ wsX90, w ∈ wsX9_put := fun w h => (List.mem_cons_of_mem _ (List.mem_append_right _ h))
  generalize hQ : MQ below _ _ s _ _ _ = Q
  have hE := E_w_put_2.eq_def x z f
  refine lv_iload_n hx hb dX9_put_0 rfl (lv_at hl 1 rfl) ?_
  refine lv_iconst (v := 0) hx hb dX9_put_1 (by decide +kernel) ?_
  refine lv_bipush (v := 7) hx hb dX9_put_2 (by decide +kernel) ?_
  refine pci (va_runSN (As := [.int x, .int 0, .int 7]) (rest := []) ⟨hx, hb, hml, hown, hts⟩ (w_within l D K x.toInt 0 7 x 0 7 s.heap.size rfl (show (0 : Int32).toInt = 0 from rfl) (show (7 : Int32).toInt = 7 from rfl)) ⟨va_cnB 3 hts gX9_put_X11_within_n52 rfl rfl rfl (nst_at hN 18 rfl) (hts _ mm_X9_put_144) (by decide +kernel) ⟨Nat.le_of_ble_eq_true rfl, Nat.le_of_ble_eq_true rfl⟩, (hts _ mm_X9_put_373), trivial⟩ (mkS hK hN (va_P.nil) (va_D.nil (A := fun _ => True))) rfl rfl hl.1 rfl (lv_room (Nat.le_of_ble_eq_true rfl)) dX9_put_4 ⟨Nat.le_of_ble_eq_true rfl, Nat.le_of_ble_eq_true rfl⟩) (fun r_93 hw => ?_)
  obtain ⟨hw, k_94, -⟩ := hw
  replace hE := hE.trans (Lt_in k_94)
  rcases hw with ⟨rfl, h_95, h_96⟩ | ⟨rfl, h_97⟩
  · replace hE := (hE).trans (if_pos rfl)
    refine lv_if_eq (tgt := 32) hx hb dX9_put_7 (by decide +kernel) (fun c_98 => absurd c_98 (by decide +kernel)) (fun c_98 => ?_)
    refine lv_iload_n hx hb dX9_put_10 rfl (lv_at hl 2 rfl) ?_
    refine lv_iconst (v := 0) hx hb dX9_put_11 (by decide +kernel) ?_
    refine lv_bipush (v := 6) hx hb dX9_put_12 (by decide +kernel) ?_
    refine pci (va_runSN (As := [.int 2, .int 0, .int 6]) (rest := []) ⟨hx, hb, hml, hown, hts⟩ (w_within l D K 2 0 6 2 0 6 s.heap.size (show (2 : Int32).toInt = 2 from rfl) (show (0 : Int32).toInt = 0 from rfl) (show (6 : Int32).toInt = 6 from rfl)) ⟨va_cnB 3 hts gX9_put_X11_within_n52 rfl rfl rfl (nst_at hN 18 rfl) (hts _ mm_X9_put_144) (by decide +kernel) ⟨Nat.le_of_ble_eq_true rfl, Nat.le_of_ble_eq_true rfl⟩, (hts _ mm_X9_put_373), trivial⟩ (mkS hK hN (va_P.nil) (va_D.nil (A := fun _ => True))) rfl rfl hl.1 rfl (lv_room (Nat.le_of_ble_eq_true rfl)) dX9_put_14 ⟨Nat.le_of_ble_eq_true rfl, Nat.le_of_ble_eq_true rfl⟩) (fun r_99 hw => ?_)
    obtain ⟨hw, k_100, -⟩ := hw
    replace hE := hE.trans (Lt_in k_100)
    rcases hw with ⟨rfl, h_101, h_102⟩ | ⟨rfl, h_103⟩
    · replace hE := (hE).trans (if_pos rfl)
      refine lv_if_eq (tgt := 32) hx hb dX9_put_17 (by decide +kernel) (fun c_104 => absurd c_104 (by decide +kernel)) (fun c_104 => ?_)
      refine lv_aload_n hx hb dX9_put_20 rfl (lv_at hl 0 rfl) ?_
      refine va_get (ci := 9) (v := .ref a1) (C := RX9) (T := TX9) (N := 10) hx hb hts hw9 hown hK hP 0 rfl rfl 0 (by decide +kernel) (hts _ mm_X9_put_174) (fun _ h9 => h9) rfl dX9_put_21 ?_
      refine lv_iload_n hx hb dX9_put_24 rfl (lv_at hl 2 rfl) ?_
      refine lv_bipush (v := 8) hx hb dX9_put_25 (by decide +kernel) ?_
      refine lv_imul hx hb dX9_put_27 ?_
      refine lv_topi (fun x_105 ex_105 => ?_)
      obtain rfl : x_105 = 16 := ex_105.trans (by first | rfl | decide)
      refine lv_iload_n hx hb dX9_put_28 rfl (lv_at hl 1 rfl) ?_
      refine lv_iadd hx hb dX9_put_29 ?_
      refine lv_topi (fun x_106 ex_106 => ?_)
      replace hE := hE.trans (Lt_in ex_106)
      have hx_106 : x_106.toInt = (16 + x.toInt) := by rw [ex_106]; exact i_add (show (16 : Int32).toInt = 16 from rfl) rfl (by omega)
      refine lv_iload_n hx hb dX9_put_30 rfl (lv_at hl 3 rfl) ?_
      refine va_iast hx hb hK hP hD hS 1 0 rfl rfl (i_in hx_106 (by omega)) dX9_put_31 (fun H locs hP0 hD0 hS0 => ?_)
      clear hP hD hS
      have hP := hP0
      have hD := hD0
      have hS := hS0
      clear hP0 hD0 hS0
      generalize hf_107 : (upd f (x_106 : Int32).toNatClampNeg z) = f_107 at hP hD
      replace hE := hE.trans (Lt_in hf_107.symm)
      have hf_107_0 : FzC gt f_107 := by rw [← hf_107]; exact FzC.put zgt hx_106 (by omega)
      replace hP : va_P D vwCl [(a0, .inr (9, [.ref a1, k_1, k_2, k_3, k_4, k_5, k_6, k_7, k_8, k_9])), (a1, .inl (K 0, 56, .inl f_107))] H := hP
      replace hD : va_D A [(a0, .inr (9, [.ref a1, k_1, k_2, k_3, k_4, k_5, k_6, k_7, k_8, k_9])), (a1, .inl (K 0, 56, .inl f_107))] := hD
      rw [← hQ]
      have hP9 := hP.sub (ws' := [(a0, .inr (9, [.ref a1, k_1, k_2, k_3, k_4, k_5, k_6, k_7, k_8, k_9])), (a1, .inl (K 0, 56, .inl f_107))]) [0, 1] rfl
      have hD9 := hD.sub (ws' := [(a0, .inr (9, [.ref a1, k_1, k_2, k_3, k_4, k_5, k_6, k_7, k_8, k_9])), (a1, .inl (K 0, 56, .inl f_107))]) [0, 1] (by decide +kernel) rfl
      exact W.vret hx hb hr (fun t ht hW => ⟨⟨((fun _ => 0, fun i => match i with | _ => f_107, fun _ => fun _ => 0, fun _ => 0, fun _ => 0, fun _ => fun _ => none) : Su), rfl, ⟨hf_107_0, hE.symm, trivial⟩, (⟨by rw [ht]; exact hP9, hD9⟩ : Wd D A _ t)⟩, hS.F ht⟩) hS.2.2 dX9_put_32
    · replace hE := (hE).trans (if_neg (by first | decide | (intro h9; have h8 := congrArg Int32.toInt h9; omega)))
      exfalso; omega
  · replace hE := (hE).trans (if_neg (by first | decide | (intro h9; have h8 := congrArg Int32.toInt h9; omega)))
    refine lv_if_eq (tgt := 32) hx hb dX9_put_7 (by decide +kernel) (fun c_108 => ?_) (fun c_108 => absurd (by decide +kernel) c_108)
    rw [← hQ]
    have hP9 := hP.sub (ws' := [(a0, .inr (9, [.ref a1, k_1, k_2, k_3, k_4, k_5, k_6, k_7, k_8, k_9])), (a1, .inl (K 0, 56, .inl f))]) [0, 1] rfl
    have hD9 := hD.sub (ws' := [(a0, .inr (9, [.ref a1, k_1, k_2, k_3, k_4, k_5, k_6, k_7, k_8, k_9])), (a1, .inl (K 0, 56, .inl f))]) [0, 1] (by decide +kernel) rfl
    exact W.vret hx hb hr (fun t ht hW => ⟨⟨((fun _ => 0, fun i => match i with | _ => f, fun _ => fun _ => 0, fun _ => 0, fun _ => 0, fun _ => fun _ => none) : Su), rfl, ⟨zgt, hE.symm, trivial⟩, (⟨by rw [ht]; exact hP9, hD9⟩ : Wd D A _ t)⟩, hS.F ht⟩) hS.2.2 dX9_put_32
set_option maxRecDepth 100000 in
noncomputable def E_w_put_5 (x : Int32) (z : Int32) (f : Nat → Int32) : (Nat → Int32) :=
  Lt (E_w_within x 0 7) (fun r_93 => if r_93 = 1 then (Lt (E_w_within 5 0 6) (fun r_99 => if r_99 = 1 then (Lt (40 + x : Int32) (fun x_106 => Lt (upd f (x_106 : Int32).toNatClampNeg z : Nat → Int32) (fun f_107 => (f_107 : (Nat → Int32))))) else (((fun _ => 0) : Nat → Int32)))) else ((f : (Nat → Int32))))
set_option maxHeartbeats 4000000 in
set_option maxRecDepth 100000 in
theorem w_put_5 (l : Launch) (D : va_G) (K : Nat → ClassId) (a0 : Nat) (x : Int32) (z : Int32) (a1 : Nat) (k_1 : Value) (k_2 : Value) (k_3 : Value) (k_4 : Value) (k_5 : Value) (k_6 : Value) (k_7 : Value) (k_8 : Value) (k_9 : Value) (f : Nat → Int32) (gt : Nat → Int32) (sz : Nat) (zgt : FzC gt f) : Met l yX9_put wsX9_put ({ frames := 1, cells := 0, slots := 0, locals := 22 }) (va_Pc [.ref a0, .int x, .int 5, .int z] (Pre D K [(a0, .inr (9, [.ref a1, k_1, k_2, k_3, k_4, k_5, k_6, k_7, k_8, k_9])), (a1, .inl (K 0, 56, .inl f))] sz)) (va_Qv (S := Su) (fun (u : Su) => (FzC gt (u.2.1 0)) ∧ ((u.2.1 0) = E_w_put_5 x z f) ∧ True) (fun u t => Wd D (va_A [(a0, .inr (9, [.ref a1, k_1, k_2, k_3, k_4, k_5, k_6, k_7, k_8, k_9])), (a1, .inl (K 0, 56, .inl f))] sz) ((fun u => [(a0, .inr (9, [.ref a1, k_1, k_2, k_3, k_4, k_5, k_6, k_7, k_8, k_9])), (a1, .inl (K 0, 56, .inl (u.2.1 0)))]) u) t) (va_A [(a0, .inr (9, [.ref a1, k_1, k_2, k_3, k_4, k_5, k_6, k_7, k_8, k_9])), (a1, .inl (K 0, 56, .inl f))] sz)) 0 0 (va_A [(a0, .inr (9, [.ref a1, k_1, k_2, k_3, k_4, k_5, k_6, k_7, k_8, k_9])), (a1, .inl (K 0, 56, .inl f))] sz) := by
  refine Met.ofW (cc := cX9_put) (maxL := 4) (ret := none) (by decide +kernel) rfl ?_
  intro p e s m args below meth c s₁ B hml hv
  obtain ⟨rfl, hsz, hP, hK, hD0, hN⟩ := hv
  have hx := B.exec
  have hb := B.bytes
  have hr := B.returns
  have hts := atoms_spec (ws := wsX9_put) B.pre
  have hown : s.vm.findClass RX9 = some m.cls := findClass_of_methodNamed B.named
  have hlocks := B.notSynchronized
  subst hsz
  have hD := hD0.self (sz := s.heap.size)
  generalize hAe : va_A [(a0, .inr (9, [.ref a1, k_1, k_2, k_3, k_4, k_5, k_6, k_7, k_8, k_9])), (a1, .inl (K 0, 56, .inl f))] s.heap.size = A at hD ⊢
  have hA : ∀ q : Nat, s.heap.size ≤ q → A q := fun q h => by rw [← hAe]; exact Or.inr h
  clear hAe
  have hS : va_S A s.heap s.heap [] := va_S.rf
  replace hP : va_P D vwCl [(a0, .inr (9, [.ref a1, k_1, k_2, k_3, k_4, k_5, k_6, k_7, k_8, k_9])), (a1, .inl (K 0, 56, .inl f))] s.heap := hP
  have hl := lv_entry [.ref a0, .int x, .int 5, .int z] (n := 4) (Nat.le_of_ble_eq_true rfl)
  rw [lg_entry_eq]
  generalize (lg_sl [.ref a0, .int x, .int 5, .int z] ++ List.replicate (4 - (lg_sl [.ref a0, .int x, .int 5, .int z]).length) Slot.unset).toArray = ls at hl ⊢
  have hl : lv_has ls 4 [(0, .ref a0), (1, .int x), (2, .int 5), (3, .int z)] := hl
  have hw9 : ∀ w ∈ wsX90, w ∈ wsX9_put := fun w h => (List.mem_cons_of_mem _ (List.mem_append_right _ h))
  generalize hQ : MQ below _ _ s _ _ _ = Q
  have hE := E_w_put_5.eq_def x z f
  refine lv_iload_n hx hb dX9_put_0 rfl (lv_at hl 1 rfl) ?_
  refine lv_iconst (v := 0) hx hb dX9_put_1 (by decide +kernel) ?_
  refine lv_bipush (v := 7) hx hb dX9_put_2 (by decide +kernel) ?_
  refine pci (va_runSN (As := [.int x, .int 0, .int 7]) (rest := []) ⟨hx, hb, hml, hown, hts⟩ (w_within l D K x.toInt 0 7 x 0 7 s.heap.size rfl (show (0 : Int32).toInt = 0 from rfl) (show (7 : Int32).toInt = 7 from rfl)) ⟨va_cnB 3 hts gX9_put_X11_within_n52 rfl rfl rfl (nst_at hN 18 rfl) (hts _ mm_X9_put_144) (by decide +kernel) ⟨Nat.le_of_ble_eq_true rfl, Nat.le_of_ble_eq_true rfl⟩, (hts _ mm_X9_put_373), trivial⟩ (mkS hK hN (va_P.nil) (va_D.nil (A := fun _ => True))) rfl rfl hl.1 rfl (lv_room (Nat.le_of_ble_eq_true rfl)) dX9_put_4 ⟨Nat.le_of_ble_eq_true rfl, Nat.le_of_ble_eq_true rfl⟩) (fun r_93 hw => ?_)
  obtain ⟨hw, k_94, -⟩ := hw
  replace hE := hE.trans (Lt_in k_94)
  rcases hw with ⟨rfl, h_95, h_96⟩ | ⟨rfl, h_97⟩
  · replace hE := (hE).trans (if_pos rfl)
    refine lv_if_eq (tgt := 32) hx hb dX9_put_7 (by decide +kernel) (fun c_98 => absurd c_98 (by decide +kernel)) (fun c_98 => ?_)
    refine lv_iload_n hx hb dX9_put_10 rfl (lv_at hl 2 rfl) ?_
    refine lv_iconst (v := 0) hx hb dX9_put_11 (by decide +kernel) ?_
    refine lv_bipush (v := 6) hx hb dX9_put_12 (by decide +kernel) ?_
    refine pci (va_runSN (As := [.int 5, .int 0, .int 6]) (rest := []) ⟨hx, hb, hml, hown, hts⟩ (w_within l D K 5 0 6 5 0 6 s.heap.size (show (5 : Int32).toInt = 5 from rfl) (show (0 : Int32).toInt = 0 from rfl) (show (6 : Int32).toInt = 6 from rfl)) ⟨va_cnB 3 hts gX9_put_X11_within_n52 rfl rfl rfl (nst_at hN 18 rfl) (hts _ mm_X9_put_144) (by decide +kernel) ⟨Nat.le_of_ble_eq_true rfl, Nat.le_of_ble_eq_true rfl⟩, (hts _ mm_X9_put_373), trivial⟩ (mkS hK hN (va_P.nil) (va_D.nil (A := fun _ => True))) rfl rfl hl.1 rfl (lv_room (Nat.le_of_ble_eq_true rfl)) dX9_put_14 ⟨Nat.le_of_ble_eq_true rfl, Nat.le_of_ble_eq_true rfl⟩) (fun r_99 hw => ?_)
    obtain ⟨hw, k_100, -⟩ := hw
    replace hE := hE.trans (Lt_in k_100)
    rcases hw with ⟨rfl, h_101, h_102⟩ | ⟨rfl, h_103⟩
    · replace hE := (hE).trans (if_pos rfl)
      refine lv_if_eq (tgt := 32) hx hb dX9_put_17 (by decide +kernel) (fun c_104 => absurd c_104 (by decide +kernel)) (fun c_104 => ?_)
      refine lv_aload_n hx hb dX9_put_20 rfl (lv_at hl 0 rfl) ?_
      refine va_get (ci := 9) (v := .ref a1) (C := RX9) (T := TX9) (N := 10) hx hb hts hw9 hown hK hP 0 rfl rfl 0 (by decide +kernel) (hts _ mm_X9_put_174) (fun _ h9 => h9) rfl dX9_put_21 ?_
      refine lv_iload_n hx hb dX9_put_24 rfl (lv_at hl 2 rfl) ?_
      refine lv_bipush (v := 8) hx hb dX9_put_25 (by decide +kernel) ?_
      refine lv_imul hx hb dX9_put_27 ?_
      refine lv_topi (fun x_105 ex_105 => ?_)
      obtain rfl : x_105 = 40 := ex_105.trans (by first | rfl | decide)
      refine lv_iload_n hx hb dX9_put_28 rfl (lv_at hl 1 rfl) ?_
      refine lv_iadd hx hb dX9_put_29 ?_
      refine lv_topi (fun x_106 ex_106 => ?_)
      replace hE := hE.trans (Lt_in ex_106)
      have hx_106 : x_106.toInt = (40 + x.toInt) := by rw [ex_106]; exact i_add (show (40 : Int32).toInt = 40 from rfl) rfl (by omega)
      refine lv_iload_n hx hb dX9_put_30 rfl (lv_at hl 3 rfl) ?_
      refine va_iast hx hb hK hP hD hS 1 0 rfl rfl (i_in hx_106 (by omega)) dX9_put_31 (fun H locs hP0 hD0 hS0 => ?_)
      clear hP hD hS
      have hP := hP0
      have hD := hD0
      have hS := hS0
      clear hP0 hD0 hS0
      generalize hf_107 : (upd f (x_106 : Int32).toNatClampNeg z) = f_107 at hP hD
      replace hE := hE.trans (Lt_in hf_107.symm)
      have hf_107_0 : FzC gt f_107 := by rw [← hf_107]; exact FzC.put zgt hx_106 (by omega)
      replace hP : va_P D vwCl [(a0, .inr (9, [.ref a1, k_1, k_2, k_3, k_4, k_5, k_6, k_7, k_8, k_9])), (a1, .inl (K 0, 56, .inl f_107))] H := hP
      replace hD : va_D A [(a0, .inr (9, [.ref a1, k_1, k_2, k_3, k_4, k_5, k_6, k_7, k_8, k_9])), (a1, .inl (K 0, 56, .inl f_107))] := hD
      rw [← hQ]
      have hP9 := hP.sub (ws' := [(a0, .inr (9, [.ref a1, k_1, k_2, k_3, k_4, k_5, k_6, k_7, k_8, k_9])), (a1, .inl (K 0, 56, .inl f_107))]) [0, 1] rfl
      have hD9 := hD.sub (ws' := [(a0, .inr (9, [.ref a1, k_1, k_2, k_3, k_4, k_5, k_6, k_7, k_8, k_9])), (a1, .inl (K 0, 56, .inl f_107))]) [0, 1] (by decide +kernel) rfl
      exact W.vret hx hb hr (fun t ht hW => ⟨⟨((fun _ => 0, fun i => match i with | _ => f_107, fun _ => fun _ => 0, fun _ => 0, fun _ => 0, fun _ => fun _ => none) : Su), rfl, ⟨hf_107_0, hE.symm, trivial⟩, (⟨by rw [ht]; exact hP9, hD9⟩ : Wd D A _ t)⟩, hS.F ht⟩) hS.2.2 dX9_put_32
    · replace hE := (hE).trans (if_neg (by first | decide | (intro h9; have h8 := congrArg Int32.toInt h9; omega)))
      exfalso; omega
  · replace hE := (hE).trans (if_neg (by first | decide | (intro h9; have h8 := congrArg Int32.toInt h9; omega)))
    refine lv_if_eq (tgt := 32) hx hb dX9_put_7 (by decide +kernel) (fun c_108 => ?_) (fun c_108 => absurd (by decide +kernel) c_108)
    rw [← hQ]
    have hP9 := hP.sub (ws' := [(a0, .inr (9, [.ref a1, k_1, k_2, k_3, k_4, k_5, k_6, k_7, k_8, k_9])), (a1, .inl (K 0, 56, .inl f))]) [0, 1] rfl
    have hD9 := hD.sub (ws' := [(a0, .inr (9, [.ref a1, k_1, k_2, k_3, k_4, k_5, k_6, k_7, k_8, k_9])), (a1, .inl (K 0, 56, .inl f))]) [0, 1] (by decide +kernel) rfl
    exact W.vret hx hb hr (fun t ht hW => ⟨⟨((fun _ => 0, fun i => match i with | _ => f, fun _ => fun _ => 0, fun _ => 0, fun _ => 0, fun _ => fun _ => none) : Su), rfl, ⟨zgt, hE.symm, trivial⟩, (⟨by rw [ht]; exact hP9, hD9⟩ : Wd D A _ t)⟩, hS.F ht⟩) hS.2.2 dX9_put_32
set_option maxRecDepth 100000 in
noncomputable def E_w_put_6 (x : Int32) (z : Int32) (f : Nat → Int32) : (Nat → Int32) :=
  Lt (E_w_within x 0 7) (fun r_93 => if r_93 = 1 then (Lt (E_w_within 6 0 6) (fun r_99 => if r_99 = 1 then (Lt (48 + x : Int32) (fun x_106 => Lt (upd f (x_106 : Int32).toNatClampNeg z : Nat → Int32) (fun f_107 => (f_107 : (Nat → Int32))))) else (((fun _ => 0) : Nat → Int32)))) else ((f : (Nat → Int32))))
set_option maxHeartbeats 4000000 in
set_option maxRecDepth 100000 in
theorem w_put_6 (l : Launch) (D : va_G) (K : Nat → ClassId) (a0 : Nat) (x : Int32) (z : Int32) (a1 : Nat) (k_1 : Value) (k_2 : Value) (k_3 : Value) (k_4 : Value) (k_5 : Value) (k_6 : Value) (k_7 : Value) (k_8 : Value) (k_9 : Value) (f : Nat → Int32) (gt : Nat → Int32) (sz : Nat) (zgt : FzC gt f) : Met l yX9_put wsX9_put ({ frames := 1, cells := 0, slots := 0, locals := 22 }) (va_Pc [.ref a0, .int x, .int 6, .int z] (Pre D K [(a0, .inr (9, [.ref a1, k_1, k_2, k_3, k_4, k_5, k_6, k_7, k_8, k_9])), (a1, .inl (K 0, 56, .inl f))] sz)) (va_Qv (S := Su) (fun (u : Su) => (FzC gt (u.2.1 0)) ∧ ((u.2.1 0) = E_w_put_6 x z f) ∧ True) (fun u t => Wd D (va_A [(a0, .inr (9, [.ref a1, k_1, k_2, k_3, k_4, k_5, k_6, k_7, k_8, k_9])), (a1, .inl (K 0, 56, .inl f))] sz) ((fun u => [(a0, .inr (9, [.ref a1, k_1, k_2, k_3, k_4, k_5, k_6, k_7, k_8, k_9])), (a1, .inl (K 0, 56, .inl (u.2.1 0)))]) u) t) (va_A [(a0, .inr (9, [.ref a1, k_1, k_2, k_3, k_4, k_5, k_6, k_7, k_8, k_9])), (a1, .inl (K 0, 56, .inl f))] sz)) 0 0 (va_A [(a0, .inr (9, [.ref a1, k_1, k_2, k_3, k_4, k_5, k_6, k_7, k_8, k_9])), (a1, .inl (K 0, 56, .inl f))] sz) := by
  refine Met.ofW (cc := cX9_put) (maxL := 4) (ret := none) (by decide +kernel) rfl ?_
  intro p e s m args below meth c s₁ B hml hv
  obtain ⟨rfl, hsz, hP, hK, hD0, hN⟩ := hv
  have hx := B.exec
  have hb := B.bytes
  have hr := B.returns
  have hts := atoms_spec (ws := wsX9_put) B.pre
  have hown : s.vm.findClass RX9 = some m.cls := findClass_of_methodNamed B.named
  have hlocks := B.notSynchronized
  subst hsz
  have hD := hD0.self (sz := s.heap.size)
  generalize hAe : va_A [(a0, .inr (9, [.ref a1, k_1, k_2, k_3, k_4, k_5, k_6, k_7, k_8, k_9])), (a1, .inl (K 0, 56, .inl f))] s.heap.size = A at hD ⊢
  have hA : ∀ q : Nat, s.heap.size ≤ q → A q := fun q h => by rw [← hAe]; exact Or.inr h
  clear hAe
  have hS : va_S A s.heap s.heap [] := va_S.rf
  replace hP : va_P D vwCl [(a0, .inr (9, [.ref a1, k_1, k_2, k_3, k_4, k_5, k_6, k_7, k_8, k_9])), (a1, .inl (K 0, 56, .inl f))] s.heap := hP
  have hl := lv_entry [.ref a0, .int x, .int 6, .int z] (n := 4) (Nat.le_of_ble_eq_true rfl)
  rw [lg_entry_eq]
  generalize (lg_sl [.ref a0, .int x, .int 6, .int z] ++ List.replicate (4 - (lg_sl [.ref a0, .int x, .int 6, .int z]).length) Slot.unset).toArray = ls at hl ⊢
  have hl : lv_has ls 4 [(0, .ref a0), (1, .int x), (2, .int 6), (3, .int z)] := hl
  have hw9 : ∀ w ∈ wsX90, w ∈ wsX9_put := fun w h => (List.mem_cons_of_mem _ (List.mem_append_right _ h))
  generalize hQ : MQ below _ _ s _ _ _ = Q
  have hE := E_w_put_6.eq_def x z f
  refine lv_iload_n hx hb dX9_put_0 rfl (lv_at hl 1 rfl) ?_
  refine lv_iconst (v := 0) hx hb dX9_put_1 (by decide +kernel) ?_
  refine lv_bipush (v := 7) hx hb dX9_put_2 (by decide +kernel) ?_
  refine pci (va_runSN (As := [.int x, .int 0, .int 7]) (rest := []) ⟨hx, hb, hml, hown, hts⟩ (w_within l D K x.toInt 0 7 x 0 7 s.heap.size rfl (show (0 : Int32).toInt = 0 from rfl) (show (7 : Int32).toInt = 7 from rfl)) ⟨va_cnB 3 hts gX9_put_X11_within_n52 rfl rfl rfl (nst_at hN 18 rfl) (hts _ mm_X9_put_144) (by decide +kernel) ⟨Nat.le_of_ble_eq_true rfl, Nat.le_of_ble_eq_true rfl⟩, (hts _ mm_X9_put_373), trivial⟩ (mkS hK hN (va_P.nil) (va_D.nil (A := fun _ => True))) rfl rfl hl.1 rfl (lv_room (Nat.le_of_ble_eq_true rfl)) dX9_put_4 ⟨Nat.le_of_ble_eq_true rfl, Nat.le_of_ble_eq_true rfl⟩) (fun r_93 hw => ?_)
  obtain ⟨hw, k_94, -⟩ := hw
  replace hE := hE.trans (Lt_in k_94)
  rcases hw with ⟨rfl, h_95, h_96⟩ | ⟨rfl, h_97⟩
  · replace hE := (hE).trans (if_pos rfl)
    refine lv_if_eq (tgt := 32) hx hb dX9_put_7 (by decide +kernel) (fun c_98 => absurd c_98 (by decide +kernel)) (fun c_98 => ?_)
    refine lv_iload_n hx hb dX9_put_10 rfl (lv_at hl 2 rfl) ?_
    refine lv_iconst (v := 0) hx hb dX9_put_11 (by decide +kernel) ?_
    refine lv_bipush (v := 6) hx hb dX9_put_12 (by decide +kernel) ?_
    refine pci (va_runSN (As := [.int 6, .int 0, .int 6]) (rest := []) ⟨hx, hb, hml, hown, hts⟩ (w_within l D K 6 0 6 6 0 6 s.heap.size (show (6 : Int32).toInt = 6 from rfl) (show (0 : Int32).toInt = 0 from rfl) (show (6 : Int32).toInt = 6 from rfl)) ⟨va_cnB 3 hts gX9_put_X11_within_n52 rfl rfl rfl (nst_at hN 18 rfl) (hts _ mm_X9_put_144) (by decide +kernel) ⟨Nat.le_of_ble_eq_true rfl, Nat.le_of_ble_eq_true rfl⟩, (hts _ mm_X9_put_373), trivial⟩ (mkS hK hN (va_P.nil) (va_D.nil (A := fun _ => True))) rfl rfl hl.1 rfl (lv_room (Nat.le_of_ble_eq_true rfl)) dX9_put_14 ⟨Nat.le_of_ble_eq_true rfl, Nat.le_of_ble_eq_true rfl⟩) (fun r_99 hw => ?_)
    obtain ⟨hw, k_100, -⟩ := hw
    replace hE := hE.trans (Lt_in k_100)
    rcases hw with ⟨rfl, h_101, h_102⟩ | ⟨rfl, h_103⟩
    · replace hE := (hE).trans (if_pos rfl)
      refine lv_if_eq (tgt := 32) hx hb dX9_put_17 (by decide +kernel) (fun c_104 => absurd c_104 (by decide +kernel)) (fun c_104 => ?_)
      refine lv_aload_n hx hb dX9_put_20 rfl (lv_at hl 0 rfl) ?_
      refine va_get (ci := 9) (v := .ref a1) (C := RX9) (T := TX9) (N := 10) hx hb hts hw9 hown hK hP 0 rfl rfl 0 (by decide +kernel) (hts _ mm_X9_put_174) (fun _ h9 => h9) rfl dX9_put_21 ?_
      refine lv_iload_n hx hb dX9_put_24 rfl (lv_at hl 2 rfl) ?_
      refine lv_bipush (v := 8) hx hb dX9_put_25 (by decide +kernel) ?_
      refine lv_imul hx hb dX9_put_27 ?_
      refine lv_topi (fun x_105 ex_105 => ?_)
      obtain rfl : x_105 = 48 := ex_105.trans (by first | rfl | decide)
      refine lv_iload_n hx hb dX9_put_28 rfl (lv_at hl 1 rfl) ?_
      refine lv_iadd hx hb dX9_put_29 ?_
      refine lv_topi (fun x_106 ex_106 => ?_)
      replace hE := hE.trans (Lt_in ex_106)
      have hx_106 : x_106.toInt = (48 + x.toInt) := by rw [ex_106]; exact i_add (show (48 : Int32).toInt = 48 from rfl) rfl (by omega)
      refine lv_iload_n hx hb dX9_put_30 rfl (lv_at hl 3 rfl) ?_
      refine va_iast hx hb hK hP hD hS 1 0 rfl rfl (i_in hx_106 (by omega)) dX9_put_31 (fun H locs hP0 hD0 hS0 => ?_)
      clear hP hD hS
      have hP := hP0
      have hD := hD0
      have hS := hS0
      clear hP0 hD0 hS0
      generalize hf_107 : (upd f (x_106 : Int32).toNatClampNeg z) = f_107 at hP hD
      replace hE := hE.trans (Lt_in hf_107.symm)
      have hf_107_0 : FzC gt f_107 := by rw [← hf_107]; exact FzC.put zgt hx_106 (by omega)
      replace hP : va_P D vwCl [(a0, .inr (9, [.ref a1, k_1, k_2, k_3, k_4, k_5, k_6, k_7, k_8, k_9])), (a1, .inl (K 0, 56, .inl f_107))] H := hP
      replace hD : va_D A [(a0, .inr (9, [.ref a1, k_1, k_2, k_3, k_4, k_5, k_6, k_7, k_8, k_9])), (a1, .inl (K 0, 56, .inl f_107))] := hD
      rw [← hQ]
      have hP9 := hP.sub (ws' := [(a0, .inr (9, [.ref a1, k_1, k_2, k_3, k_4, k_5, k_6, k_7, k_8, k_9])), (a1, .inl (K 0, 56, .inl f_107))]) [0, 1] rfl
      have hD9 := hD.sub (ws' := [(a0, .inr (9, [.ref a1, k_1, k_2, k_3, k_4, k_5, k_6, k_7, k_8, k_9])), (a1, .inl (K 0, 56, .inl f_107))]) [0, 1] (by decide +kernel) rfl
      exact W.vret hx hb hr (fun t ht hW => ⟨⟨((fun _ => 0, fun i => match i with | _ => f_107, fun _ => fun _ => 0, fun _ => 0, fun _ => 0, fun _ => fun _ => none) : Su), rfl, ⟨hf_107_0, hE.symm, trivial⟩, (⟨by rw [ht]; exact hP9, hD9⟩ : Wd D A _ t)⟩, hS.F ht⟩) hS.2.2 dX9_put_32
    · replace hE := (hE).trans (if_neg (by first | decide | (intro h9; have h8 := congrArg Int32.toInt h9; omega)))
      exfalso; omega
  · replace hE := (hE).trans (if_neg (by first | decide | (intro h9; have h8 := congrArg Int32.toInt h9; omega)))
    refine lv_if_eq (tgt := 32) hx hb dX9_put_7 (by decide +kernel) (fun c_108 => ?_) (fun c_108 => absurd (by decide +kernel) c_108)
    rw [← hQ]
    have hP9 := hP.sub (ws' := [(a0, .inr (9, [.ref a1, k_1, k_2, k_3, k_4, k_5, k_6, k_7, k_8, k_9])), (a1, .inl (K 0, 56, .inl f))]) [0, 1] rfl
    have hD9 := hD.sub (ws' := [(a0, .inr (9, [.ref a1, k_1, k_2, k_3, k_4, k_5, k_6, k_7, k_8, k_9])), (a1, .inl (K 0, 56, .inl f))]) [0, 1] (by decide +kernel) rfl
    exact W.vret hx hb hr (fun t ht hW => ⟨⟨((fun _ => 0, fun i => match i with | _ => f, fun _ => fun _ => 0, fun _ => 0, fun _ => 0, fun _ => fun _ => none) : Su), rfl, ⟨zgt, hE.symm, trivial⟩, (⟨by rw [ht]; exact hP9, hD9⟩ : Wd D A _ t)⟩, hS.F ht⟩) hS.2.2 dX9_put_32
set_option maxRecDepth 100000 in
noncomputable def E_w_put (x : Int32) (y : Int32) (z : Int32) (f : Nat → Int32) : (Nat → Int32) :=
  Lt (E_w_within x 0 7) (fun r_95 => if r_95 = 1 then (Lt (E_w_within y 0 6) (fun r_101 => if r_101 = 1 then (Lt (y * 8 : Int32) (fun x_107 => Lt (x_107 + x : Int32) (fun x_108 => Lt (upd f (x_108 : Int32).toNatClampNeg z : Nat → Int32) (fun f_109 => (f_109 : (Nat → Int32)))))) else ((f : (Nat → Int32))))) else ((f : (Nat → Int32))))
set_option maxHeartbeats 4000000 in
set_option maxRecDepth 100000 in
theorem w_put (l : Launch) (D : va_G) (K : Nat → ClassId) (a0 : Nat) (x : Int32) (y : Int32) (z : Int32) (a1 : Nat) (k_1 : Value) (k_2 : Value) (k_3 : Value) (k_4 : Value) (k_5 : Value) (k_6 : Value) (k_7 : Value) (k_8 : Value) (k_9 : Value) (f : Nat → Int32) (sz : Nat) : Met l yX9_put wsX9_put ({ frames := 1, cells := 0, slots := 0, locals := 22 }) (va_Pc [.ref a0, .int x, .int y, .int z] (Pre D K [(a0, .inr (9, [.ref a1, k_1, k_2, k_3, k_4, k_5, k_6, k_7, k_8, k_9])), (a1, .inl (K 0, 56, .inl f))] sz)) (va_Qv (S := Su) (fun (u : Su) => ((u.2.1 0) = E_w_put x y z f) ∧ True) (fun u t => Wd D (va_A [(a0, .inr (9, [.ref a1, k_1, k_2, k_3, k_4, k_5, k_6, k_7, k_8, k_9])), (a1, .inl (K 0, 56, .inl f))] sz) ((fun u => [(a0, .inr (9, [.ref a1, k_1, k_2, k_3, k_4, k_5, k_6, k_7, k_8, k_9])), (a1, .inl (K 0, 56, .inl (u.2.1 0)))]) u) t) (va_A [(a0, .inr (9, [.ref a1, k_1, k_2, k_3, k_4, k_5, k_6, k_7, k_8, k_9])), (a1, .inl (K 0, 56, .inl f))] sz)) 0 0 (va_A [(a0, .inr (9, [.ref a1, k_1, k_2, k_3, k_4, k_5, k_6, k_7, k_8, k_9])), (a1, .inl (K 0, 56, .inl f))] sz) := by
  refine Met.ofW (cc := cX9_put) (maxL := 4) (ret := none) (by decide +kernel) rfl ?_
  intro p e s m args below meth c s₁ B hml hv
  obtain ⟨rfl, hsz, hP, hK, hD0, hN⟩ := hv
  have hx := B.exec
  have hb := B.bytes
  have hr := B.returns
  have hts := atoms_spec (ws := wsX9_put) B.pre
  have hown : s.vm.findClass RX9 = some m.cls := findClass_of_methodNamed B.named
  have hlocks := B.notSynchronized
  subst hsz
  have hD := hD0.self (sz := s.heap.size)
  generalize hAe : va_A [(a0, .inr (9, [.ref a1, k_1, k_2, k_3, k_4, k_5, k_6, k_7, k_8, k_9])), (a1, .inl (K 0, 56, .inl f))] s.heap.size = A at hD ⊢
  have hA : ∀ q : Nat, s.heap.size ≤ q → A q := fun q h => by rw [← hAe]; exact Or.inr h
  clear hAe
  have hS : va_S A s.heap s.heap [] := va_S.rf
  replace hP : va_P D vwCl [(a0, .inr (9, [.ref a1, k_1, k_2, k_3, k_4, k_5, k_6, k_7, k_8, k_9])), (a1, .inl (K 0, 56, .inl f))] s.heap := hP
  have hl := lv_entry [.ref a0, .int x, .int y, .int z] (n := 4) (Nat.le_of_ble_eq_true rfl)
  rw [lg_entry_eq]
  generalize (lg_sl [.ref a0, .int x, .int y, .int z] ++ List.replicate (4 - (lg_sl [.ref a0, .int x, .int y, .int z]).length) Slot.unset).toArray = ls at hl ⊢
  have hl : lv_has ls 4 [(0, .ref a0), (1, .int x), (2, .int y), (3, .int z)] := hl
  have hw9 : ∀ w ∈ wsX90, w ∈ wsX9_put := fun w h => (List.mem_cons_of_mem _ (List.mem_append_right _ h))
  generalize hQ : MQ below _ _ s _ _ _ = Q
  have hE := E_w_put.eq_def x y z f
  refine lv_iload_n hx hb dX9_put_0 rfl (lv_at hl 1 rfl) ?_
  refine lv_iconst (v := 0) hx hb dX9_put_1 (by decide +kernel) ?_
  refine lv_bipush (v := 7) hx hb dX9_put_2 (by decide +kernel) ?_
  refine pci (va_runSN (As := [.int x, .int 0, .int 7]) (rest := []) ⟨hx, hb, hml, hown, hts⟩ (w_within l D K x.toInt 0 7 x 0 7 s.heap.size rfl (show (0 : Int32).toInt = 0 from rfl) (show (7 : Int32).toInt = 7 from rfl)) ⟨va_cnB 3 hts gX9_put_X11_within_n52 rfl rfl rfl (nst_at hN 18 rfl) (hts _ mm_X9_put_144) (by decide +kernel) ⟨Nat.le_of_ble_eq_true rfl, Nat.le_of_ble_eq_true rfl⟩, (hts _ mm_X9_put_373), trivial⟩ (mkS hK hN (va_P.nil) (va_D.nil (A := fun _ => True))) rfl rfl hl.1 rfl (lv_room (Nat.le_of_ble_eq_true rfl)) dX9_put_4 ⟨Nat.le_of_ble_eq_true rfl, Nat.le_of_ble_eq_true rfl⟩) (fun r_95 hw => ?_)
  obtain ⟨hw, k_96, -⟩ := hw
  replace hE := hE.trans (Lt_in k_96)
  rcases hw with ⟨rfl, h_97, h_98⟩ | ⟨rfl, h_99⟩
  · replace hE := (hE).trans (if_pos rfl)
    refine lv_if_eq (tgt := 32) hx hb dX9_put_7 (by decide +kernel) (fun c_100 => absurd c_100 (by decide +kernel)) (fun c_100 => ?_)
    refine lv_iload_n hx hb dX9_put_10 rfl (lv_at hl 2 rfl) ?_
    refine lv_iconst (v := 0) hx hb dX9_put_11 (by decide +kernel) ?_
    refine lv_bipush (v := 6) hx hb dX9_put_12 (by decide +kernel) ?_
    refine pci (va_runSN (As := [.int y, .int 0, .int 6]) (rest := []) ⟨hx, hb, hml, hown, hts⟩ (w_within l D K y.toInt 0 6 y 0 6 s.heap.size rfl (show (0 : Int32).toInt = 0 from rfl) (show (6 : Int32).toInt = 6 from rfl)) ⟨va_cnB 3 hts gX9_put_X11_within_n52 rfl rfl rfl (nst_at hN 18 rfl) (hts _ mm_X9_put_144) (by decide +kernel) ⟨Nat.le_of_ble_eq_true rfl, Nat.le_of_ble_eq_true rfl⟩, (hts _ mm_X9_put_373), trivial⟩ (mkS hK hN (va_P.nil) (va_D.nil (A := fun _ => True))) rfl rfl hl.1 rfl (lv_room (Nat.le_of_ble_eq_true rfl)) dX9_put_14 ⟨Nat.le_of_ble_eq_true rfl, Nat.le_of_ble_eq_true rfl⟩) (fun r_101 hw => ?_)
    obtain ⟨hw, k_102, -⟩ := hw
    replace hE := hE.trans (Lt_in k_102)
    rcases hw with ⟨rfl, h_103, h_104⟩ | ⟨rfl, h_105⟩
    · replace hE := (hE).trans (if_pos rfl)
      refine lv_if_eq (tgt := 32) hx hb dX9_put_17 (by decide +kernel) (fun c_106 => absurd c_106 (by decide +kernel)) (fun c_106 => ?_)
      refine lv_aload_n hx hb dX9_put_20 rfl (lv_at hl 0 rfl) ?_
      refine va_get (ci := 9) (v := .ref a1) (C := RX9) (T := TX9) (N := 10) hx hb hts hw9 hown hK hP 0 rfl rfl 0 (by decide +kernel) (hts _ mm_X9_put_174) (fun _ h9 => h9) rfl dX9_put_21 ?_
      refine lv_iload_n hx hb dX9_put_24 rfl (lv_at hl 2 rfl) ?_
      refine lv_bipush (v := 8) hx hb dX9_put_25 (by decide +kernel) ?_
      refine lv_imul hx hb dX9_put_27 ?_
      refine lv_topi (fun x_107 ex_107 => ?_)
      replace hE := hE.trans (Lt_in ex_107)
      have hx_107 : x_107.toInt = (y.toInt * 8) := by rw [ex_107]; exact i_mul rfl (show (8 : Int32).toInt = 8 from rfl) (by omega)
      refine lv_iload_n hx hb dX9_put_28 rfl (lv_at hl 1 rfl) ?_
      refine lv_iadd hx hb dX9_put_29 ?_
      refine lv_topi (fun x_108 ex_108 => ?_)
      replace hE := hE.trans (Lt_in ex_108)
      have hx_108 : x_108.toInt = ((y.toInt * 8) + x.toInt) := by rw [ex_108]; exact i_add hx_107 rfl (by omega)
      refine lv_iload_n hx hb dX9_put_30 rfl (lv_at hl 3 rfl) ?_
      refine va_iast hx hb hK hP hD hS 1 0 rfl rfl (i_in hx_108 (by omega)) dX9_put_31 (fun H locs hP0 hD0 hS0 => ?_)
      clear hP hD hS
      have hP := hP0
      have hD := hD0
      have hS := hS0
      clear hP0 hD0 hS0
      generalize hf_109 : (upd f (x_108 : Int32).toNatClampNeg z) = f_109 at hP hD
      replace hE := hE.trans (Lt_in hf_109.symm)
      replace hP : va_P D vwCl [(a0, .inr (9, [.ref a1, k_1, k_2, k_3, k_4, k_5, k_6, k_7, k_8, k_9])), (a1, .inl (K 0, 56, .inl f_109))] H := hP
      replace hD : va_D A [(a0, .inr (9, [.ref a1, k_1, k_2, k_3, k_4, k_5, k_6, k_7, k_8, k_9])), (a1, .inl (K 0, 56, .inl f_109))] := hD
      rw [← hQ]
      have hP9 := hP.sub (ws' := [(a0, .inr (9, [.ref a1, k_1, k_2, k_3, k_4, k_5, k_6, k_7, k_8, k_9])), (a1, .inl (K 0, 56, .inl f_109))]) [0, 1] rfl
      have hD9 := hD.sub (ws' := [(a0, .inr (9, [.ref a1, k_1, k_2, k_3, k_4, k_5, k_6, k_7, k_8, k_9])), (a1, .inl (K 0, 56, .inl f_109))]) [0, 1] (by decide +kernel) rfl
      exact W.vret hx hb hr (fun t ht hW => ⟨⟨((fun _ => 0, fun i => match i with | _ => f_109, fun _ => fun _ => 0, fun _ => 0, fun _ => 0, fun _ => fun _ => none) : Su), rfl, ⟨hE.symm, trivial⟩, (⟨by rw [ht]; exact hP9, hD9⟩ : Wd D A _ t)⟩, hS.F ht⟩) hS.2.2 dX9_put_32
    · replace hE := (hE).trans (if_neg (by first | decide | (intro h9; have h8 := congrArg Int32.toInt h9; omega)))
      refine lv_if_eq (tgt := 32) hx hb dX9_put_17 (by decide +kernel) (fun c_110 => ?_) (fun c_110 => absurd (by decide +kernel) c_110)
      rw [← hQ]
      have hP9 := hP.sub (ws' := [(a0, .inr (9, [.ref a1, k_1, k_2, k_3, k_4, k_5, k_6, k_7, k_8, k_9])), (a1, .inl (K 0, 56, .inl f))]) [0, 1] rfl
      have hD9 := hD.sub (ws' := [(a0, .inr (9, [.ref a1, k_1, k_2, k_3, k_4, k_5, k_6, k_7, k_8, k_9])), (a1, .inl (K 0, 56, .inl f))]) [0, 1] (by decide +kernel) rfl
      exact W.vret hx hb hr (fun t ht hW => ⟨⟨((fun _ => 0, fun i => match i with | _ => f, fun _ => fun _ => 0, fun _ => 0, fun _ => 0, fun _ => fun _ => none) : Su), rfl, ⟨hE.symm, trivial⟩, (⟨by rw [ht]; exact hP9, hD9⟩ : Wd D A _ t)⟩, hS.F ht⟩) hS.2.2 dX9_put_32
  · replace hE := (hE).trans (if_neg (by first | decide | (intro h9; have h8 := congrArg Int32.toInt h9; omega)))
    refine lv_if_eq (tgt := 32) hx hb dX9_put_7 (by decide +kernel) (fun c_111 => ?_) (fun c_111 => absurd (by decide +kernel) c_111)
    rw [← hQ]
    have hP9 := hP.sub (ws' := [(a0, .inr (9, [.ref a1, k_1, k_2, k_3, k_4, k_5, k_6, k_7, k_8, k_9])), (a1, .inl (K 0, 56, .inl f))]) [0, 1] rfl
    have hD9 := hD.sub (ws' := [(a0, .inr (9, [.ref a1, k_1, k_2, k_3, k_4, k_5, k_6, k_7, k_8, k_9])), (a1, .inl (K 0, 56, .inl f))]) [0, 1] (by decide +kernel) rfl
    exact W.vret hx hb hr (fun t ht hW => ⟨⟨((fun _ => 0, fun i => match i with | _ => f, fun _ => fun _ => 0, fun _ => 0, fun _ => 0, fun _ => fun _ => none) : Su), rfl, ⟨hE.symm, trivial⟩, (⟨by rw [ht]; exact hP9, hD9⟩ : Wd D A _ t)⟩, hS.F ht⟩) hS.2.2 dX9_put_32
set_option maxRecDepth 100000 in
noncomputable def E_w_dinerOf_l2 (x : Int32) (n : Int32) (f : Nat → Int32) (rec_177 : Int32 → (Int32)) (v_165 : Int32) : Int32 :=
  if n ≤ v_165 then (((-1) : Int32)) else (Lt (E_w_fact v_165 3 f) (fun r_180 => if r_180 = x then ((v_165 : Int32)) else (Lt (v_165 + Int32.ofInt 1 : Int32) (fun x_183 => rec_177 x_183))))
set_option maxRecDepth 100000 in
noncomputable def E_w_dinerOf (x : Int32) (n : Int32) (f : Nat → Int32) : Int32 :=
  Lp (α := Int32 → (Int32)) (E_w_dinerOf_l2 x n f) (fun _ => ((0) : Int32)) ((9 - (0 : Int32).toInt : Int).toNat + 1) 0
set_option maxHeartbeats 4000000 in
set_option maxRecDepth 100000 in
theorem w_dinerOf (l : Launch) (D : va_G) (K : Nat → ClassId) (a0 : Nat) (x : Int32) (a1 : Nat) (k_1 : Value) (k_2 : Value) (k_3 : Value) (n : Int32) (k_5 : Value) (k_6 : Value) (k_7 : Value) (k_8 : Value) (k_9 : Value) (f : Nat → Int32) (sz : Nat) (zn : 0 ≤ n.toInt ∧ n.toInt ≤ 8) : Met l yX9_dinerOf wsX9_dinerOf ({ frames := 1, cells := 0, slots := 0, locals := 23 }) (va_Pc [.ref a0, .int x] (Pre D K [(a0, .inr (9, [.ref a1, k_1, k_2, k_3, .int n, k_5, k_6, k_7, k_8, k_9])), (a1, .inl (K 0, 56, .inl f))] sz)) (vp_Si (fun r : Int32 => ((-1) ≤ r.toInt ∧ r.toInt ≤ 7) ∧ (r = E_w_dinerOf x n f) ∧ True)) 0 0 (fun _ => False) := by
  refine Met.ofW (cc := cX9_dinerOf) (maxL := 3) (ret := (some .int)) (by decide +kernel) rfl ?_
  intro p e s m args below meth c s₁ B hml hv
  obtain ⟨rfl, hsz, hP, hK, hD0, hN⟩ := hv
  have hx := B.exec
  have hb := B.bytes
  have hr := B.returns
  have hts := atoms_spec (ws := wsX9_dinerOf) B.pre
  have hown : s.vm.findClass RX9 = some m.cls := findClass_of_methodNamed B.named
  have hlocks := B.notSynchronized
  subst hsz
  have hD := hD0
  replace hP : va_P D vwCl [(a0, .inr (9, [.ref a1, k_1, k_2, k_3, .int n, k_5, k_6, k_7, k_8, k_9])), (a1, .inl (K 0, 56, .inl f))] s.heap := hP
  have hl := lv_entry [.ref a0, .int x] (n := 3) (Nat.le_of_ble_eq_true rfl)
  rw [lg_entry_eq]
  generalize (lg_sl [.ref a0, .int x] ++ List.replicate (3 - (lg_sl [.ref a0, .int x]).length) Slot.unset).toArray = ls at hl ⊢
  have hl : lv_has ls 3 [(0, .ref a0), (1, .int x)] := hl
  have hw9 : ∀ w ∈ wsX90, w ∈ wsX9_dinerOf := fun w h => (List.mem_cons_of_mem _ (List.mem_append_right _ h))
  generalize hQ : MQ below _ _ s _ _ _ = Q
  have hE := E_w_dinerOf.eq_def x n f
  refine lv_iconst (v := 0) hx hb dX9_dinerOf_0 (by decide +kernel) ?_
  refine lv_istore_n (lv' := [(2, .int 0), (0, .ref a0), (1, .int x)]) hx hb dX9_dinerOf_1 rfl hl (by decide +kernel) rfl (fun ls hl => ?_)
  have lp_177 : ∀ (nn_ : Nat) (v_165 : Int32) (hv_165 : 0 ≤ v_165.toInt ∧ v_165.toInt ≤ 8) (hn : (9 - v_165.toInt : Int).toNat < nn_) (hE : E_w_dinerOf x n f = Lp (α := Int32 → (Int32)) (E_w_dinerOf_l2 x n f) (fun _ => ((0) : Int32)) nn_ v_165) (ls : Array Slot) (hl : lv_has ls 3 [(2, .int v_165), (0, .ref a0), (1, .int x)]), W p l e ({ frames := 1, cells := 0, slots := 0, locals := 23 }) s m (([.ref a0, .int x] : List Value).toArray) below meth c s.heap [] 0 0 Q (F0 m 2 ls []) := by
    clear hE hl
    intro nn_
    induction nn_ with
    | zero =>
      intro v_165 hv_165 hn hE ls hl
      exact absurd hn (Nat.not_lt_zero _)
    | succ nn_ ih_178 =>
      intro v_165 hv_165 hn hE ls hl
      replace hE : E_w_dinerOf x n f = E_w_dinerOf_l2 x n f (Lp (α := Int32 → (Int32)) (E_w_dinerOf_l2 x n f) (fun _ => ((0) : Int32)) nn_) v_165 := hE
      obtain ⟨rec_177, hrec_177⟩ : ∃ z9, z9 = Lp (α := Int32 → (Int32)) (E_w_dinerOf_l2 x n f) (fun _ => ((0) : Int32)) nn_ := ⟨_, rfl⟩
      rw [← hrec_177] at hE
      replace hE := hE.trans (E_w_dinerOf_l2.eq_def _ _ _ _ _)
      refine lv_iload_n hx hb dX9_dinerOf_2 rfl (lv_at hl 0 rfl) ?_
      refine lv_aload_n hx hb dX9_dinerOf_3 rfl (lv_at hl 1 rfl) ?_
      refine va_get (ci := 9) (v := .int n) (C := RX9) (T := TX9) (N := 10) hx hb hts hw9 hown hK hP 0 rfl rfl 4 (by decide +kernel) (hts _ mm_X9_dinerOf_178) (fun _ h9 => h9) rfl dX9_dinerOf_4 ?_
      refine lv_icmp_ge (tgt := 28) hx hb dX9_dinerOf_7 (by decide +kernel) (fun c_179 => ?_) (fun c_179 => ?_)
      · have c_179i := i_le (x := n.toInt) (y := v_165.toInt) rfl rfl c_179
        replace hE := hE.trans (if_pos c_179)
        refine lv_iconst (v := (-1)) hx hb dX9_dinerOf_28 (by decide +kernel) ?_
        rw [← hQ]
        exact W.iret (v := (-1)) hx hb hr (fun t ht hW => ⟨_, rfl, ⟨(show (-1) ≤ ((-1) : Int32).toInt ∧ ((-1) : Int32).toInt ≤ 7 by decide), hE.symm, trivial⟩, ht⟩) (fun q hq => by cases hq) dX9_dinerOf_29
      · have c_179i := i_nle (x := n.toInt) (y := v_165.toInt) rfl rfl c_179
        replace hE := hE.trans (if_neg c_179)
        refine lv_aload_n hx hb dX9_dinerOf_10 rfl (lv_at hl 1 rfl) ?_
        refine lv_iload_n hx hb dX9_dinerOf_11 rfl (lv_at hl 0 rfl) ?_
        refine lv_iconst (v := 3) hx hb dX9_dinerOf_12 (by decide +kernel) ?_
        refine pci (va_runV (As := [.int v_165, .int 3]) (rest := []) ⟨hx, hb, hml, hown, hts⟩ (w_fact l D K a0 v_165 3 a1 k_1 k_2 k_3 (.int n) k_5 k_6 k_7 k_8 k_9 f s.heap.size) (cwV 2 hts gX9_dinerOf_X9_fact rfl rfl rfl (by decide +kernel) ⟨Nat.le_of_ble_eq_true rfl, Nat.le_of_ble_eq_true rfl⟩) (mkV hK hN (hP.sub [0, 1] rfl) (hD.sub [0, 1] (by decide +kernel) rfl) (ci := 9) (q0 := 0) rfl rfl) rfl rfl hl.1 rfl (lv_room (Nat.le_of_ble_eq_true rfl)) dX9_dinerOf_13 ⟨Nat.le_of_ble_eq_true rfl, Nat.le_of_ble_eq_true rfl⟩) (fun r_180 hw => ?_)
        obtain ⟨k_181, -⟩ := hw
        replace hE := hE.trans (Lt_in k_181)
        refine lv_iload_n hx hb dX9_dinerOf_16 rfl (lv_at hl 2 rfl) ?_
        refine lv_icmp_ne (tgt := 22) hx hb dX9_dinerOf_17 (by decide +kernel) (fun c_182 => ?_) (fun c_182 => ?_)
        · have c_182i := i_ne (x := r_180.toInt) (y := x.toInt) rfl rfl c_182
          replace hE := hE.trans (if_neg c_182)
          obtain ⟨x_183, ex_183⟩ : ∃ y : Int32, y = v_165 + Int32.ofInt 1 := ⟨_, rfl⟩
          replace hE := hE.trans (Lt_in ex_183)
          have hx_183 : x_183.toInt = (v_165.toInt + 1) := by rw [ex_183]; exact i_add rfl (show (Int32.ofInt 1).toInt = 1 from rfl) (by omega)
          refine lv_iinc (v := x_183) (lv' := [(2, .int x_183), (0, .ref a0), (1, .int x)]) hx hb dX9_dinerOf_22 hl (k := 0) rfl (by rw [ex_183]) (by decide +kernel) rfl (fun ls hl => ?_)
          refine lv_goto (tgt := 2) hx hb dX9_dinerOf_25 (by decide +kernel) ?_
          exact ih_178 x_183 (by rw [hx_183]; omega) (by omega) (hE.trans (by rw [hrec_177])) ls (lv_sub hl [0, 1, 2] rfl)
        · have c_182i := i_eq (x := r_180.toInt) (y := x.toInt) rfl rfl c_182
          replace hE := hE.trans (if_pos c_182)
          refine lv_iload_n hx hb dX9_dinerOf_20 rfl (lv_at hl 0 rfl) ?_
          rw [← hQ]
          exact W.iret (v := v_165) hx hb hr (fun t ht hW => ⟨_, rfl, ⟨(show (-1) ≤ v_165.toInt ∧ v_165.toInt ≤ 7 by omega), hE.symm, trivial⟩, ht⟩) (fun q hq => by cases hq) dX9_dinerOf_21
  exact lp_177 ((9 - (0 : Int32).toInt : Int).toNat + 1) 0 (by decide +kernel) (Nat.lt_succ_self _) hE ls (lv_sub hl [0, 1, 2] rfl)
set_option maxRecDepth 100000 in
noncomputable def E_w_build (x0 : Int32) (x1 : Int32) (x2 : Int32) (x3 : Int32) (x4 : Int32) (n : Int32) (f : Nat → Int32) : Int32 × Int32 × (Nat → Int32) :=
  Lt (E_w_put n 0 x0 f) (fun u_96_2_1_0 => Lt (E_w_put n 1 x1 u_96_2_1_0) (fun u_99_2_1_0 => Lt (E_w_put_2 n x2 u_99_2_1_0) (fun u_102_2_1_0 => Lt (E_w_put n 3 x3 u_102_2_1_0) (fun u_106_2_1_0 => Lt (E_w_put n 4 x4 u_106_2_1_0) (fun u_109_2_1_0 => Lt (n + 1 : Int32) (fun x_111 => ((n, x_111, u_109_2_1_0) : Int32 × Int32 × (Nat → Int32))))))))
set_option maxHeartbeats 4000000 in
set_option maxRecDepth 100000 in
theorem w_build (l : Launch) (D : va_G) (K : Nat → ClassId) (a0 : Nat) (x0 : Int32) (x1 : Int32) (x2 : Int32) (x3 : Int32) (x4 : Int32) (a1 : Nat) (k_1 : Value) (k_2 : Value) (k_3 : Value) (n : Int32) (k_5 : Value) (k_6 : Value) (k_7 : Value) (k_8 : Value) (k_9 : Value) (f : Nat → Int32) (sz : Nat) (zn : 0 ≤ n.toInt ∧ n.toInt ≤ 7) : Met l yX9_build wsX9_build ({ frames := 2, cells := 0, slots := 0, locals := 45 }) (va_Pc [.ref a0, .int x0, .int x1, .int x2, .int x3, .int x4] (Pre D K [(a0, .inr (9, [.ref a1, k_1, k_2, k_3, .int n, k_5, k_6, k_7, k_8, k_9])), (a1, .inl (K 0, 56, .inl f))] sz)) (va_Qi (S := Su) (fun (r : Int32) (u : Su) => (0 ≤ r.toInt ∧ r.toInt ≤ 7) ∧ (1 ≤ (u.2.2.2.1 0).toInt ∧ (u.2.2.2.1 0).toInt ≤ 8) ∧ ((r, (u.2.2.2.1 0), (u.2.1 0)) = E_w_build x0 x1 x2 x3 x4 n f) ∧ True) (fun u t => Wd D (va_A [(a0, .inr (9, [.ref a1, k_1, k_2, k_3, .int n, k_5, k_6, k_7, k_8, k_9])), (a1, .inl (K 0, 56, .inl f))] sz) ((fun u => [(a0, .inr (9, [.ref a1, k_1, k_2, k_3, .int (u.2.2.2.1 0), k_5, k_6, k_7, k_8, k_9])), (a1, .inl (K 0, 56, .inl (u.2.1 0)))]) u) t) (va_A [(a0, .inr (9, [.ref a1, k_1, k_2, k_3, .int n, k_5, k_6, k_7, k_8, k_9])), (a1, .inl (K 0, 56, .inl f))] sz)) 0 0 (va_A [(a0, .inr (9, [.ref a1, k_1, k_2, k_3, .int n, k_5, k_6, k_7, k_8, k_9])), (a1, .inl (K 0, 56, .inl f))] sz) := by
  refine Met.ofW (cc := cX9_build) (maxL := 7) (ret := (some .int)) (by decide +kernel) rfl ?_
  intro p e s m args below meth c s₁ B hml hv
  obtain ⟨rfl, hsz, hP, hK, hD0, hN⟩ := hv
  have hx := B.exec
  have hb := B.bytes
  have hr := B.returns
  have hts := atoms_spec (ws := wsX9_build) B.pre
  have hown : s.vm.findClass RX9 = some m.cls := findClass_of_methodNamed B.named
  have hlocks := B.notSynchronized
  subst hsz
  have hD := hD0.self (sz := s.heap.size)
  generalize hAe : va_A [(a0, .inr (9, [.ref a1, k_1, k_2, k_3, .int n, k_5, k_6, k_7, k_8, k_9])), (a1, .inl (K 0, 56, .inl f))] s.heap.size = A at hD ⊢
  have hA : ∀ q : Nat, s.heap.size ≤ q → A q := fun q h => by rw [← hAe]; exact Or.inr h
  clear hAe
  have hS : va_S A s.heap s.heap [] := va_S.rf
  replace hP : va_P D vwCl [(a0, .inr (9, [.ref a1, k_1, k_2, k_3, .int n, k_5, k_6, k_7, k_8, k_9])), (a1, .inl (K 0, 56, .inl f))] s.heap := hP
  have hl := lv_entry [.ref a0, .int x0, .int x1, .int x2, .int x3, .int x4] (n := 7) (Nat.le_of_ble_eq_true rfl)
  rw [lg_entry_eq]
  generalize (lg_sl [.ref a0, .int x0, .int x1, .int x2, .int x3, .int x4] ++ List.replicate (7 - (lg_sl [.ref a0, .int x0, .int x1, .int x2, .int x3, .int x4]).length) Slot.unset).toArray = ls at hl ⊢
  have hl : lv_has ls 7 [(0, .ref a0), (1, .int x0), (2, .int x1), (3, .int x2), (4, .int x3), (5, .int x4)] := hl
  have hw9 : ∀ w ∈ wsX90, w ∈ wsX9_build := fun w h => (List.mem_cons_of_mem _ (List.mem_append_right _ h))
  generalize hQ : MQ below _ _ s _ _ _ = Q
  have hE := E_w_build.eq_def x0 x1 x2 x3 x4 n f
  refine lv_aload_n hx hb dX9_build_0 rfl (lv_at hl 0 rfl) ?_
  refine va_get (ci := 9) (v := .int n) (C := RX9) (T := TX9) (N := 10) hx hb hts hw9 hown hK hP 0 rfl rfl 4 (by decide +kernel) (hts _ mm_X9_build_178) (fun _ h9 => h9) rfl dX9_build_1 ?_
  refine lv_istore (lv' := [(6, .int n), (0, .ref a0), (1, .int x0), (2, .int x1), (3, .int x2), (4, .int x3), (5, .int x4)]) hx hb dX9_build_4 hl (by decide +kernel) rfl (fun ls hl => ?_)
  refine lv_aload_n hx hb dX9_build_6 rfl (lv_at hl 1 rfl) ?_
  refine lv_iload hx hb dX9_build_7 (lv_at hl 0 rfl) ?_
  refine lv_iconst (v := 0) hx hb dX9_build_9 (by decide +kernel) ?_
  refine lv_iload_n hx hb dX9_build_10 rfl (lv_at hl 2 rfl) ?_
  refine kcv (S := Su) (wr := []) (va_runV (As := [.int n, .int 0, .int x0]) (rest := []) ⟨hx, hb, hml, hown, hts⟩ (w_put l D K a0 n 0 x0 a1 k_1 k_2 k_3 (.int n) k_5 k_6 k_7 k_8 k_9 f s.heap.size) (cwV 3 hts gX9_build_X9_put rfl rfl rfl (by decide +kernel) ⟨Nat.le_of_ble_eq_true rfl, Nat.le_of_ble_eq_true rfl⟩) (mkV hK hN (hP.sub [0, 1] rfl) (hD.sub [0, 1] (by decide +kernel) rfl) (ci := 9) (q0 := 0) rfl rfl) rfl rfl hl.1 rfl (lv_room (Nat.le_of_ble_eq_true rfl)) dX9_build_11 ⟨Nat.le_of_ble_eq_true rfl, Nat.le_of_ble_eq_true rfl⟩) hP hD hS hA [0, 1] [] rfl rfl (by decide +kernel) (by decide +kernel) (fun u_96 H locs hw hP0 hD0 hS0 => ?_)
  clear hP hD hS
  have hP := hP0
  have hD := hD0
  have hS := hS0
  clear hP0 hD0 hS0
  replace hP : va_P D vwCl [(a0, .inr (9, [.ref a1, k_1, k_2, k_3, .int n, k_5, k_6, k_7, k_8, k_9])), (a1, .inl (K 0, 56, .inl (u_96.2.1 0)))] H := hP
  replace hD : va_D A [(a0, .inr (9, [.ref a1, k_1, k_2, k_3, .int n, k_5, k_6, k_7, k_8, k_9])), (a1, .inl (K 0, 56, .inl (u_96.2.1 0)))] := hD
  obtain ⟨k_97, -⟩ := hw
  replace hE := hE.trans (Lt_in k_97)
  refine lv_aload_n hx hb dX9_build_14 rfl (lv_at hl 1 rfl) ?_
  refine lv_iload hx hb dX9_build_15 (lv_at hl 0 rfl) ?_
  refine lv_iconst (v := 1) hx hb dX9_build_17 (by decide +kernel) ?_
  refine lv_iload_n hx hb dX9_build_18 rfl (lv_at hl 3 rfl) ?_
  refine kcv (S := Su) (wr := []) (va_runV (As := [.int n, .int 1, .int x1]) (rest := []) ⟨hx, hb, hml, hown, hts⟩ (w_put l D K a0 n 1 x1 a1 k_1 k_2 k_3 (.int n) k_5 k_6 k_7 k_8 k_9 (u_96.2.1 0) H.size) (cwV 3 hts gX9_build_X9_put rfl rfl rfl (by decide +kernel) ⟨Nat.le_of_ble_eq_true rfl, Nat.le_of_ble_eq_true rfl⟩) (mkV hK hN (hP.sub [0, 1] rfl) (hD.sub [0, 1] (by decide +kernel) rfl) (ci := 9) (q0 := 0) rfl rfl) rfl rfl hl.1 rfl (lv_room (Nat.le_of_ble_eq_true rfl)) dX9_build_19 ⟨Nat.le_of_ble_eq_true rfl, Nat.le_of_ble_eq_true rfl⟩) hP hD hS hA [0, 1] [] rfl rfl (by decide +kernel) (by decide +kernel) (fun u_99 H locs hw hP0 hD0 hS0 => ?_)
  clear hP hD hS
  have hP := hP0
  have hD := hD0
  have hS := hS0
  clear hP0 hD0 hS0
  replace hP : va_P D vwCl [(a0, .inr (9, [.ref a1, k_1, k_2, k_3, .int n, k_5, k_6, k_7, k_8, k_9])), (a1, .inl (K 0, 56, .inl (u_99.2.1 0)))] H := hP
  replace hD : va_D A [(a0, .inr (9, [.ref a1, k_1, k_2, k_3, .int n, k_5, k_6, k_7, k_8, k_9])), (a1, .inl (K 0, 56, .inl (u_99.2.1 0)))] := hD
  obtain ⟨k_100, -⟩ := hw
  replace hE := hE.trans (Lt_in k_100)
  refine lv_aload_n hx hb dX9_build_22 rfl (lv_at hl 1 rfl) ?_
  refine lv_iload hx hb dX9_build_23 (lv_at hl 0 rfl) ?_
  refine lv_iconst (v := 2) hx hb dX9_build_25 (by decide +kernel) ?_
  refine lv_iload_n hx hb dX9_build_26 rfl (lv_at hl 4 rfl) ?_
  refine kcv (S := Su) (wr := []) (va_runV (As := [.int n, .int 2, .int x2]) (rest := []) ⟨hx, hb, hml, hown, hts⟩ (w_put_2 l D K a0 n x2 a1 k_1 k_2 k_3 (.int n) k_5 k_6 k_7 k_8 k_9 (u_99.2.1 0) (u_99.2.1 0) H.size FzC.rfl) (cwV 3 hts gX9_build_X9_put rfl rfl rfl (by decide +kernel) ⟨Nat.le_of_ble_eq_true rfl, Nat.le_of_ble_eq_true rfl⟩) (mkV hK hN (hP.sub [0, 1] rfl) (hD.sub [0, 1] (by decide +kernel) rfl) (ci := 9) (q0 := 0) rfl rfl) rfl rfl hl.1 rfl (lv_room (Nat.le_of_ble_eq_true rfl)) dX9_build_27 ⟨Nat.le_of_ble_eq_true rfl, Nat.le_of_ble_eq_true rfl⟩) hP hD hS hA [0, 1] [] rfl rfl (by decide +kernel) (by decide +kernel) (fun u_102 H locs hw hP0 hD0 hS0 => ?_)
  clear hP hD hS
  have hP := hP0
  have hD := hD0
  have hS := hS0
  clear hP0 hD0 hS0
  replace hP : va_P D vwCl [(a0, .inr (9, [.ref a1, k_1, k_2, k_3, .int n, k_5, k_6, k_7, k_8, k_9])), (a1, .inl (K 0, 56, .inl (u_102.2.1 0)))] H := hP
  replace hD : va_D A [(a0, .inr (9, [.ref a1, k_1, k_2, k_3, .int n, k_5, k_6, k_7, k_8, k_9])), (a1, .inl (K 0, 56, .inl (u_102.2.1 0)))] := hD
  obtain ⟨k_103, k_104, -⟩ := hw
  replace hE := hE.trans (Lt_in k_104)
  refine lv_aload_n hx hb dX9_build_30 rfl (lv_at hl 1 rfl) ?_
  refine lv_iload hx hb dX9_build_31 (lv_at hl 0 rfl) ?_
  refine lv_iconst (v := 3) hx hb dX9_build_33 (by decide +kernel) ?_
  refine lv_iload hx hb dX9_build_34 (lv_at hl 5 rfl) ?_
  refine kcv (S := Su) (wr := []) (va_runV (As := [.int n, .int 3, .int x3]) (rest := []) ⟨hx, hb, hml, hown, hts⟩ (w_put l D K a0 n 3 x3 a1 k_1 k_2 k_3 (.int n) k_5 k_6 k_7 k_8 k_9 (u_102.2.1 0) H.size) (cwV 3 hts gX9_build_X9_put rfl rfl rfl (by decide +kernel) ⟨Nat.le_of_ble_eq_true rfl, Nat.le_of_ble_eq_true rfl⟩) (mkV hK hN (hP.sub [0, 1] rfl) (hD.sub [0, 1] (by decide +kernel) rfl) (ci := 9) (q0 := 0) rfl rfl) rfl rfl hl.1 rfl (lv_room (Nat.le_of_ble_eq_true rfl)) dX9_build_36 ⟨Nat.le_of_ble_eq_true rfl, Nat.le_of_ble_eq_true rfl⟩) hP hD hS hA [0, 1] [] rfl rfl (by decide +kernel) (by decide +kernel) (fun u_106 H locs hw hP0 hD0 hS0 => ?_)
  clear hP hD hS
  have hP := hP0
  have hD := hD0
  have hS := hS0
  clear hP0 hD0 hS0
  replace hP : va_P D vwCl [(a0, .inr (9, [.ref a1, k_1, k_2, k_3, .int n, k_5, k_6, k_7, k_8, k_9])), (a1, .inl (K 0, 56, .inl (u_106.2.1 0)))] H := hP
  replace hD : va_D A [(a0, .inr (9, [.ref a1, k_1, k_2, k_3, .int n, k_5, k_6, k_7, k_8, k_9])), (a1, .inl (K 0, 56, .inl (u_106.2.1 0)))] := hD
  obtain ⟨k_107, -⟩ := hw
  replace hE := hE.trans (Lt_in k_107)
  refine lv_aload_n hx hb dX9_build_39 rfl (lv_at hl 1 rfl) ?_
  refine lv_iload hx hb dX9_build_40 (lv_at hl 0 rfl) ?_
  refine lv_iconst (v := 4) hx hb dX9_build_42 (by decide +kernel) ?_
  refine lv_iload hx hb dX9_build_43 (lv_at hl 6 rfl) ?_
  refine kcv (S := Su) (wr := []) (va_runV (As := [.int n, .int 4, .int x4]) (rest := []) ⟨hx, hb, hml, hown, hts⟩ (w_put l D K a0 n 4 x4 a1 k_1 k_2 k_3 (.int n) k_5 k_6 k_7 k_8 k_9 (u_106.2.1 0) H.size) (cwV 3 hts gX9_build_X9_put rfl rfl rfl (by decide +kernel) ⟨Nat.le_of_ble_eq_true rfl, Nat.le_of_ble_eq_true rfl⟩) (mkV hK hN (hP.sub [0, 1] rfl) (hD.sub [0, 1] (by decide +kernel) rfl) (ci := 9) (q0 := 0) rfl rfl) rfl rfl hl.1 rfl (lv_room (Nat.le_of_ble_eq_true rfl)) dX9_build_45 ⟨Nat.le_of_ble_eq_true rfl, Nat.le_of_ble_eq_true rfl⟩) hP hD hS hA [0, 1] [] rfl rfl (by decide +kernel) (by decide +kernel) (fun u_109 H locs hw hP0 hD0 hS0 => ?_)
  clear hP hD hS
  have hP := hP0
  have hD := hD0
  have hS := hS0
  clear hP0 hD0 hS0
  replace hP : va_P D vwCl [(a0, .inr (9, [.ref a1, k_1, k_2, k_3, .int n, k_5, k_6, k_7, k_8, k_9])), (a1, .inl (K 0, 56, .inl (u_109.2.1 0)))] H := hP
  replace hD : va_D A [(a0, .inr (9, [.ref a1, k_1, k_2, k_3, .int n, k_5, k_6, k_7, k_8, k_9])), (a1, .inl (K 0, 56, .inl (u_109.2.1 0)))] := hD
  obtain ⟨k_110, -⟩ := hw
  replace hE := hE.trans (Lt_in k_110)
  refine lv_aload_n hx hb dX9_build_48 rfl (lv_at hl 1 rfl) ?_
  refine lv_dup hx hb dX9_build_49 rfl ?_
  refine va_get (ci := 9) (v := .int n) (C := RX9) (T := TX9) (N := 10) hx hb hts hw9 hown hK hP 0 rfl rfl 4 (by decide +kernel) (hts _ mm_X9_build_178) (fun _ h9 => h9) rfl dX9_build_50 ?_
  refine lv_iconst (v := 1) hx hb dX9_build_53 (by decide +kernel) ?_
  refine lv_iadd hx hb dX9_build_54 ?_
  refine lv_topi (fun x_111 ex_111 => ?_)
  replace hE := hE.trans (Lt_in ex_111)
  have hx_111 : x_111.toInt = (n.toInt + 1) := by rw [ex_111]; exact i_add rfl (show (1 : Int32).toInt = 1 from rfl) (by omega)
  refine va_put (ci := 9) (v := .int x_111) (ty := .int) (C := RX9) (T := TX9) (N := 10) hx hb hts hw9 tyX9 tyX9_ok nmX9 hown hK hP hD hS 0 rfl rfl 4 (by decide +kernel) (hts _ mm_X9_build_178) (fun _ h9 => h9) rfl (by decide +kernel) (by first | rfl | decide) (by first | rfl | decide) (Nat.le_of_ble_eq_true rfl) dX9_build_55 (fun H locs hP0 hD0 hS0 => ?_)
  clear hP hD hS
  have hP := hP0
  have hD := hD0
  have hS := hS0
  clear hP0 hD0 hS0
  replace hP : va_P D vwCl [(a0, .inr (9, [.ref a1, k_1, k_2, k_3, .int x_111, k_5, k_6, k_7, k_8, k_9])), (a1, .inl (K 0, 56, .inl (u_109.2.1 0)))] H := hP
  replace hD : va_D A [(a0, .inr (9, [.ref a1, k_1, k_2, k_3, .int x_111, k_5, k_6, k_7, k_8, k_9])), (a1, .inl (K 0, 56, .inl (u_109.2.1 0)))] := hD
  refine lv_iload hx hb dX9_build_58 (lv_at hl 0 rfl) ?_
  rw [← hQ]
  have hP9 := hP.sub (ws' := [(a0, .inr (9, [.ref a1, k_1, k_2, k_3, .int x_111, k_5, k_6, k_7, k_8, k_9])), (a1, .inl (K 0, 56, .inl (u_109.2.1 0)))]) [0, 1] rfl
  have hD9 := hD.sub (ws' := [(a0, .inr (9, [.ref a1, k_1, k_2, k_3, .int x_111, k_5, k_6, k_7, k_8, k_9])), (a1, .inl (K 0, 56, .inl (u_109.2.1 0)))]) [0, 1] (by decide +kernel) rfl
  exact W.iret (v := n) hx hb hr (fun t ht hW => ⟨⟨n, ((fun _ => 0, fun i => match i with | _ => (u_109.2.1 0), fun _ => fun _ => 0, fun i => match i with | _ => x_111, fun _ => 0, fun _ => fun _ => none) : Su), rfl, ⟨(show 0 ≤ n.toInt ∧ n.toInt ≤ 7 by omega), (show 1 ≤ (x_111 : Int32).toInt ∧ (x_111 : Int32).toInt ≤ 8 by rw [hx_111]; omega), hE.symm, trivial⟩, (⟨by rw [ht]; exact hP9, hD9⟩ : Wd D A _ t)⟩, hS.F ht⟩) hS.2.2 dX9_build_60
set_option maxRecDepth 100000 in
noncomputable def E_w_loud_j24 : Int32 :=
  (0 : Int32)
set_option maxRecDepth 100000 in
noncomputable def E_w_loud (x : Int32) (ft : Nat → Int32) : Int32 :=
  Lt (ft (2 : Int32).toNatClampNeg : Int32) (fun x_77 => if x < x_77 then (E_w_loud_j24) else (Lt (ft (3 : Int32).toNatClampNeg : Int32) (fun x_83 => if x_83 < x then (E_w_loud_j24) else ((1 : Int32)))))
set_option maxHeartbeats 4000000 in
set_option maxRecDepth 100000 in
theorem w_loud (l : Launch) (D : va_G) (K : Nat → ClassId) (a0 : Nat) (x : Int32) (k_0 : Value) (k_1 : Value) (a2 : Nat) (k_3 : Value) (k_4 : Value) (k_5 : Value) (k_6 : Value) (k_7 : Value) (k_8 : Value) (k_9 : Value) (ft : Nat → Int32) (sz : Nat) : Met l yX9_loud wsX9_loud ({ frames := 0, cells := 0, slots := 0, locals := 0 }) (va_Pc [.ref a0, .int x] (Pre D K [(a0, .inr (9, [k_0, k_1, .ref a2, k_3, k_4, k_5, k_6, k_7, k_8, k_9])), (a2, .inl (K 0, 6, .inl ft))] sz)) (vp_Si (fun r : Int32 => (0 ≤ r.toInt ∧ r.toInt ≤ 1) ∧ (r = E_w_loud x ft) ∧ True)) 0 0 (fun _ => False) := by
  refine Met.ofW (cc := cX9_loud) (maxL := 2) (ret := (some .boolean)) (by decide +kernel) rfl ?_
  intro p e s m args below meth c s₁ B hml hv
  obtain ⟨rfl, hsz, hP, hK, hD0, hN⟩ := hv
  have hx := B.exec
  have hb := B.bytes
  have hr := B.returns
  have hts := atoms_spec (ws := wsX9_loud) B.pre
  have hown : s.vm.findClass RX9 = some m.cls := findClass_of_methodNamed B.named
  have hlocks := B.notSynchronized
  subst hsz
  have hD := hD0
  replace hP : va_P D vwCl [(a0, .inr (9, [k_0, k_1, .ref a2, k_3, k_4, k_5, k_6, k_7, k_8, k_9])), (a2, .inl (K 0, 6, .inl ft))] s.heap := hP
  have hl := lv_entry [.ref a0, .int x] (n := 2) (Nat.le_of_ble_eq_true rfl)
  rw [lg_entry_eq]
  generalize (lg_sl [.ref a0, .int x] ++ List.replicate (2 - (lg_sl [.ref a0, .int x]).length) Slot.unset).toArray = ls at hl ⊢
  have hl : lv_has ls 2 [(0, .ref a0), (1, .int x)] := hl
  have hw9 : ∀ w ∈ wsX90, w ∈ wsX9_loud := fun w h => (List.mem_cons_of_mem _ (List.mem_append_right _ h))
  generalize hQ : MQ below _ _ s _ _ _ = Q
  have hE := E_w_loud.eq_def x ft
  refine lv_iload_n hx hb dX9_loud_0 rfl (lv_at hl 1 rfl) ?_
  refine lv_aload_n hx hb dX9_loud_1 rfl (lv_at hl 0 rfl) ?_
  refine va_get (ci := 9) (v := .ref a2) (C := RX9) (T := TX9) (N := 10) hx hb hts hw9 hown hK hP 0 rfl rfl 2 (by decide +kernel) (hts _ mm_X9_loud_176) (fun _ h9 => h9) rfl dX9_loud_2 ?_
  refine lv_iconst (v := 2) hx hb dX9_loud_5 (by decide +kernel) ?_
  refine va_iald hx hb hK hP 1 0 rfl rfl (i_in (x := 2) rfl (by omega)) dX9_loud_6 ?_
  refine lv_topi (fun x_77 ex_77 => ?_)
  replace hE := hE.trans (Lt_in ex_77)
  have j_81 : ∀ (hE : E_w_loud x ft = E_w_loud_j24) (ls : Array Slot) (hl : lv_has ls 2 []), W p l e ({ frames := 0, cells := 0, slots := 0, locals := 0 }) s m (([.ref a0, .int x] : List Value).toArray) below meth c s.heap [] 0 0 Q (F0 m 24 ls []) := by
    clear hE hl
    intro hE ls hl
    replace hE := hE.trans (E_w_loud_j24.eq_def )
    refine lv_iconst (v := 0) hx hb dX9_loud_24 (by decide +kernel) ?_
    rw [← hQ]
    exact W.zret (v := 0) hx hb hr (by decide +kernel) (fun t ht hW => ⟨_, rfl, ⟨(show 0 ≤ (0 : Int32).toInt ∧ (0 : Int32).toInt ≤ 1 by decide), hE.symm, trivial⟩, ht⟩) (fun q hq => by cases hq) dX9_loud_25
  refine lv_icmp_lt (tgt := 24) hx hb dX9_loud_7 (by decide +kernel) (fun c_82 => ?_) (fun c_82 => ?_)
  · have c_82i := i_lt (x := x.toInt) (y := x_77.toInt) rfl rfl c_82
    replace hE := hE.trans (if_pos c_82)
    exact j_81   hE ls (lv_sub hl [] rfl)
  · have c_82i := i_nlt (x := x.toInt) (y := x_77.toInt) rfl rfl c_82
    replace hE := hE.trans (if_neg c_82)
    refine lv_iload_n hx hb dX9_loud_10 rfl (lv_at hl 1 rfl) ?_
    refine lv_aload_n hx hb dX9_loud_11 rfl (lv_at hl 0 rfl) ?_
    refine va_get (ci := 9) (v := .ref a2) (C := RX9) (T := TX9) (N := 10) hx hb hts hw9 hown hK hP 0 rfl rfl 2 (by decide +kernel) (hts _ mm_X9_loud_176) (fun _ h9 => h9) rfl dX9_loud_12 ?_
    refine lv_iconst (v := 3) hx hb dX9_loud_15 (by decide +kernel) ?_
    refine va_iald hx hb hK hP 1 0 rfl rfl (i_in (x := 3) rfl (by omega)) dX9_loud_16 ?_
    refine lv_topi (fun x_83 ex_83 => ?_)
    replace hE := hE.trans (Lt_in ex_83)
    refine lv_icmp_gt (tgt := 24) hx hb dX9_loud_17 (by decide +kernel) (fun c_84 => ?_) (fun c_84 => ?_)
    · have c_84i := i_lt (x := x_83.toInt) (y := x.toInt) rfl rfl c_84
      replace hE := hE.trans (if_pos c_84)
      exact j_81   hE ls (lv_sub hl [] rfl)
    · have c_84i := i_nlt (x := x_83.toInt) (y := x.toInt) rfl rfl c_84
      replace hE := hE.trans (if_neg c_84)
      refine lv_iconst (v := 1) hx hb dX9_loud_20 (by decide +kernel) ?_
      refine lv_goto (tgt := 25) hx hb dX9_loud_21 (by decide +kernel) ?_
      rw [← hQ]
      exact W.zret (v := 1) hx hb hr (by decide +kernel) (fun t ht hW => ⟨_, rfl, ⟨(show 0 ≤ (1 : Int32).toInt ∧ (1 : Int32).toInt ≤ 1 by decide), hE.symm, trivial⟩, ht⟩) (fun q hq => by cases hq) dX9_loud_25
set_option maxRecDepth 100000 in
noncomputable def E_w_sings (x : Int32) (f : Nat → Int32) (ft : Nat → Int32) : Int32 :=
  Lt (E_w_fact x 5 f) (fun r_71 => Lt (E_w_loud r_71 ft) (fun r_73 => (r_73 : Int32)))
set_option maxHeartbeats 4000000 in
set_option maxRecDepth 100000 in
theorem w_sings (l : Launch) (D : va_G) (K : Nat → ClassId) (a0 : Nat) (x : Int32) (a1 : Nat) (k_1 : Value) (a2 : Nat) (k_3 : Value) (k_4 : Value) (k_5 : Value) (k_6 : Value) (k_7 : Value) (k_8 : Value) (k_9 : Value) (f : Nat → Int32) (ft : Nat → Int32) (sz : Nat) : Met l yX9_sings wsX9_sings ({ frames := 1, cells := 0, slots := 0, locals := 23 }) (va_Pc [.ref a0, .int x] (Pre D K [(a0, .inr (9, [.ref a1, k_1, .ref a2, k_3, k_4, k_5, k_6, k_7, k_8, k_9])), (a1, .inl (K 0, 56, .inl f)), (a2, .inl (K 0, 6, .inl ft))] sz)) (vp_Si (fun r : Int32 => (0 ≤ r.toInt ∧ r.toInt ≤ 1) ∧ (r = E_w_sings x f ft) ∧ True)) 0 0 (fun _ => False) := by
  refine Met.ofW (cc := cX9_sings) (maxL := 2) (ret := (some .boolean)) (by decide +kernel) rfl ?_
  intro p e s m args below meth c s₁ B hml hv
  obtain ⟨rfl, hsz, hP, hK, hD0, hN⟩ := hv
  have hx := B.exec
  have hb := B.bytes
  have hr := B.returns
  have hts := atoms_spec (ws := wsX9_sings) B.pre
  have hown : s.vm.findClass RX9 = some m.cls := findClass_of_methodNamed B.named
  have hlocks := B.notSynchronized
  subst hsz
  have hD := hD0
  replace hP : va_P D vwCl [(a0, .inr (9, [.ref a1, k_1, .ref a2, k_3, k_4, k_5, k_6, k_7, k_8, k_9])), (a1, .inl (K 0, 56, .inl f)), (a2, .inl (K 0, 6, .inl ft))] s.heap := hP
  have hl := lv_entry [.ref a0, .int x] (n := 2) (Nat.le_of_ble_eq_true rfl)
  rw [lg_entry_eq]
  generalize (lg_sl [.ref a0, .int x] ++ List.replicate (2 - (lg_sl [.ref a0, .int x]).length) Slot.unset).toArray = ls at hl ⊢
  have hl : lv_has ls 2 [(0, .ref a0), (1, .int x)] := hl
  have hw9 : ∀ w ∈ wsX90, w ∈ wsX9_sings := fun w h => (List.mem_cons_of_mem _ (List.mem_append_right _ h))
  generalize hQ : MQ below _ _ s _ _ _ = Q
  have hE := E_w_sings.eq_def x f ft
  refine lv_aload_n hx hb dX9_sings_0 rfl (lv_at hl 0 rfl) ?_
  refine lv_aload_n hx hb dX9_sings_1 rfl (lv_at hl 0 rfl) ?_
  refine lv_iload_n hx hb dX9_sings_2 rfl (lv_at hl 1 rfl) ?_
  refine lv_iconst (v := 5) hx hb dX9_sings_3 (by decide +kernel) ?_
  refine pci (va_runV (As := [.int x, .int 5]) (rest := [.ref a0]) ⟨hx, hb, hml, hown, hts⟩ (w_fact l D K a0 x 5 a1 k_1 (.ref a2) k_3 k_4 k_5 k_6 k_7 k_8 k_9 f s.heap.size) (cwV 2 hts gX9_sings_X9_fact rfl rfl rfl (by decide +kernel) ⟨Nat.le_of_ble_eq_true rfl, Nat.le_of_ble_eq_true rfl⟩) (mkV hK hN (hP.sub [0, 1] rfl) (hD.sub [0, 1] (by decide +kernel) rfl) (ci := 9) (q0 := 0) rfl rfl) rfl rfl hl.1 rfl (lv_room (Nat.le_of_ble_eq_true rfl)) dX9_sings_4 ⟨Nat.le_of_ble_eq_true rfl, Nat.le_of_ble_eq_true rfl⟩) (fun r_71 hw => ?_)
  obtain ⟨k_72, -⟩ := hw
  replace hE := hE.trans (Lt_in k_72)
  refine pci (va_runV (As := [.int r_71]) (rest := []) ⟨hx, hb, hml, hown, hts⟩ (w_loud l D K a0 r_71 (.ref a1) k_1 a2 k_3 k_4 k_5 k_6 k_7 k_8 k_9 ft s.heap.size) (cwV 1 hts gX9_sings_X9_loud rfl rfl rfl (by decide +kernel) ⟨Nat.le_of_ble_eq_true rfl, Nat.le_of_ble_eq_true rfl⟩) (mkV hK hN (hP.sub [0, 2] rfl) (hD.sub [0, 2] (by decide +kernel) rfl) (ci := 9) (q0 := 0) rfl rfl) rfl rfl hl.1 rfl (lv_room (Nat.le_of_ble_eq_true rfl)) dX9_sings_7 ⟨Nat.le_of_ble_eq_true rfl, Nat.le_of_ble_eq_true rfl⟩) (fun r_73 hw => ?_)
  obtain ⟨h_75, k_74, -⟩ := hw
  replace hE := hE.trans (Lt_in k_74)
  rw [← hQ]
  exact W.zret (v := r_73) hx hb hr (zb rfl (by omega)) (fun t ht hW => ⟨_, rfl, ⟨(show 0 ≤ r_73.toInt ∧ r_73.toInt ≤ 1 by omega), hE.symm, trivial⟩, ht⟩) (fun q hq => by cases hq) dX9_sings_10
set_option maxRecDepth 100000 in
noncomputable def E_w_beside_j47 : Int32 :=
  (0 : Int32)
set_option maxRecDepth 100000 in
noncomputable def E_w_beside_j43 : Int32 :=
  (1 : Int32)
set_option maxRecDepth 100000 in
noncomputable def E_w_beside (x : Int32) (y : Int32) (f : Nat → Int32) : Int32 :=
  Lt (E_w_fact x 0 f) (fun r_107 => Lt (E_w_fact y 0 f) (fun r_109 => Lt (r_107 - r_109 : Int32) (fun x_111 => Lt (if 0 ≤ (x_111 : Int32) then (x_111 : Int32) else 0 - (x_111 : Int32) : Int32) (fun x_112 => Lt (E_w_fact x 1 f) (fun r_113 => Lt (E_w_fact y 1 f) (fun r_115 => if r_113 = r_115 then (if x_112 = 1 then (E_w_beside_j43) else (if x_112 = 6 then (E_w_beside_j43) else (E_w_beside_j47))) else (E_w_beside_j47)))))))
set_option maxHeartbeats 4000000 in
set_option maxRecDepth 100000 in
theorem w_beside (l : Launch) (D : va_G) (K : Nat → ClassId) (a0 : Nat) (x : Int32) (y : Int32) (a1 : Nat) (k_1 : Value) (k_2 : Value) (k_3 : Value) (k_4 : Value) (k_5 : Value) (k_6 : Value) (k_7 : Value) (k_8 : Value) (k_9 : Value) (f : Nat → Int32) (sz : Nat) : Met l yX9_beside wsX9_beside ({ frames := 1, cells := 0, slots := 0, locals := 23 }) (va_Pc [.ref a0, .int x, .int y] (Pre D K [(a0, .inr (9, [.ref a1, k_1, k_2, k_3, k_4, k_5, k_6, k_7, k_8, k_9])), (a1, .inl (K 0, 56, .inl f))] sz)) (vp_Si (fun r : Int32 => (0 ≤ r.toInt ∧ r.toInt ≤ 1) ∧ (r = E_w_beside x y f) ∧ True)) 0 0 (fun _ => False) := by
  refine Met.ofW (cc := cX9_beside) (maxL := 4) (ret := (some .boolean)) (by decide +kernel) rfl ?_
  intro p e s m args below meth c s₁ B hml hv
  obtain ⟨rfl, hsz, hP, hK, hD0, hN⟩ := hv
  have hx := B.exec
  have hb := B.bytes
  have hr := B.returns
  have hts := atoms_spec (ws := wsX9_beside) B.pre
  have hown : s.vm.findClass RX9 = some m.cls := findClass_of_methodNamed B.named
  have hlocks := B.notSynchronized
  subst hsz
  have hD := hD0
  replace hP : va_P D vwCl [(a0, .inr (9, [.ref a1, k_1, k_2, k_3, k_4, k_5, k_6, k_7, k_8, k_9])), (a1, .inl (K 0, 56, .inl f))] s.heap := hP
  have hl := lv_entry [.ref a0, .int x, .int y] (n := 4) (Nat.le_of_ble_eq_true rfl)
  rw [lg_entry_eq]
  generalize (lg_sl [.ref a0, .int x, .int y] ++ List.replicate (4 - (lg_sl [.ref a0, .int x, .int y]).length) Slot.unset).toArray = ls at hl ⊢
  have hl : lv_has ls 4 [(0, .ref a0), (1, .int x), (2, .int y)] := hl
  have hw9 : ∀ w ∈ wsX90, w ∈ wsX9_beside := fun w h => (List.mem_cons_of_mem _ (List.mem_append_right _ h))
  generalize hQ : MQ below _ _ s _ _ _ = Q
  have hE := E_w_beside.eq_def x y f
  refine lv_aload_n hx hb dX9_beside_0 rfl (lv_at hl 0 rfl) ?_
  refine lv_iload_n hx hb dX9_beside_1 rfl (lv_at hl 1 rfl) ?_
  refine lv_iconst (v := 0) hx hb dX9_beside_2 (by decide +kernel) ?_
  refine pci (va_runV (As := [.int x, .int 0]) (rest := []) ⟨hx, hb, hml, hown, hts⟩ (w_fact l D K a0 x 0 a1 k_1 k_2 k_3 k_4 k_5 k_6 k_7 k_8 k_9 f s.heap.size) (cwV 2 hts gX9_beside_X9_fact rfl rfl rfl (by decide +kernel) ⟨Nat.le_of_ble_eq_true rfl, Nat.le_of_ble_eq_true rfl⟩) (mkV hK hN (hP.sub [0, 1] rfl) (hD.sub [0, 1] (by decide +kernel) rfl) (ci := 9) (q0 := 0) rfl rfl) rfl rfl hl.1 rfl (lv_room (Nat.le_of_ble_eq_true rfl)) dX9_beside_3 ⟨Nat.le_of_ble_eq_true rfl, Nat.le_of_ble_eq_true rfl⟩) (fun r_107 hw => ?_)
  obtain ⟨k_108, -⟩ := hw
  replace hE := hE.trans (Lt_in k_108)
  refine lv_aload_n hx hb dX9_beside_6 rfl (lv_at hl 0 rfl) ?_
  refine lv_iload_n hx hb dX9_beside_7 rfl (lv_at hl 2 rfl) ?_
  refine lv_iconst (v := 0) hx hb dX9_beside_8 (by decide +kernel) ?_
  refine pci (va_runV (As := [.int y, .int 0]) (rest := [.int r_107]) ⟨hx, hb, hml, hown, hts⟩ (w_fact l D K a0 y 0 a1 k_1 k_2 k_3 k_4 k_5 k_6 k_7 k_8 k_9 f s.heap.size) (cwV 2 hts gX9_beside_X9_fact rfl rfl rfl (by decide +kernel) ⟨Nat.le_of_ble_eq_true rfl, Nat.le_of_ble_eq_true rfl⟩) (mkV hK hN (hP.sub [0, 1] rfl) (hD.sub [0, 1] (by decide +kernel) rfl) (ci := 9) (q0 := 0) rfl rfl) rfl rfl hl.1 rfl (lv_room (Nat.le_of_ble_eq_true rfl)) dX9_beside_9 ⟨Nat.le_of_ble_eq_true rfl, Nat.le_of_ble_eq_true rfl⟩) (fun r_109 hw => ?_)
  obtain ⟨k_110, -⟩ := hw
  replace hE := hE.trans (Lt_in k_110)
  refine lv_isub hx hb dX9_beside_12 ?_
  refine lv_topi (fun x_111 ex_111 => ?_)
  replace hE := hE.trans (Lt_in ex_111)
  refine va_mabs hx hb (hml.trans hl.1.symm) hown (hts _ mm_X9_beside_621) (hts _ mm_X9_beside_622) (hts _ mm_X9_beside_157) (hts _ mm_X9_beside_623) (Nat.le_of_ble_eq_true rfl) (Nat.le_of_ble_eq_true rfl) (Nat.le_of_ble_eq_true rfl) (Nat.le_of_ble_eq_true rfl) dX9_beside_13 ?_
  refine lv_topi (fun x_112 ex_112 => ?_)
  replace hE := hE.trans (Lt_in ex_112)
  refine lv_istore_n (lv' := [(3, .int x_112), (0, .ref a0), (1, .int x), (2, .int y)]) hx hb dX9_beside_16 rfl hl (by decide +kernel) rfl (fun ls hl => ?_)
  refine lv_aload_n hx hb dX9_beside_17 rfl (lv_at hl 1 rfl) ?_
  refine lv_iload_n hx hb dX9_beside_18 rfl (lv_at hl 2 rfl) ?_
  refine lv_iconst (v := 1) hx hb dX9_beside_19 (by decide +kernel) ?_
  refine pci (va_runV (As := [.int x, .int 1]) (rest := []) ⟨hx, hb, hml, hown, hts⟩ (w_fact l D K a0 x 1 a1 k_1 k_2 k_3 k_4 k_5 k_6 k_7 k_8 k_9 f s.heap.size) (cwV 2 hts gX9_beside_X9_fact rfl rfl rfl (by decide +kernel) ⟨Nat.le_of_ble_eq_true rfl, Nat.le_of_ble_eq_true rfl⟩) (mkV hK hN (hP.sub [0, 1] rfl) (hD.sub [0, 1] (by decide +kernel) rfl) (ci := 9) (q0 := 0) rfl rfl) rfl rfl hl.1 rfl (lv_room (Nat.le_of_ble_eq_true rfl)) dX9_beside_20 ⟨Nat.le_of_ble_eq_true rfl, Nat.le_of_ble_eq_true rfl⟩) (fun r_113 hw => ?_)
  obtain ⟨k_114, -⟩ := hw
  replace hE := hE.trans (Lt_in k_114)
  refine lv_aload_n hx hb dX9_beside_23 rfl (lv_at hl 1 rfl) ?_
  refine lv_iload_n hx hb dX9_beside_24 rfl (lv_at hl 3 rfl) ?_
  refine lv_iconst (v := 1) hx hb dX9_beside_25 (by decide +kernel) ?_
  refine pci (va_runV (As := [.int y, .int 1]) (rest := [.int r_113]) ⟨hx, hb, hml, hown, hts⟩ (w_fact l D K a0 y 1 a1 k_1 k_2 k_3 k_4 k_5 k_6 k_7 k_8 k_9 f s.heap.size) (cwV 2 hts gX9_beside_X9_fact rfl rfl rfl (by decide +kernel) ⟨Nat.le_of_ble_eq_true rfl, Nat.le_of_ble_eq_true rfl⟩) (mkV hK hN (hP.sub [0, 1] rfl) (hD.sub [0, 1] (by decide +kernel) rfl) (ci := 9) (q0 := 0) rfl rfl) rfl rfl hl.1 rfl (lv_room (Nat.le_of_ble_eq_true rfl)) dX9_beside_26 ⟨Nat.le_of_ble_eq_true rfl, Nat.le_of_ble_eq_true rfl⟩) (fun r_115 hw => ?_)
  obtain ⟨k_116, -⟩ := hw
  replace hE := hE.trans (Lt_in k_116)
  have j_123 : ∀ (hE : E_w_beside x y f = E_w_beside_j47) (ls : Array Slot) (hl : lv_has ls 4 []), W p l e ({ frames := 1, cells := 0, slots := 0, locals := 23 }) s m (([.ref a0, .int x, .int y] : List Value).toArray) below meth c s.heap [] 0 0 Q (F0 m 47 ls []) := by
    clear hE hl
    intro hE ls hl
    replace hE := hE.trans (E_w_beside_j47.eq_def )
    refine lv_iconst (v := 0) hx hb dX9_beside_47 (by decide +kernel) ?_
    rw [← hQ]
    exact W.zret (v := 0) hx hb hr (by decide +kernel) (fun t ht hW => ⟨_, rfl, ⟨(show 0 ≤ (0 : Int32).toInt ∧ (0 : Int32).toInt ≤ 1 by decide), hE.symm, trivial⟩, ht⟩) (fun q hq => by cases hq) dX9_beside_48
  refine lv_icmp_ne (tgt := 47) hx hb dX9_beside_29 (by decide +kernel) (fun c_124 => ?_) (fun c_124 => ?_)
  · have c_124i := i_ne (x := r_113.toInt) (y := r_115.toInt) rfl rfl c_124
    replace hE := hE.trans (if_neg c_124)
    exact j_123   hE ls (lv_sub hl [] rfl)
  · have c_124i := i_eq (x := r_113.toInt) (y := r_115.toInt) rfl rfl c_124
    replace hE := hE.trans (if_pos c_124)
    refine lv_iload_n hx hb dX9_beside_32 rfl (lv_at hl 0 rfl) ?_
    refine lv_iconst (v := 1) hx hb dX9_beside_33 (by decide +kernel) ?_
    have j_127 : ∀ (hE : E_w_beside x y f = E_w_beside_j43) (ls : Array Slot) (hl : lv_has ls 4 []), W p l e ({ frames := 1, cells := 0, slots := 0, locals := 23 }) s m (([.ref a0, .int x, .int y] : List Value).toArray) below meth c s.heap [] 0 0 Q (F0 m 43 ls []) := by
      clear hE hl
      intro hE ls hl
      replace hE := hE.trans (E_w_beside_j43.eq_def )
      refine lv_iconst (v := 1) hx hb dX9_beside_43 (by decide +kernel) ?_
      refine lv_goto (tgt := 48) hx hb dX9_beside_44 (by decide +kernel) ?_
      rw [← hQ]
      exact W.zret (v := 1) hx hb hr (by decide +kernel) (fun t ht hW => ⟨_, rfl, ⟨(show 0 ≤ (1 : Int32).toInt ∧ (1 : Int32).toInt ≤ 1 by decide), hE.symm, trivial⟩, ht⟩) (fun q hq => by cases hq) dX9_beside_48
    refine lv_icmp_eq (tgt := 43) hx hb dX9_beside_34 (by decide +kernel) (fun c_128 => ?_) (fun c_128 => ?_)
    · have c_128i := i_eq (x := x_112.toInt) (y := 1) rfl rfl c_128
      replace hE := hE.trans (if_pos c_128)
      exact j_127   hE ls (lv_sub hl [] rfl)
    · have c_128i := i_ne (x := x_112.toInt) (y := 1) rfl rfl c_128
      replace hE := hE.trans (if_neg c_128)
      refine lv_iload_n hx hb dX9_beside_37 rfl (lv_at hl 0 rfl) ?_
      refine lv_bipush (v := 6) hx hb dX9_beside_38 (by decide +kernel) ?_
      refine lv_icmp_ne (tgt := 47) hx hb dX9_beside_40 (by decide +kernel) (fun c_129 => ?_) (fun c_129 => ?_)
      · have c_129i := i_ne (x := x_112.toInt) (y := 6) rfl rfl c_129
        replace hE := hE.trans (if_neg c_129)
        exact j_123   hE ls (lv_sub hl [] rfl)
      · have c_129i := i_eq (x := x_112.toInt) (y := 6) rfl rfl c_129
        replace hE := hE.trans (if_pos c_129)
        exact j_127   hE ls (lv_sub hl [] rfl)
set_option maxRecDepth 100000 in
noncomputable def E_w_singing_l4 (n : Int32) (f : Nat → Int32) (ft : Nat → Int32) (rec_302 : Int32 → Int32 → (Int32)) (v_280 : Int32) (v_281 : Int32) : Int32 :=
  if n ≤ v_280 then ((v_281 : Int32)) else (Lt (E_w_sings v_280 f ft) (fun r_305 => if r_305 = 0 then (Lt (v_281 + 0 : Int32) (fun x_309 => Lt (v_280 + Int32.ofInt 1 : Int32) (fun x_310 => rec_302 x_310 x_309))) else (Lt (v_281 + 1 : Int32) (fun x_311 => Lt (v_280 + Int32.ofInt 1 : Int32) (fun x_312 => rec_302 x_312 x_311)))))
set_option maxRecDepth 100000 in
noncomputable def E_w_singing (n : Int32) (f : Nat → Int32) (ft : Nat → Int32) : Int32 :=
  Lp (α := Int32 → Int32 → (Int32)) (E_w_singing_l4 n f ft) (fun _ _ => ((0) : Int32)) ((9 - (0 : Int32).toInt : Int).toNat + 1) 0 0
set_option maxHeartbeats 4000000 in
set_option maxRecDepth 100000 in
theorem w_singing (l : Launch) (D : va_G) (K : Nat → ClassId) (a0 : Nat) (a1 : Nat) (k_1 : Value) (a2 : Nat) (k_3 : Value) (n : Int32) (k_5 : Value) (k_6 : Value) (k_7 : Value) (k_8 : Value) (k_9 : Value) (f : Nat → Int32) (ft : Nat → Int32) (sz : Nat) (zn : 0 ≤ n.toInt ∧ n.toInt ≤ 8) : Met l yX9_singing wsX9_singing ({ frames := 2, cells := 0, slots := 0, locals := 44 }) (va_Pc [.ref a0] (Pre D K [(a0, .inr (9, [.ref a1, k_1, .ref a2, k_3, .int n, k_5, k_6, k_7, k_8, k_9])), (a1, .inl (K 0, 56, .inl f)), (a2, .inl (K 0, 6, .inl ft))] sz)) (vp_Si (fun r : Int32 => (r = E_w_singing n f ft) ∧ True)) 0 0 (fun _ => False) := by
  refine Met.ofW (cc := cX9_singing) (maxL := 3) (ret := (some .int)) (by decide +kernel) rfl ?_
  intro p e s m args below meth c s₁ B hml hv
  obtain ⟨rfl, hsz, hP, hK, hD0, hN⟩ := hv
  have hx := B.exec
  have hb := B.bytes
  have hr := B.returns
  have hts := atoms_spec (ws := wsX9_singing) B.pre
  have hown : s.vm.findClass RX9 = some m.cls := findClass_of_methodNamed B.named
  have hlocks := B.notSynchronized
  subst hsz
  have hD := hD0
  replace hP : va_P D vwCl [(a0, .inr (9, [.ref a1, k_1, .ref a2, k_3, .int n, k_5, k_6, k_7, k_8, k_9])), (a1, .inl (K 0, 56, .inl f)), (a2, .inl (K 0, 6, .inl ft))] s.heap := hP
  have hl := lv_entry [.ref a0] (n := 3) (Nat.le_of_ble_eq_true rfl)
  rw [lg_entry_eq]
  generalize (lg_sl [.ref a0] ++ List.replicate (3 - (lg_sl [.ref a0]).length) Slot.unset).toArray = ls at hl ⊢
  have hl : lv_has ls 3 [(0, .ref a0)] := hl
  have hw9 : ∀ w ∈ wsX90, w ∈ wsX9_singing := fun w h => (List.mem_cons_of_mem _ (List.mem_append_right _ h))
  generalize hQ : MQ below _ _ s _ _ _ = Q
  have hE := E_w_singing.eq_def n f ft
  refine lv_iconst (v := 0) hx hb dX9_singing_0 (by decide +kernel) ?_
  refine lv_istore_n (lv' := [(1, .int 0), (0, .ref a0)]) hx hb dX9_singing_1 rfl hl (by decide +kernel) rfl (fun ls hl => ?_)
  refine lv_iconst (v := 0) hx hb dX9_singing_2 (by decide +kernel) ?_
  refine lv_istore_n (lv' := [(2, .int 0), (1, .int 0), (0, .ref a0)]) hx hb dX9_singing_3 rfl hl (by decide +kernel) rfl (fun ls hl => ?_)
  have lp_302 : ∀ (nn_ : Nat) (v_280 : Int32) (v_281 : Int32) (hv_280 : 0 ≤ v_280.toInt ∧ v_280.toInt ≤ 8) (hn : (9 - v_280.toInt : Int).toNat < nn_) (hE : E_w_singing n f ft = Lp (α := Int32 → Int32 → (Int32)) (E_w_singing_l4 n f ft) (fun _ _ => ((0) : Int32)) nn_ v_280 v_281) (ls : Array Slot) (hl : lv_has ls 3 [(2, .int v_280), (1, .int v_281), (0, .ref a0)]), W p l e ({ frames := 2, cells := 0, slots := 0, locals := 44 }) s m (([.ref a0] : List Value).toArray) below meth c s.heap [] 0 0 Q (F0 m 4 ls []) := by
    clear hE hl
    intro nn_
    induction nn_ with
    | zero =>
      intro v_280 v_281 hv_280 hn hE ls hl
      exact absurd hn (Nat.not_lt_zero _)
    | succ nn_ ih_303 =>
      intro v_280 v_281 hv_280 hn hE ls hl
      replace hE : E_w_singing n f ft = E_w_singing_l4 n f ft (Lp (α := Int32 → Int32 → (Int32)) (E_w_singing_l4 n f ft) (fun _ _ => ((0) : Int32)) nn_) v_280 v_281 := hE
      obtain ⟨rec_302, hrec_302⟩ : ∃ z9, z9 = Lp (α := Int32 → Int32 → (Int32)) (E_w_singing_l4 n f ft) (fun _ _ => ((0) : Int32)) nn_ := ⟨_, rfl⟩
      rw [← hrec_302] at hE
      replace hE := hE.trans (E_w_singing_l4.eq_def _ _ _ _ _ _)
      refine lv_iload_n hx hb dX9_singing_4 rfl (lv_at hl 0 rfl) ?_
      refine lv_aload_n hx hb dX9_singing_5 rfl (lv_at hl 2 rfl) ?_
      refine va_get (ci := 9) (v := .int n) (C := RX9) (T := TX9) (N := 10) hx hb hts hw9 hown hK hP 0 rfl rfl 4 (by decide +kernel) (hts _ mm_X9_singing_178) (fun _ h9 => h9) rfl dX9_singing_6 ?_
      refine lv_icmp_ge (tgt := 34) hx hb dX9_singing_9 (by decide +kernel) (fun c_304 => ?_) (fun c_304 => ?_)
      · have c_304i := i_le (x := n.toInt) (y := v_280.toInt) rfl rfl c_304
        replace hE := hE.trans (if_pos c_304)
        refine lv_iload_n hx hb dX9_singing_34 rfl (lv_at hl 1 rfl) ?_
        rw [← hQ]
        exact W.iret (v := v_281) hx hb hr (fun t ht hW => ⟨_, rfl, ⟨hE.symm, trivial⟩, ht⟩) (fun q hq => by cases hq) dX9_singing_35
      · have c_304i := i_nle (x := n.toInt) (y := v_280.toInt) rfl rfl c_304
        replace hE := hE.trans (if_neg c_304)
        refine lv_iload_n hx hb dX9_singing_12 rfl (lv_at hl 1 rfl) ?_
        refine lv_aload_n hx hb dX9_singing_13 rfl (lv_at hl 2 rfl) ?_
        refine lv_iload_n hx hb dX9_singing_14 rfl (lv_at hl 0 rfl) ?_
        refine pci (va_runV (As := [.int v_280]) (rest := [.int v_281]) ⟨hx, hb, hml, hown, hts⟩ (w_sings l D K a0 v_280 a1 k_1 a2 k_3 (.int n) k_5 k_6 k_7 k_8 k_9 f ft s.heap.size) (cwV 1 hts gX9_singing_X9_sings rfl rfl rfl (by decide +kernel) ⟨Nat.le_of_ble_eq_true rfl, Nat.le_of_ble_eq_true rfl⟩) (mkV hK hN (hP.sub [0, 1, 2] rfl) (hD.sub [0, 1, 2] (by decide +kernel) rfl) (ci := 9) (q0 := 0) rfl rfl) rfl rfl hl.1 rfl (lv_room (Nat.le_of_ble_eq_true rfl)) dX9_singing_15 ⟨Nat.le_of_ble_eq_true rfl, Nat.le_of_ble_eq_true rfl⟩) (fun r_305 hw => ?_)
        obtain ⟨h_307, k_306, -⟩ := hw
        replace hE := hE.trans (Lt_in k_306)
        refine lv_if_eq (tgt := 25) hx hb dX9_singing_18 (by decide +kernel) (fun c_308 => ?_) (fun c_308 => ?_)
        · have c_308i := i_eq (x := r_305.toInt) (y := 0) rfl rfl c_308
          replace hE := hE.trans (if_pos c_308)
          refine lv_iconst (v := 0) hx hb dX9_singing_25 (by decide +kernel) ?_
          refine lv_iadd hx hb dX9_singing_26 ?_
          refine lv_topi (fun x_309 ex_309 => ?_)
          replace hE := hE.trans (Lt_in ex_309)
          have hx_309 : x_309.toInt = (v_281.toInt + 0) := by rw [ex_309]; exact i_add rfl (show (0 : Int32).toInt = 0 from rfl) (by have q1 := i_rng (a := v_281) rfl; omega)
          refine lv_istore_n (lv' := [(1, .int x_309), (2, .int v_280), (0, .ref a0)]) hx hb dX9_singing_27 rfl hl (by decide +kernel) rfl (fun ls hl => ?_)
          obtain ⟨x_310, ex_310⟩ : ∃ y : Int32, y = v_280 + Int32.ofInt 1 := ⟨_, rfl⟩
          replace hE := hE.trans (Lt_in ex_310)
          have hx_310 : x_310.toInt = (v_280.toInt + 1) := by rw [ex_310]; exact i_add rfl (show (Int32.ofInt 1).toInt = 1 from rfl) (by omega)
          refine lv_iinc (v := x_310) (lv' := [(2, .int x_310), (1, .int x_309), (0, .ref a0)]) hx hb dX9_singing_28 hl (k := 1) rfl (by rw [ex_310]) (by decide +kernel) rfl (fun ls hl => ?_)
          refine lv_goto (tgt := 4) hx hb dX9_singing_31 (by decide +kernel) ?_
          exact ih_303 x_310 x_309 (by rw [hx_310]; omega) (by omega) (hE.trans (by rw [hrec_302])) ls (lv_sub hl [0, 1, 2] rfl)
        · have c_308i := i_ne (x := r_305.toInt) (y := 0) rfl rfl c_308
          replace hE := hE.trans (if_neg c_308)
          refine lv_iconst (v := 1) hx hb dX9_singing_21 (by decide +kernel) ?_
          refine lv_goto (tgt := 26) hx hb dX9_singing_22 (by decide +kernel) ?_
          refine lv_iadd hx hb dX9_singing_26 ?_
          refine lv_topi (fun x_311 ex_311 => ?_)
          replace hE := hE.trans (Lt_in ex_311)
          refine lv_istore_n (lv' := [(1, .int x_311), (2, .int v_280), (0, .ref a0)]) hx hb dX9_singing_27 rfl hl (by decide +kernel) rfl (fun ls hl => ?_)
          obtain ⟨x_312, ex_312⟩ : ∃ y : Int32, y = v_280 + Int32.ofInt 1 := ⟨_, rfl⟩
          replace hE := hE.trans (Lt_in ex_312)
          have hx_312 : x_312.toInt = (v_280.toInt + 1) := by rw [ex_312]; exact i_add rfl (show (Int32.ofInt 1).toInt = 1 from rfl) (by omega)
          refine lv_iinc (v := x_312) (lv' := [(2, .int x_312), (1, .int x_311), (0, .ref a0)]) hx hb dX9_singing_28 hl (k := 1) rfl (by rw [ex_312]) (by decide +kernel) rfl (fun ls hl => ?_)
          refine lv_goto (tgt := 4) hx hb dX9_singing_31 (by decide +kernel) ?_
          exact ih_303 x_312 x_311 (by rw [hx_312]; omega) (by omega) (hE.trans (by rw [hrec_302])) ls (lv_sub hl [0, 1, 2] rfl)
  exact lp_302 ((9 - (0 : Int32).toInt : Int).toNat + 1) 0 0 (by decide +kernel) (Nat.lt_succ_self _) hE ls (lv_sub hl [0, 1, 2] rfl)
set_option maxRecDepth 100000 in
noncomputable def E_w_notesNow_l4 (n : Int32) (f : Nat → Int32) (ft : Nat → Int32) (rec_329 : Int32 → Int32 → (Int32)) (v_301 : Int32) (v_302 : Int32) : Int32 :=
  if n ≤ v_301 then ((v_302 : Int32)) else (Lt (E_w_sings v_301 f ft) (fun r_332 => if r_332 = 0 then (Lt (v_302 ||| 0 : Int32) (fun x_336 => Lt (v_301 + Int32.ofInt 1 : Int32) (fun x_337 => rec_329 x_337 x_336))) else (Lt (E_w_fact v_301 0 f) (fun r_338 => Lt (1 <<< (r_338 &&& 31) : Int32) (fun x_340 => Lt (v_302 ||| x_340 : Int32) (fun x_341 => Lt (v_301 + Int32.ofInt 1 : Int32) (fun x_342 => rec_329 x_342 x_341)))))))
set_option maxRecDepth 100000 in
noncomputable def E_w_notesNow (n : Int32) (f : Nat → Int32) (ft : Nat → Int32) : Int32 :=
  Lp (α := Int32 → Int32 → (Int32)) (E_w_notesNow_l4 n f ft) (fun _ _ => ((0) : Int32)) ((9 - (0 : Int32).toInt : Int).toNat + 1) 0 0
set_option maxHeartbeats 4000000 in
set_option maxRecDepth 100000 in
theorem w_notesNow (l : Launch) (D : va_G) (K : Nat → ClassId) (a0 : Nat) (a1 : Nat) (k_1 : Value) (a2 : Nat) (k_3 : Value) (n : Int32) (k_5 : Value) (k_6 : Value) (k_7 : Value) (k_8 : Value) (k_9 : Value) (f : Nat → Int32) (ft : Nat → Int32) (sz : Nat) (zn : 0 ≤ n.toInt ∧ n.toInt ≤ 8) : Met l yX9_notesNow wsX9_notesNow ({ frames := 2, cells := 0, slots := 0, locals := 44 }) (va_Pc [.ref a0] (Pre D K [(a0, .inr (9, [.ref a1, k_1, .ref a2, k_3, .int n, k_5, k_6, k_7, k_8, k_9])), (a1, .inl (K 0, 56, .inl f)), (a2, .inl (K 0, 6, .inl ft))] sz)) (vp_Si (fun r : Int32 => (r = E_w_notesNow n f ft) ∧ True)) 0 0 (fun _ => False) := by
  refine Met.ofW (cc := cX9_notesNow) (maxL := 3) (ret := (some .int)) (by decide +kernel) rfl ?_
  intro p e s m args below meth c s₁ B hml hv
  obtain ⟨rfl, hsz, hP, hK, hD0, hN⟩ := hv
  have hx := B.exec
  have hb := B.bytes
  have hr := B.returns
  have hts := atoms_spec (ws := wsX9_notesNow) B.pre
  have hown : s.vm.findClass RX9 = some m.cls := findClass_of_methodNamed B.named
  have hlocks := B.notSynchronized
  subst hsz
  have hD := hD0
  replace hP : va_P D vwCl [(a0, .inr (9, [.ref a1, k_1, .ref a2, k_3, .int n, k_5, k_6, k_7, k_8, k_9])), (a1, .inl (K 0, 56, .inl f)), (a2, .inl (K 0, 6, .inl ft))] s.heap := hP
  have hl := lv_entry [.ref a0] (n := 3) (Nat.le_of_ble_eq_true rfl)
  rw [lg_entry_eq]
  generalize (lg_sl [.ref a0] ++ List.replicate (3 - (lg_sl [.ref a0]).length) Slot.unset).toArray = ls at hl ⊢
  have hl : lv_has ls 3 [(0, .ref a0)] := hl
  have hw9 : ∀ w ∈ wsX90, w ∈ wsX9_notesNow := fun w h => (List.mem_cons_of_mem _ (List.mem_append_right _ h))
  generalize hQ : MQ below _ _ s _ _ _ = Q
  have hE := E_w_notesNow.eq_def n f ft
  refine lv_iconst (v := 0) hx hb dX9_notesNow_0 (by decide +kernel) ?_
  refine lv_istore_n (lv' := [(1, .int 0), (0, .ref a0)]) hx hb dX9_notesNow_1 rfl hl (by decide +kernel) rfl (fun ls hl => ?_)
  refine lv_iconst (v := 0) hx hb dX9_notesNow_2 (by decide +kernel) ?_
  refine lv_istore_n (lv' := [(2, .int 0), (1, .int 0), (0, .ref a0)]) hx hb dX9_notesNow_3 rfl hl (by decide +kernel) rfl (fun ls hl => ?_)
  have lp_329 : ∀ (nn_ : Nat) (v_301 : Int32) (v_302 : Int32) (hv_301 : 0 ≤ v_301.toInt ∧ v_301.toInt ≤ 8) (hn : (9 - v_301.toInt : Int).toNat < nn_) (hE : E_w_notesNow n f ft = Lp (α := Int32 → Int32 → (Int32)) (E_w_notesNow_l4 n f ft) (fun _ _ => ((0) : Int32)) nn_ v_301 v_302) (ls : Array Slot) (hl : lv_has ls 3 [(2, .int v_301), (1, .int v_302), (0, .ref a0)]), W p l e ({ frames := 2, cells := 0, slots := 0, locals := 44 }) s m (([.ref a0] : List Value).toArray) below meth c s.heap [] 0 0 Q (F0 m 4 ls []) := by
    clear hE hl
    intro nn_
    induction nn_ with
    | zero =>
      intro v_301 v_302 hv_301 hn hE ls hl
      exact absurd hn (Nat.not_lt_zero _)
    | succ nn_ ih_330 =>
      intro v_301 v_302 hv_301 hn hE ls hl
      replace hE : E_w_notesNow n f ft = E_w_notesNow_l4 n f ft (Lp (α := Int32 → Int32 → (Int32)) (E_w_notesNow_l4 n f ft) (fun _ _ => ((0) : Int32)) nn_) v_301 v_302 := hE
      obtain ⟨rec_329, hrec_329⟩ : ∃ z9, z9 = Lp (α := Int32 → Int32 → (Int32)) (E_w_notesNow_l4 n f ft) (fun _ _ => ((0) : Int32)) nn_ := ⟨_, rfl⟩
      rw [← hrec_329] at hE
      replace hE := hE.trans (E_w_notesNow_l4.eq_def _ _ _ _ _ _)
      refine lv_iload_n hx hb dX9_notesNow_4 rfl (lv_at hl 0 rfl) ?_
      refine lv_aload_n hx hb dX9_notesNow_5 rfl (lv_at hl 2 rfl) ?_
      refine va_get (ci := 9) (v := .int n) (C := RX9) (T := TX9) (N := 10) hx hb hts hw9 hown hK hP 0 rfl rfl 4 (by decide +kernel) (hts _ mm_X9_notesNow_178) (fun _ h9 => h9) rfl dX9_notesNow_6 ?_
      refine lv_icmp_ge (tgt := 41) hx hb dX9_notesNow_9 (by decide +kernel) (fun c_331 => ?_) (fun c_331 => ?_)
      · have c_331i := i_le (x := n.toInt) (y := v_301.toInt) rfl rfl c_331
        replace hE := hE.trans (if_pos c_331)
        refine lv_iload_n hx hb dX9_notesNow_41 rfl (lv_at hl 1 rfl) ?_
        rw [← hQ]
        exact W.iret (v := v_302) hx hb hr (fun t ht hW => ⟨_, rfl, ⟨hE.symm, trivial⟩, ht⟩) (fun q hq => by cases hq) dX9_notesNow_42
      · have c_331i := i_nle (x := n.toInt) (y := v_301.toInt) rfl rfl c_331
        replace hE := hE.trans (if_neg c_331)
        refine lv_iload_n hx hb dX9_notesNow_12 rfl (lv_at hl 1 rfl) ?_
        refine lv_aload_n hx hb dX9_notesNow_13 rfl (lv_at hl 2 rfl) ?_
        refine lv_iload_n hx hb dX9_notesNow_14 rfl (lv_at hl 0 rfl) ?_
        refine pci (va_runV (As := [.int v_301]) (rest := [.int v_302]) ⟨hx, hb, hml, hown, hts⟩ (w_sings l D K a0 v_301 a1 k_1 a2 k_3 (.int n) k_5 k_6 k_7 k_8 k_9 f ft s.heap.size) (cwV 1 hts gX9_notesNow_X9_sings rfl rfl rfl (by decide +kernel) ⟨Nat.le_of_ble_eq_true rfl, Nat.le_of_ble_eq_true rfl⟩) (mkV hK hN (hP.sub [0, 1, 2] rfl) (hD.sub [0, 1, 2] (by decide +kernel) rfl) (ci := 9) (q0 := 0) rfl rfl) rfl rfl hl.1 rfl (lv_room (Nat.le_of_ble_eq_true rfl)) dX9_notesNow_15 ⟨Nat.le_of_ble_eq_true rfl, Nat.le_of_ble_eq_true rfl⟩) (fun r_332 hw => ?_)
        obtain ⟨h_334, k_333, -⟩ := hw
        replace hE := hE.trans (Lt_in k_333)
        refine lv_if_eq (tgt := 32) hx hb dX9_notesNow_18 (by decide +kernel) (fun c_335 => ?_) (fun c_335 => ?_)
        · have c_335i := i_eq (x := r_332.toInt) (y := 0) rfl rfl c_335
          replace hE := hE.trans (if_pos c_335)
          refine lv_iconst (v := 0) hx hb dX9_notesNow_32 (by decide +kernel) ?_
          refine lv_ior hx hb dX9_notesNow_33 ?_
          refine lv_topi (fun x_336 ex_336 => ?_)
          replace hE := hE.trans (Lt_in ex_336)
          refine lv_istore_n (lv' := [(1, .int x_336), (2, .int v_301), (0, .ref a0)]) hx hb dX9_notesNow_34 rfl hl (by decide +kernel) rfl (fun ls hl => ?_)
          obtain ⟨x_337, ex_337⟩ : ∃ y : Int32, y = v_301 + Int32.ofInt 1 := ⟨_, rfl⟩
          replace hE := hE.trans (Lt_in ex_337)
          have hx_337 : x_337.toInt = (v_301.toInt + 1) := by rw [ex_337]; exact i_add rfl (show (Int32.ofInt 1).toInt = 1 from rfl) (by omega)
          refine lv_iinc (v := x_337) (lv' := [(2, .int x_337), (1, .int x_336), (0, .ref a0)]) hx hb dX9_notesNow_35 hl (k := 1) rfl (by rw [ex_337]) (by decide +kernel) rfl (fun ls hl => ?_)
          refine lv_goto (tgt := 4) hx hb dX9_notesNow_38 (by decide +kernel) ?_
          exact ih_330 x_337 x_336 (by rw [hx_337]; omega) (by omega) (hE.trans (by rw [hrec_329])) ls (lv_sub hl [0, 1, 2] rfl)
        · have c_335i := i_ne (x := r_332.toInt) (y := 0) rfl rfl c_335
          replace hE := hE.trans (if_neg c_335)
          refine lv_iconst (v := 1) hx hb dX9_notesNow_21 (by decide +kernel) ?_
          refine lv_aload_n hx hb dX9_notesNow_22 rfl (lv_at hl 2 rfl) ?_
          refine lv_iload_n hx hb dX9_notesNow_23 rfl (lv_at hl 0 rfl) ?_
          refine lv_iconst (v := 0) hx hb dX9_notesNow_24 (by decide +kernel) ?_
          refine pci (va_runV (As := [.int v_301, .int 0]) (rest := [.int 1, .int v_302]) ⟨hx, hb, hml, hown, hts⟩ (w_fact l D K a0 v_301 0 a1 k_1 (.ref a2) k_3 (.int n) k_5 k_6 k_7 k_8 k_9 f s.heap.size) (cwV 2 hts gX9_notesNow_X9_fact rfl rfl rfl (by decide +kernel) ⟨Nat.le_of_ble_eq_true rfl, Nat.le_of_ble_eq_true rfl⟩) (mkV hK hN (hP.sub [0, 1] rfl) (hD.sub [0, 1] (by decide +kernel) rfl) (ci := 9) (q0 := 0) rfl rfl) rfl rfl hl.1 rfl (lv_room (Nat.le_of_ble_eq_true rfl)) dX9_notesNow_25 ⟨Nat.le_of_ble_eq_true rfl, Nat.le_of_ble_eq_true rfl⟩) (fun r_338 hw => ?_)
          obtain ⟨k_339, -⟩ := hw
          replace hE := hE.trans (Lt_in k_339)
          refine lv_ishl hx hb dX9_notesNow_28 ?_
          refine lv_topi (fun x_340 ex_340 => ?_)
          replace hE := hE.trans (Lt_in ex_340)
          refine lv_goto (tgt := 33) hx hb dX9_notesNow_29 (by decide +kernel) ?_
          refine lv_ior hx hb dX9_notesNow_33 ?_
          refine lv_topi (fun x_341 ex_341 => ?_)
          replace hE := hE.trans (Lt_in ex_341)
          refine lv_istore_n (lv' := [(1, .int x_341), (2, .int v_301), (0, .ref a0)]) hx hb dX9_notesNow_34 rfl hl (by decide +kernel) rfl (fun ls hl => ?_)
          obtain ⟨x_342, ex_342⟩ : ∃ y : Int32, y = v_301 + Int32.ofInt 1 := ⟨_, rfl⟩
          replace hE := hE.trans (Lt_in ex_342)
          have hx_342 : x_342.toInt = (v_301.toInt + 1) := by rw [ex_342]; exact i_add rfl (show (Int32.ofInt 1).toInt = 1 from rfl) (by omega)
          refine lv_iinc (v := x_342) (lv' := [(2, .int x_342), (1, .int x_341), (0, .ref a0)]) hx hb dX9_notesNow_35 hl (k := 1) rfl (by rw [ex_342]) (by decide +kernel) rfl (fun ls hl => ?_)
          refine lv_goto (tgt := 4) hx hb dX9_notesNow_38 (by decide +kernel) ?_
          exact ih_330 x_342 x_341 (by rw [hx_342]; omega) (by omega) (hE.trans (by rw [hrec_329])) ls (lv_sub hl [0, 1, 2] rfl)
  exact lp_329 ((9 - (0 : Int32).toInt : Int).toNat + 1) 0 0 (by decide +kernel) (Nat.lt_succ_self _) hE ls (lv_sub hl [0, 1, 2] rfl)
set_option maxRecDepth 100000 in
noncomputable def E_w_thirdsNow_l9 (r_345 : Int32) (rec_469 : Int32 → Int32 → (Int32)) (v_433 : Int32) (v_434 : Int32) : Int32 :=
  if 7 ≤ v_433 then ((v_434 : Int32)) else (Lt (1 <<< (v_433 &&& 31) : Int32) (fun x_472 => Lt (v_433 + 2 : Int32) (fun x_473 => Lt (x_473 - x_473 / 7 * 7 : Int32) (fun x_474 => Lt (1 <<< (x_474 &&& 31) : Int32) (fun x_475 => Lt (x_472 ||| x_475 : Int32) (fun x_476 => Lt (v_433 + 4 : Int32) (fun x_477 => Lt (x_477 - x_477 / 7 * 7 : Int32) (fun x_478 => Lt (1 <<< (x_478 &&& 31) : Int32) (fun x_479 => Lt (x_476 ||| x_479 : Int32) (fun x_480 => Lt (r_345 &&& x_480 : Int32) (fun x_481 => if x_481 = x_480 then (Lt (v_434 + 1 : Int32) (fun x_485 => Lt (v_433 + Int32.ofInt 1 : Int32) (fun x_486 => rec_469 x_486 x_485))) else (Lt (v_434 + 0 : Int32) (fun x_483 => Lt (v_433 + Int32.ofInt 1 : Int32) (fun x_484 => rec_469 x_484 x_483))))))))))))))
set_option maxRecDepth 100000 in
noncomputable def E_w_thirdsNow (n : Int32) (f : Nat → Int32) (ft : Nat → Int32) : Int32 :=
  Lt (E_w_notesNow n f ft) (fun r_345 => Lp (α := Int32 → Int32 → (Int32)) (E_w_thirdsNow_l9 r_345) (fun _ _ => ((0) : Int32)) ((8 - (0 : Int32).toInt : Int).toNat + 1) 0 0)
set_option maxHeartbeats 4000000 in
set_option maxRecDepth 100000 in
theorem w_thirdsNow (l : Launch) (D : va_G) (K : Nat → ClassId) (a0 : Nat) (a1 : Nat) (k_1 : Value) (a2 : Nat) (k_3 : Value) (n : Int32) (k_5 : Value) (k_6 : Value) (k_7 : Value) (k_8 : Value) (k_9 : Value) (f : Nat → Int32) (ft : Nat → Int32) (sz : Nat) (zn : 0 ≤ n.toInt ∧ n.toInt ≤ 8) : Met l yX9_thirdsNow wsX9_thirdsNow ({ frames := 3, cells := 0, slots := 0, locals := 66 }) (va_Pc [.ref a0] (Pre D K [(a0, .inr (9, [.ref a1, k_1, .ref a2, k_3, .int n, k_5, k_6, k_7, k_8, k_9])), (a1, .inl (K 0, 56, .inl f)), (a2, .inl (K 0, 6, .inl ft))] sz)) (vp_Si (fun r : Int32 => (r = E_w_thirdsNow n f ft) ∧ True)) 0 0 (fun _ => False) := by
  refine Met.ofW (cc := cX9_thirdsNow) (maxL := 5) (ret := (some .int)) (by decide +kernel) rfl ?_
  intro p e s m args below meth c s₁ B hml hv
  obtain ⟨rfl, hsz, hP, hK, hD0, hN⟩ := hv
  have hx := B.exec
  have hb := B.bytes
  have hr := B.returns
  have hts := atoms_spec (ws := wsX9_thirdsNow) B.pre
  have hown : s.vm.findClass RX9 = some m.cls := findClass_of_methodNamed B.named
  have hlocks := B.notSynchronized
  subst hsz
  have hD := hD0
  replace hP : va_P D vwCl [(a0, .inr (9, [.ref a1, k_1, .ref a2, k_3, .int n, k_5, k_6, k_7, k_8, k_9])), (a1, .inl (K 0, 56, .inl f)), (a2, .inl (K 0, 6, .inl ft))] s.heap := hP
  have hl := lv_entry [.ref a0] (n := 5) (Nat.le_of_ble_eq_true rfl)
  rw [lg_entry_eq]
  generalize (lg_sl [.ref a0] ++ List.replicate (5 - (lg_sl [.ref a0]).length) Slot.unset).toArray = ls at hl ⊢
  have hl : lv_has ls 5 [(0, .ref a0)] := hl
  have hw9 : ∀ w ∈ wsX90, w ∈ wsX9_thirdsNow := fun w h => (List.mem_cons_of_mem _ (List.mem_append_right _ h))
  generalize hQ : MQ below _ _ s _ _ _ = Q
  have hE := E_w_thirdsNow.eq_def n f ft
  refine lv_aload_n hx hb dX9_thirdsNow_0 rfl (lv_at hl 0 rfl) ?_
  refine pci (va_runV (As := []) (rest := []) ⟨hx, hb, hml, hown, hts⟩ (w_notesNow l D K a0 a1 k_1 a2 k_3 n k_5 k_6 k_7 k_8 k_9 f ft s.heap.size (by first | omega | decide)) (cwV 0 hts gX9_thirdsNow_X9_notesNow rfl rfl rfl (by decide +kernel) ⟨Nat.le_of_ble_eq_true rfl, Nat.le_of_ble_eq_true rfl⟩) (mkV hK hN (hP.sub [0, 1, 2] rfl) (hD.sub [0, 1, 2] (by decide +kernel) rfl) (ci := 9) (q0 := 0) rfl rfl) rfl rfl hl.1 rfl (lv_room (Nat.le_of_ble_eq_true rfl)) dX9_thirdsNow_1 ⟨Nat.le_of_ble_eq_true rfl, Nat.le_of_ble_eq_true rfl⟩) (fun r_345 hw => ?_)
  obtain ⟨k_346, -⟩ := hw
  replace hE := hE.trans (Lt_in k_346)
  refine lv_istore_n (lv' := [(1, .int r_345), (0, .ref a0)]) hx hb dX9_thirdsNow_4 rfl hl (by decide +kernel) rfl (fun ls hl => ?_)
  refine lv_iconst (v := 0) hx hb dX9_thirdsNow_5 (by decide +kernel) ?_
  refine lv_istore_n (lv' := [(2, .int 0), (1, .int r_345), (0, .ref a0)]) hx hb dX9_thirdsNow_6 rfl hl (by decide +kernel) rfl (fun ls hl => ?_)
  refine lv_iconst (v := 0) hx hb dX9_thirdsNow_7 (by decide +kernel) ?_
  refine lv_istore_n (lv' := [(3, .int 0), (2, .int 0), (1, .int r_345), (0, .ref a0)]) hx hb dX9_thirdsNow_8 rfl hl (by decide +kernel) rfl (fun ls hl => ?_)
  have lp_469 : ∀ (nn_ : Nat) (v_433 : Int32) (v_434 : Int32) (hv_433 : 0 ≤ v_433.toInt ∧ v_433.toInt ≤ 7) (hn : (8 - v_433.toInt : Int).toNat < nn_) (hE : E_w_thirdsNow n f ft = Lp (α := Int32 → Int32 → (Int32)) (E_w_thirdsNow_l9 r_345) (fun _ _ => ((0) : Int32)) nn_ v_433 v_434) (ls : Array Slot) (hl : lv_has ls 5 [(3, .int v_433), (2, .int v_434), (1, .int r_345)]), W p l e ({ frames := 3, cells := 0, slots := 0, locals := 66 }) s m (([.ref a0] : List Value).toArray) below meth c s.heap [] 0 0 Q (F0 m 9 ls []) := by
    clear hE hl
    intro nn_
    induction nn_ with
    | zero =>
      intro v_433 v_434 hv_433 hn hE ls hl
      exact absurd hn (Nat.not_lt_zero _)
    | succ nn_ ih_470 =>
      intro v_433 v_434 hv_433 hn hE ls hl
      replace hE : E_w_thirdsNow n f ft = E_w_thirdsNow_l9 r_345 (Lp (α := Int32 → Int32 → (Int32)) (E_w_thirdsNow_l9 r_345) (fun _ _ => ((0) : Int32)) nn_) v_433 v_434 := hE
      obtain ⟨rec_469, hrec_469⟩ : ∃ z9, z9 = Lp (α := Int32 → Int32 → (Int32)) (E_w_thirdsNow_l9 r_345) (fun _ _ => ((0) : Int32)) nn_ := ⟨_, rfl⟩
      rw [← hrec_469] at hE
      replace hE := hE.trans (E_w_thirdsNow_l9.eq_def _ _ _ _)
      refine lv_iload_n hx hb dX9_thirdsNow_9 rfl (lv_at hl 0 rfl) ?_
      refine lv_bipush (v := 7) hx hb dX9_thirdsNow_10 (by decide +kernel) ?_
      refine lv_icmp_ge (tgt := 61) hx hb dX9_thirdsNow_12 (by decide +kernel) (fun c_471 => ?_) (fun c_471 => ?_)
      · have c_471i := i_le (x := 7) (y := v_433.toInt) rfl rfl c_471
        replace hE := hE.trans (if_pos c_471)
        refine lv_iload_n hx hb dX9_thirdsNow_61 rfl (lv_at hl 1 rfl) ?_
        rw [← hQ]
        exact W.iret (v := v_434) hx hb hr (fun t ht hW => ⟨_, rfl, ⟨hE.symm, trivial⟩, ht⟩) (fun q hq => by cases hq) dX9_thirdsNow_62
      · have c_471i := i_nle (x := 7) (y := v_433.toInt) rfl rfl c_471
        replace hE := hE.trans (if_neg c_471)
        refine lv_iconst (v := 1) hx hb dX9_thirdsNow_15 (by decide +kernel) ?_
        refine lv_iload_n hx hb dX9_thirdsNow_16 rfl (lv_at hl 0 rfl) ?_
        refine lv_ishl hx hb dX9_thirdsNow_17 ?_
        refine lv_topi (fun x_472 ex_472 => ?_)
        replace hE := hE.trans (Lt_in ex_472)
        have hx_472 : 1 ≤ x_472.toInt ∧ x_472.toInt ≤ 64 := by rw [ex_472]; exact i_shl1 rfl (n := 6) (by decide +kernel) (by omega)
        refine lv_iconst (v := 1) hx hb dX9_thirdsNow_18 (by decide +kernel) ?_
        refine lv_iload_n hx hb dX9_thirdsNow_19 rfl (lv_at hl 0 rfl) ?_
        refine lv_iconst (v := 2) hx hb dX9_thirdsNow_20 (by decide +kernel) ?_
        refine lv_iadd hx hb dX9_thirdsNow_21 ?_
        refine lv_topi (fun x_473 ex_473 => ?_)
        replace hE := hE.trans (Lt_in ex_473)
        have hx_473 : x_473.toInt = (v_433.toInt + 2) := by rw [ex_473]; exact i_add rfl (show (2 : Int32).toInt = 2 from rfl) (by omega)
        refine lv_bipush (v := 7) hx hb dX9_thirdsNow_22 (by decide +kernel) ?_
        refine lv_irem hx hb dX9_thirdsNow_24 (by decide +kernel) ?_
        refine lv_topi (fun x_474 ex_474 => ?_)
        replace hE := hE.trans (Lt_in ex_474)
        have hx_474 : x_474.toInt = ((v_433.toInt + 2) % 7) := by rw [ex_474]; exact i_rem hx_473 (show (7 : Int32).toInt = 7 from rfl) (by omega) (by omega)
        refine lv_ishl hx hb dX9_thirdsNow_25 ?_
        refine lv_topi (fun x_475 ex_475 => ?_)
        replace hE := hE.trans (Lt_in ex_475)
        have hx_475 : 1 ≤ x_475.toInt ∧ x_475.toInt ≤ 64 := by rw [ex_475]; exact i_shl1 hx_474 (n := 6) (by decide +kernel) (by omega)
        refine lv_ior hx hb dX9_thirdsNow_26 ?_
        refine lv_topi (fun x_476 ex_476 => ?_)
        replace hE := hE.trans (Lt_in ex_476)
        have hx_476 : 0 ≤ x_476.toInt ∧ x_476.toInt < 128 := by rw [ex_476]; exact i_or (k := 7) rfl rfl (by decide +kernel) (by omega) (by omega)
        refine lv_iconst (v := 1) hx hb dX9_thirdsNow_27 (by decide +kernel) ?_
        refine lv_iload_n hx hb dX9_thirdsNow_28 rfl (lv_at hl 0 rfl) ?_
        refine lv_iconst (v := 4) hx hb dX9_thirdsNow_29 (by decide +kernel) ?_
        refine lv_iadd hx hb dX9_thirdsNow_30 ?_
        refine lv_topi (fun x_477 ex_477 => ?_)
        replace hE := hE.trans (Lt_in ex_477)
        have hx_477 : x_477.toInt = (v_433.toInt + 4) := by rw [ex_477]; exact i_add rfl (show (4 : Int32).toInt = 4 from rfl) (by omega)
        refine lv_bipush (v := 7) hx hb dX9_thirdsNow_31 (by decide +kernel) ?_
        refine lv_irem hx hb dX9_thirdsNow_33 (by decide +kernel) ?_
        refine lv_topi (fun x_478 ex_478 => ?_)
        replace hE := hE.trans (Lt_in ex_478)
        have hx_478 : x_478.toInt = ((v_433.toInt + 4) % 7) := by rw [ex_478]; exact i_rem hx_477 (show (7 : Int32).toInt = 7 from rfl) (by omega) (by omega)
        refine lv_ishl hx hb dX9_thirdsNow_34 ?_
        refine lv_topi (fun x_479 ex_479 => ?_)
        replace hE := hE.trans (Lt_in ex_479)
        have hx_479 : 1 ≤ x_479.toInt ∧ x_479.toInt ≤ 64 := by rw [ex_479]; exact i_shl1 hx_478 (n := 6) (by decide +kernel) (by omega)
        refine lv_ior hx hb dX9_thirdsNow_35 ?_
        refine lv_topi (fun x_480 ex_480 => ?_)
        replace hE := hE.trans (Lt_in ex_480)
        have hx_480 : 0 ≤ x_480.toInt ∧ x_480.toInt < 128 := by rw [ex_480]; exact i_or (k := 7) rfl rfl (by decide +kernel) (by omega) (by omega)
        refine lv_istore (lv' := [(4, .int x_480), (3, .int v_433), (2, .int v_434), (1, .int r_345)]) hx hb dX9_thirdsNow_36 hl (by decide +kernel) rfl (fun ls hl => ?_)
        refine lv_iload_n hx hb dX9_thirdsNow_38 rfl (lv_at hl 2 rfl) ?_
        refine lv_iload_n hx hb dX9_thirdsNow_39 rfl (lv_at hl 3 rfl) ?_
        refine lv_iload hx hb dX9_thirdsNow_40 (lv_at hl 0 rfl) ?_
        refine lv_iand hx hb dX9_thirdsNow_42 ?_
        refine lv_topi (fun x_481 ex_481 => ?_)
        replace hE := hE.trans (Lt_in ex_481)
        have hx_481 : 0 ≤ x_481.toInt ∧ x_481.toInt ≤ x_480.toInt := by rw [ex_481]; exact i_andr rfl (by omega)
        refine lv_iload hx hb dX9_thirdsNow_43 (lv_at hl 0 rfl) ?_
        refine lv_icmp_ne (tgt := 52) hx hb dX9_thirdsNow_45 (by decide +kernel) (fun c_482 => ?_) (fun c_482 => ?_)
        · have c_482i := i_ne (x := x_481.toInt) (y := x_480.toInt) rfl rfl c_482
          replace hE := hE.trans (if_neg c_482)
          refine lv_iconst (v := 0) hx hb dX9_thirdsNow_52 (by decide +kernel) ?_
          refine lv_iadd hx hb dX9_thirdsNow_53 ?_
          refine lv_topi (fun x_483 ex_483 => ?_)
          replace hE := hE.trans (Lt_in ex_483)
          have hx_483 : x_483.toInt = (v_434.toInt + 0) := by rw [ex_483]; exact i_add rfl (show (0 : Int32).toInt = 0 from rfl) (by have q1 := i_rng (a := v_434) rfl; omega)
          refine lv_istore_n (lv' := [(2, .int x_483), (4, .int x_480), (3, .int v_433), (1, .int r_345)]) hx hb dX9_thirdsNow_54 rfl hl (by decide +kernel) rfl (fun ls hl => ?_)
          obtain ⟨x_484, ex_484⟩ : ∃ y : Int32, y = v_433 + Int32.ofInt 1 := ⟨_, rfl⟩
          replace hE := hE.trans (Lt_in ex_484)
          have hx_484 : x_484.toInt = (v_433.toInt + 1) := by rw [ex_484]; exact i_add rfl (show (Int32.ofInt 1).toInt = 1 from rfl) (by omega)
          refine lv_iinc (v := x_484) (lv' := [(3, .int x_484), (2, .int x_483), (4, .int x_480), (1, .int r_345)]) hx hb dX9_thirdsNow_55 hl (k := 2) rfl (by rw [ex_484]) (by decide +kernel) rfl (fun ls hl => ?_)
          refine lv_goto (tgt := 9) hx hb dX9_thirdsNow_58 (by decide +kernel) ?_
          exact ih_470 x_484 x_483 (by rw [hx_484]; omega) (by omega) (hE.trans (by rw [hrec_469])) ls (lv_sub hl [0, 1, 3] rfl)
        · have c_482i := i_eq (x := x_481.toInt) (y := x_480.toInt) rfl rfl c_482
          replace hE := hE.trans (if_pos c_482)
          refine lv_iconst (v := 1) hx hb dX9_thirdsNow_48 (by decide +kernel) ?_
          refine lv_goto (tgt := 53) hx hb dX9_thirdsNow_49 (by decide +kernel) ?_
          refine lv_iadd hx hb dX9_thirdsNow_53 ?_
          refine lv_topi (fun x_485 ex_485 => ?_)
          replace hE := hE.trans (Lt_in ex_485)
          refine lv_istore_n (lv' := [(2, .int x_485), (4, .int x_480), (3, .int v_433), (1, .int r_345)]) hx hb dX9_thirdsNow_54 rfl hl (by decide +kernel) rfl (fun ls hl => ?_)
          obtain ⟨x_486, ex_486⟩ : ∃ y : Int32, y = v_433 + Int32.ofInt 1 := ⟨_, rfl⟩
          replace hE := hE.trans (Lt_in ex_486)
          have hx_486 : x_486.toInt = (v_433.toInt + 1) := by rw [ex_486]; exact i_add rfl (show (Int32.ofInt 1).toInt = 1 from rfl) (by omega)
          refine lv_iinc (v := x_486) (lv' := [(3, .int x_486), (2, .int x_485), (4, .int x_480), (1, .int r_345)]) hx hb dX9_thirdsNow_55 hl (k := 2) rfl (by rw [ex_486]) (by decide +kernel) rfl (fun ls hl => ?_)
          refine lv_goto (tgt := 9) hx hb dX9_thirdsNow_58 (by decide +kernel) ?_
          exact ih_470 x_486 x_485 (by rw [hx_486]; omega) (by omega) (hE.trans (by rw [hrec_469])) ls (lv_sub hl [0, 1, 3] rfl)
  exact lp_469 ((8 - (0 : Int32).toInt : Int).toNat + 1) 0 0 (by decide +kernel) (Nat.lt_succ_self _) hE ls (lv_sub hl [0, 1, 2] rfl)
set_option maxRecDepth 100000 in
noncomputable def E_w_chordAt_j19 : Int32 :=
  ((-1) : Int32)
set_option maxRecDepth 100000 in
noncomputable def E_w_chordAt (x : Int32) (fc : Nat → Int32) : Int32 :=
  if x < 0 then (E_w_chordAt_j19) else (if 24 ≤ x then (E_w_chordAt_j19) else (Lt (fc (x : Int32).toNatClampNeg : Int32) (fun x_81 => (x_81 : Int32))))
set_option maxHeartbeats 4000000 in
set_option maxRecDepth 100000 in
theorem w_chordAt (l : Launch) (D : va_G) (K : Nat → ClassId) (a0 : Nat) (x : Int32) (k_0 : Value) (a2 : Nat) (k_2 : Value) (k_3 : Value) (k_4 : Value) (k_5 : Value) (k_6 : Value) (k_7 : Value) (k_8 : Value) (k_9 : Value) (fc : Nat → Int32) (sz : Nat) : Met l yX9_chordAt wsX9_chordAt ({ frames := 0, cells := 0, slots := 0, locals := 0 }) (va_Pc [.ref a0, .int x] (Pre D K [(a0, .inr (9, [k_0, .ref a2, k_2, k_3, k_4, k_5, k_6, k_7, k_8, k_9])), (a2, .inl (K 0, 24, .inl fc))] sz)) (vp_Si (fun r : Int32 => (r = E_w_chordAt x fc) ∧ True)) 0 0 (fun _ => False) := by
  refine Met.ofW (cc := cX9_chordAt) (maxL := 2) (ret := (some .int)) (by decide +kernel) rfl ?_
  intro p e s m args below meth c s₁ B hml hv
  obtain ⟨rfl, hsz, hP, hK, hD0, hN⟩ := hv
  have hx := B.exec
  have hb := B.bytes
  have hr := B.returns
  have hts := atoms_spec (ws := wsX9_chordAt) B.pre
  have hown : s.vm.findClass RX9 = some m.cls := findClass_of_methodNamed B.named
  have hlocks := B.notSynchronized
  subst hsz
  have hD := hD0
  replace hP : va_P D vwCl [(a0, .inr (9, [k_0, .ref a2, k_2, k_3, k_4, k_5, k_6, k_7, k_8, k_9])), (a2, .inl (K 0, 24, .inl fc))] s.heap := hP
  have hl := lv_entry [.ref a0, .int x] (n := 2) (Nat.le_of_ble_eq_true rfl)
  rw [lg_entry_eq]
  generalize (lg_sl [.ref a0, .int x] ++ List.replicate (2 - (lg_sl [.ref a0, .int x]).length) Slot.unset).toArray = ls at hl ⊢
  have hl : lv_has ls 2 [(0, .ref a0), (1, .int x)] := hl
  have hw9 : ∀ w ∈ wsX90, w ∈ wsX9_chordAt := fun w h => (List.mem_cons_of_mem _ (List.mem_append_right _ h))
  generalize hQ : MQ below _ _ s _ _ _ = Q
  have hE := E_w_chordAt.eq_def x fc
  refine lv_iload_n hx hb dX9_chordAt_0 rfl (lv_at hl 1 rfl) ?_
  have j_78 : ∀ (hE : E_w_chordAt x fc = E_w_chordAt_j19) (ls : Array Slot) (hl : lv_has ls 2 []), W p l e ({ frames := 0, cells := 0, slots := 0, locals := 0 }) s m (([.ref a0, .int x] : List Value).toArray) below meth c s.heap [] 0 0 Q (F0 m 19 ls []) := by
    clear hE hl
    intro hE ls hl
    replace hE := hE.trans (E_w_chordAt_j19.eq_def )
    refine lv_iconst (v := (-1)) hx hb dX9_chordAt_19 (by decide +kernel) ?_
    rw [← hQ]
    exact W.iret (v := (-1)) hx hb hr (fun t ht hW => ⟨_, rfl, ⟨hE.symm, trivial⟩, ht⟩) (fun q hq => by cases hq) dX9_chordAt_20
  refine lv_if_lt (tgt := 19) hx hb dX9_chordAt_1 (by decide +kernel) (fun c_79 => ?_) (fun c_79 => ?_)
  · have c_79i := i_lt (x := x.toInt) (y := 0) rfl rfl c_79
    replace hE := hE.trans (if_pos c_79)
    exact j_78   hE ls (lv_sub hl [] rfl)
  · have c_79i := i_nlt (x := x.toInt) (y := 0) rfl rfl c_79
    replace hE := hE.trans (if_neg c_79)
    refine lv_iload_n hx hb dX9_chordAt_4 rfl (lv_at hl 1 rfl) ?_
    refine lv_bipush (v := 24) hx hb dX9_chordAt_5 (by decide +kernel) ?_
    refine lv_icmp_ge (tgt := 19) hx hb dX9_chordAt_7 (by decide +kernel) (fun c_80 => ?_) (fun c_80 => ?_)
    · have c_80i := i_le (x := 24) (y := x.toInt) rfl rfl c_80
      replace hE := hE.trans (if_pos c_80)
      exact j_78   hE ls (lv_sub hl [] rfl)
    · have c_80i := i_nle (x := 24) (y := x.toInt) rfl rfl c_80
      replace hE := hE.trans (if_neg c_80)
      refine lv_aload_n hx hb dX9_chordAt_10 rfl (lv_at hl 0 rfl) ?_
      refine va_get (ci := 9) (v := .ref a2) (C := RX9) (T := TX9) (N := 10) hx hb hts hw9 hown hK hP 0 rfl rfl 1 (by decide +kernel) (hts _ mm_X9_chordAt_175) (fun _ h9 => h9) rfl dX9_chordAt_11 ?_
      refine lv_iload_n hx hb dX9_chordAt_14 rfl (lv_at hl 1 rfl) ?_
      refine va_iald hx hb hK hP 1 0 rfl rfl (i_in rfl (by omega)) dX9_chordAt_15 ?_
      refine lv_topi (fun x_81 ex_81 => ?_)
      replace hE := hE.trans (Lt_in ex_81)
      refine lv_goto (tgt := 20) hx hb dX9_chordAt_16 (by decide +kernel) ?_
      rw [← hQ]
      exact W.iret (v := x_81) hx hb hr (fun t ht hW => ⟨_, rfl, ⟨hE.symm, trivial⟩, ht⟩) (fun q hq => by cases hq) dX9_chordAt_20
set_option maxRecDepth 100000 in
noncomputable def E_w_meetsChord (n : Int32) (f : Nat → Int32) (ft : Nat → Int32) (fc : Nat → Int32) : Int32 :=
  Lt (ft (0 : Int32).toNatClampNeg : Int32) (fun x_75 => Lt (E_w_chordAt x_75 fc) (fun r_76 => Lt (E_w_notesNow n f ft) (fun r_78 => Lt (r_78 &&& r_76 : Int32) (fun x_80 => if x_80 = r_76 then ((1 : Int32)) else ((0 : Int32))))))
set_option maxHeartbeats 4000000 in
set_option maxRecDepth 100000 in
theorem w_meetsChord (l : Launch) (D : va_G) (K : Nat → ClassId) (a0 : Nat) (a1 : Nat) (a3 : Nat) (a2 : Nat) (k_3 : Value) (n : Int32) (k_5 : Value) (k_6 : Value) (k_7 : Value) (k_8 : Value) (k_9 : Value) (f : Nat → Int32) (ft : Nat → Int32) (fc : Nat → Int32) (sz : Nat) (zn : 0 ≤ n.toInt ∧ n.toInt ≤ 8) : Met l yX9_meetsChord wsX9_meetsChord ({ frames := 3, cells := 0, slots := 0, locals := 66 }) (va_Pc [.ref a0] (Pre D K [(a0, .inr (9, [.ref a1, .ref a3, .ref a2, k_3, .int n, k_5, k_6, k_7, k_8, k_9])), (a1, .inl (K 0, 56, .inl f)), (a2, .inl (K 0, 6, .inl ft)), (a3, .inl (K 0, 24, .inl fc))] sz)) (vp_Si (fun r : Int32 => (0 ≤ r.toInt ∧ r.toInt ≤ 1) ∧ (r = E_w_meetsChord n f ft fc) ∧ True)) 0 0 (fun _ => False) := by
  refine Met.ofW (cc := cX9_meetsChord) (maxL := 2) (ret := (some .boolean)) (by decide +kernel) rfl ?_
  intro p e s m args below meth c s₁ B hml hv
  obtain ⟨rfl, hsz, hP, hK, hD0, hN⟩ := hv
  have hx := B.exec
  have hb := B.bytes
  have hr := B.returns
  have hts := atoms_spec (ws := wsX9_meetsChord) B.pre
  have hown : s.vm.findClass RX9 = some m.cls := findClass_of_methodNamed B.named
  have hlocks := B.notSynchronized
  subst hsz
  have hD := hD0
  replace hP : va_P D vwCl [(a0, .inr (9, [.ref a1, .ref a3, .ref a2, k_3, .int n, k_5, k_6, k_7, k_8, k_9])), (a1, .inl (K 0, 56, .inl f)), (a2, .inl (K 0, 6, .inl ft)), (a3, .inl (K 0, 24, .inl fc))] s.heap := hP
  have hl := lv_entry [.ref a0] (n := 2) (Nat.le_of_ble_eq_true rfl)
  rw [lg_entry_eq]
  generalize (lg_sl [.ref a0] ++ List.replicate (2 - (lg_sl [.ref a0]).length) Slot.unset).toArray = ls at hl ⊢
  have hl : lv_has ls 2 [(0, .ref a0)] := hl
  have hw9 : ∀ w ∈ wsX90, w ∈ wsX9_meetsChord := fun w h => (List.mem_cons_of_mem _ (List.mem_append_right _ h))
  generalize hQ : MQ below _ _ s _ _ _ = Q
  have hE := E_w_meetsChord.eq_def n f ft fc
  refine lv_aload_n hx hb dX9_meetsChord_0 rfl (lv_at hl 0 rfl) ?_
  refine lv_aload_n hx hb dX9_meetsChord_1 rfl (lv_at hl 0 rfl) ?_
  refine va_get (ci := 9) (v := .ref a2) (C := RX9) (T := TX9) (N := 10) hx hb hts hw9 hown hK hP 0 rfl rfl 2 (by decide +kernel) (hts _ mm_X9_meetsChord_176) (fun _ h9 => h9) rfl dX9_meetsChord_2 ?_
  refine lv_iconst (v := 0) hx hb dX9_meetsChord_5 (by decide +kernel) ?_
  refine va_iald hx hb hK hP 2 0 rfl rfl (i_in (x := 0) rfl (by omega)) dX9_meetsChord_6 ?_
  refine lv_topi (fun x_75 ex_75 => ?_)
  replace hE := hE.trans (Lt_in ex_75)
  refine pci (va_runV (As := [.int x_75]) (rest := []) ⟨hx, hb, hml, hown, hts⟩ (w_chordAt l D K a0 x_75 (.ref a1) a3 (.ref a2) k_3 (.int n) k_5 k_6 k_7 k_8 k_9 fc s.heap.size) (cwV 1 hts gX9_meetsChord_X9_chordAt rfl rfl rfl (by decide +kernel) ⟨Nat.le_of_ble_eq_true rfl, Nat.le_of_ble_eq_true rfl⟩) (mkV hK hN (hP.sub [0, 3] rfl) (hD.sub [0, 3] (by decide +kernel) rfl) (ci := 9) (q0 := 0) rfl rfl) rfl rfl hl.1 rfl (lv_room (Nat.le_of_ble_eq_true rfl)) dX9_meetsChord_7 ⟨Nat.le_of_ble_eq_true rfl, Nat.le_of_ble_eq_true rfl⟩) (fun r_76 hw => ?_)
  obtain ⟨k_77, -⟩ := hw
  replace hE := hE.trans (Lt_in k_77)
  refine lv_istore_n (lv' := [(1, .int r_76), (0, .ref a0)]) hx hb dX9_meetsChord_10 rfl hl (by decide +kernel) rfl (fun ls hl => ?_)
  refine lv_aload_n hx hb dX9_meetsChord_11 rfl (lv_at hl 1 rfl) ?_
  refine pci (va_runV (As := []) (rest := []) ⟨hx, hb, hml, hown, hts⟩ (w_notesNow l D K a0 a1 (.ref a3) a2 k_3 n k_5 k_6 k_7 k_8 k_9 f ft s.heap.size (by first | omega | decide)) (cwV 0 hts gX9_meetsChord_X9_notesNow rfl rfl rfl (by decide +kernel) ⟨Nat.le_of_ble_eq_true rfl, Nat.le_of_ble_eq_true rfl⟩) (mkV hK hN (hP.sub [0, 1, 2] rfl) (hD.sub [0, 1, 2] (by decide +kernel) rfl) (ci := 9) (q0 := 0) rfl rfl) rfl rfl hl.1 rfl (lv_room (Nat.le_of_ble_eq_true rfl)) dX9_meetsChord_12 ⟨Nat.le_of_ble_eq_true rfl, Nat.le_of_ble_eq_true rfl⟩) (fun r_78 hw => ?_)
  obtain ⟨k_79, -⟩ := hw
  replace hE := hE.trans (Lt_in k_79)
  refine lv_iload_n hx hb dX9_meetsChord_15 rfl (lv_at hl 0 rfl) ?_
  refine lv_iand hx hb dX9_meetsChord_16 ?_
  refine lv_topi (fun x_80 ex_80 => ?_)
  replace hE := hE.trans (Lt_in ex_80)
  refine lv_iload_n hx hb dX9_meetsChord_17 rfl (lv_at hl 0 rfl) ?_
  refine lv_icmp_ne (tgt := 25) hx hb dX9_meetsChord_18 (by decide +kernel) (fun c_81 => ?_) (fun c_81 => ?_)
  · have c_81i := i_ne (x := x_80.toInt) (y := r_76.toInt) rfl rfl c_81
    replace hE := hE.trans (if_neg c_81)
    refine lv_iconst (v := 0) hx hb dX9_meetsChord_25 (by decide +kernel) ?_
    rw [← hQ]
    exact W.zret (v := 0) hx hb hr (by decide +kernel) (fun t ht hW => ⟨_, rfl, ⟨(show 0 ≤ (0 : Int32).toInt ∧ (0 : Int32).toInt ≤ 1 by decide), hE.symm, trivial⟩, ht⟩) (fun q hq => by cases hq) dX9_meetsChord_26
  · have c_81i := i_eq (x := x_80.toInt) (y := r_76.toInt) rfl rfl c_81
    replace hE := hE.trans (if_pos c_81)
    refine lv_iconst (v := 1) hx hb dX9_meetsChord_21 (by decide +kernel) ?_
    refine lv_goto (tgt := 26) hx hb dX9_meetsChord_22 (by decide +kernel) ?_
    rw [← hQ]
    exact W.zret (v := 1) hx hb hr (by decide +kernel) (fun t ht hW => ⟨_, rfl, ⟨(show 0 ≤ (1 : Int32).toInt ∧ (1 : Int32).toInt ≤ 1 by decide), hE.symm, trivial⟩, ht⟩) (fun q hq => by cases hq) dX9_meetsChord_26
