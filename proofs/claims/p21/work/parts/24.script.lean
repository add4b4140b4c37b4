theorem BX7_head_0 : bsegs (ByteArray.data cX7_head |>.toList.drop 0) 0 [(0, [27]), (1, [8]), (2, [104]), (3, [28]), (4, [96]), (5, [62]), (6, [27]), (7, [155, 0, 25]), (10, [29]), (11, [155, 0, 21]), (14, [29]), (15, [42]), (16, [180, 0, 9]), (19, [190]), (20, [162, 0, 12]), (23, [42]), (24, [180, 0, 9]), (27, [29]), (28, [46]), (29, [167, 0, 4]), (32, [2]), (33, [172])] = true := by decide +kernel
theorem dX7_head_0 : decode cX7_head 0 = .ok (.iload_n 1, 1) := dk_27 (bs_at BX7_head_0 0 rfl)
theorem dX7_head_1 : decode cX7_head 1 = .ok (.iconst 5, 1) := dk_8 (bs_at BX7_head_0 1 rfl)
theorem dX7_head_2 : decode cX7_head 2 = .ok (.imul, 1) := dk_104 (bs_at BX7_head_0 2 rfl)
theorem dX7_head_3 : decode cX7_head 3 = .ok (.iload_n 2, 1) := dk_28 (bs_at BX7_head_0 3 rfl)
theorem dX7_head_4 : decode cX7_head 4 = .ok (.iadd, 1) := dk_96 (bs_at BX7_head_0 4 rfl)
theorem dX7_head_5 : decode cX7_head 5 = .ok (.istore_n 3, 1) := dk_62 (bs_at BX7_head_0 5 rfl)
theorem dX7_head_6 : decode cX7_head 6 = .ok (.iload_n 1, 1) := dk_27 (bs_at BX7_head_0 6 rfl)
theorem dX7_head_7 : decode cX7_head 7 = .ok (.ifCond .lt 25, 3) := dk_155 0 25 (bs_at BX7_head_0 7 rfl) rfl
theorem dX7_head_10 : decode cX7_head 10 = .ok (.iload_n 3, 1) := dk_29 (bs_at BX7_head_0 8 rfl)
theorem dX7_head_11 : decode cX7_head 11 = .ok (.ifCond .lt 21, 3) := dk_155 0 21 (bs_at BX7_head_0 9 rfl) rfl
theorem dX7_head_14 : decode cX7_head 14 = .ok (.iload_n 3, 1) := dk_29 (bs_at BX7_head_0 10 rfl)
theorem dX7_head_15 : decode cX7_head 15 = .ok (.aload_n 0, 1) := dk_42 (bs_at BX7_head_0 11 rfl)
theorem dX7_head_16 : decode cX7_head 16 = .ok (.getfield 9, 3) := dk_180 0 9 (bs_at BX7_head_0 12 rfl) rfl
theorem dX7_head_19 : decode cX7_head 19 = .ok (.arraylength, 1) := dk_190 (bs_at BX7_head_0 13 rfl)
theorem dX7_head_20 : decode cX7_head 20 = .ok (.if_icmp .ge 12, 3) := dk_162 0 12 (bs_at BX7_head_0 14 rfl) rfl
theorem dX7_head_23 : decode cX7_head 23 = .ok (.aload_n 0, 1) := dk_42 (bs_at BX7_head_0 15 rfl)
theorem dX7_head_24 : decode cX7_head 24 = .ok (.getfield 9, 3) := dk_180 0 9 (bs_at BX7_head_0 16 rfl) rfl
theorem dX7_head_27 : decode cX7_head 27 = .ok (.iload_n 3, 1) := dk_29 (bs_at BX7_head_0 17 rfl)
theorem dX7_head_28 : decode cX7_head 28 = .ok (.iaload, 1) := dk_46 (bs_at BX7_head_0 18 rfl)
theorem dX7_head_29 : decode cX7_head 29 = .ok (.goto 4, 3) := dk_167 0 4 (bs_at BX7_head_0 19 rfl) rfl
theorem dX7_head_32 : decode cX7_head 32 = .ok (.iconst (-1), 1) := dk_2 (bs_at BX7_head_0 20 rfl)
theorem dX7_head_33 : decode cX7_head 33 = .ok (.ireturn, 1) := dk_172 (bs_at BX7_head_0 21 rfl)
theorem BX7_setHead_0 : bsegs (ByteArray.data cX7_setHead |>.toList.drop 0) 0 [(0, [27]), (1, [8]), (2, [104]), (3, [28]), (4, [96]), (5, [54, 4]), (7, [27]), (8, [155, 0, 26]), (11, [21, 4]), (13, [155, 0, 21]), (16, [21, 4]), (18, [42]), (19, [180, 0, 9]), (22, [190]), (23, [162, 0, 11]), (26, [42]), (27, [180, 0, 9]), (30, [21, 4]), (32, [29]), (33, [79]), (34, [177])] = true := by decide +kernel
theorem dX7_setHead_0 : decode cX7_setHead 0 = .ok (.iload_n 1, 1) := dk_27 (bs_at BX7_setHead_0 0 rfl)
theorem dX7_setHead_1 : decode cX7_setHead 1 = .ok (.iconst 5, 1) := dk_8 (bs_at BX7_setHead_0 1 rfl)
theorem dX7_setHead_2 : decode cX7_setHead 2 = .ok (.imul, 1) := dk_104 (bs_at BX7_setHead_0 2 rfl)
theorem dX7_setHead_3 : decode cX7_setHead 3 = .ok (.iload_n 2, 1) := dk_28 (bs_at BX7_setHead_0 3 rfl)
theorem dX7_setHead_4 : decode cX7_setHead 4 = .ok (.iadd, 1) := dk_96 (bs_at BX7_setHead_0 4 rfl)
theorem dX7_setHead_5 : decode cX7_setHead 5 = .ok (.istore 4, 2) := dk_54 4 (bs_at BX7_setHead_0 5 rfl)
theorem dX7_setHead_7 : decode cX7_setHead 7 = .ok (.iload_n 1, 1) := dk_27 (bs_at BX7_setHead_0 6 rfl)
theorem dX7_setHead_8 : decode cX7_setHead 8 = .ok (.ifCond .lt 26, 3) := dk_155 0 26 (bs_at BX7_setHead_0 7 rfl) rfl
theorem dX7_setHead_11 : decode cX7_setHead 11 = .ok (.iload 4, 2) := dk_21 4 (bs_at BX7_setHead_0 8 rfl)
theorem dX7_setHead_13 : decode cX7_setHead 13 = .ok (.ifCond .lt 21, 3) := dk_155 0 21 (bs_at BX7_setHead_0 9 rfl) rfl
theorem dX7_setHead_16 : decode cX7_setHead 16 = .ok (.iload 4, 2) := dk_21 4 (bs_at BX7_setHead_0 10 rfl)
theorem dX7_setHead_18 : decode cX7_setHead 18 = .ok (.aload_n 0, 1) := dk_42 (bs_at BX7_setHead_0 11 rfl)
theorem dX7_setHead_19 : decode cX7_setHead 19 = .ok (.getfield 9, 3) := dk_180 0 9 (bs_at BX7_setHead_0 12 rfl) rfl
theorem dX7_setHead_22 : decode cX7_setHead 22 = .ok (.arraylength, 1) := dk_190 (bs_at BX7_setHead_0 13 rfl)
theorem dX7_setHead_23 : decode cX7_setHead 23 = .ok (.if_icmp .ge 11, 3) := dk_162 0 11 (bs_at BX7_setHead_0 14 rfl) rfl
theorem dX7_setHead_26 : decode cX7_setHead 26 = .ok (.aload_n 0, 1) := dk_42 (bs_at BX7_setHead_0 15 rfl)
theorem dX7_setHead_27 : decode cX7_setHead 27 = .ok (.getfield 9, 3) := dk_180 0 9 (bs_at BX7_setHead_0 16 rfl) rfl
theorem dX7_setHead_30 : decode cX7_setHead 30 = .ok (.iload 4, 2) := dk_21 4 (bs_at BX7_setHead_0 17 rfl)
theorem dX7_setHead_32 : decode cX7_setHead 32 = .ok (.iload_n 3, 1) := dk_29 (bs_at BX7_setHead_0 18 rfl)
theorem dX7_setHead_33 : decode cX7_setHead 33 = .ok (.iastore, 1) := dk_79 (bs_at BX7_setHead_0 19 rfl)
theorem dX7_setHead_34 : decode cX7_setHead 34 = .ok (.return_, 1) := dk_177 (bs_at BX7_setHead_0 20 rfl)
theorem BX7_open_0 : bsegs (ByteArray.data cX7_open |>.toList.drop 0) 0 [(0, [42]), (1, [27]), (2, [3]), (3, [28]), (4, [182, 0, 34]), (7, [42]), (8, [27]), (9, [4]), (10, [4]), (11, [182, 0, 34]), (14, [42]), (15, [27]), (16, [5]), (17, [2]), (18, [182, 0, 34]), (21, [42]), (22, [27]), (23, [6]), (24, [2]), (25, [182, 0, 34]), (28, [42]), (29, [27]), (30, [7]), (31, [2])] = true := by decide +kernel
theorem dX7_open_0 : decode cX7_open 0 = .ok (.aload_n 0, 1) := dk_42 (bs_at BX7_open_0 0 rfl)
theorem dX7_open_1 : decode cX7_open 1 = .ok (.iload_n 1, 1) := dk_27 (bs_at BX7_open_0 1 rfl)
theorem dX7_open_2 : decode cX7_open 2 = .ok (.iconst 0, 1) := dk_3 (bs_at BX7_open_0 2 rfl)
theorem dX7_open_3 : decode cX7_open 3 = .ok (.iload_n 2, 1) := dk_28 (bs_at BX7_open_0 3 rfl)
theorem dX7_open_4 : decode cX7_open 4 = .ok (.invokevirtual 34, 3) := dk_182 0 34 (bs_at BX7_open_0 4 rfl) rfl
theorem dX7_open_7 : decode cX7_open 7 = .ok (.aload_n 0, 1) := dk_42 (bs_at BX7_open_0 5 rfl)
theorem dX7_open_8 : decode cX7_open 8 = .ok (.iload_n 1, 1) := dk_27 (bs_at BX7_open_0 6 rfl)
theorem dX7_open_9 : decode cX7_open 9 = .ok (.iconst 1, 1) := dk_4 (bs_at BX7_open_0 7 rfl)
theorem dX7_open_10 : decode cX7_open 10 = .ok (.iconst 1, 1) := dk_4 (bs_at BX7_open_0 8 rfl)
theorem dX7_open_11 : decode cX7_open 11 = .ok (.invokevirtual 34, 3) := dk_182 0 34 (bs_at BX7_open_0 9 rfl) rfl
theorem dX7_open_14 : decode cX7_open 14 = .ok (.aload_n 0, 1) := dk_42 (bs_at BX7_open_0 10 rfl)
theorem dX7_open_15 : decode cX7_open 15 = .ok (.iload_n 1, 1) := dk_27 (bs_at BX7_open_0 11 rfl)
theorem dX7_open_16 : decode cX7_open 16 = .ok (.iconst 2, 1) := dk_5 (bs_at BX7_open_0 12 rfl)
theorem dX7_open_17 : decode cX7_open 17 = .ok (.iconst (-1), 1) := dk_2 (bs_at BX7_open_0 13 rfl)
theorem dX7_open_18 : decode cX7_open 18 = .ok (.invokevirtual 34, 3) := dk_182 0 34 (bs_at BX7_open_0 14 rfl) rfl
theorem dX7_open_21 : decode cX7_open 21 = .ok (.aload_n 0, 1) := dk_42 (bs_at BX7_open_0 15 rfl)
theorem dX7_open_22 : decode cX7_open 22 = .ok (.iload_n 1, 1) := dk_27 (bs_at BX7_open_0 16 rfl)
theorem dX7_open_23 : decode cX7_open 23 = .ok (.iconst 3, 1) := dk_6 (bs_at BX7_open_0 17 rfl)
theorem dX7_open_24 : decode cX7_open 24 = .ok (.iconst (-1), 1) := dk_2 (bs_at BX7_open_0 18 rfl)
theorem dX7_open_25 : decode cX7_open 25 = .ok (.invokevirtual 34, 3) := dk_182 0 34 (bs_at BX7_open_0 19 rfl) rfl
theorem dX7_open_28 : decode cX7_open 28 = .ok (.aload_n 0, 1) := dk_42 (bs_at BX7_open_0 20 rfl)
theorem dX7_open_29 : decode cX7_open 29 = .ok (.iload_n 1, 1) := dk_27 (bs_at BX7_open_0 21 rfl)
theorem dX7_open_30 : decode cX7_open 30 = .ok (.iconst 4, 1) := dk_7 (bs_at BX7_open_0 22 rfl)
theorem dX7_open_31 : decode cX7_open 31 = .ok (.iconst (-1), 1) := dk_2 (bs_at BX7_open_0 23 rfl)
theorem BX7_open_32 : bsegs (ByteArray.data cX7_open |>.toList.drop 32) 32 [(32, [182, 0, 34]), (35, [177])] = true := by decide +kernel
theorem dX7_open_32 : decode cX7_open 32 = .ok (.invokevirtual 34, 3) := dk_182 0 34 (bs_at BX7_open_32 0 rfl) rfl
theorem dX7_open_35 : decode cX7_open 35 = .ok (.return_, 1) := dk_177 (bs_at BX7_open_32 1 rfl)
theorem BX7_emit_0 : bsegs (ByteArray.data cX7_emit |>.toList.drop 0) 0 [(0, [42]), (1, [180, 0, 22]), (4, [4]), (5, [96]), (6, [42]), (7, [180, 0, 15]), (10, [190]), (11, [161, 0, 5]), (14, [2]), (15, [172]), (16, [42]), (17, [180, 0, 15]), (20, [42]), (21, [180, 0, 22]), (24, [27]), (25, [79]), (26, [42]), (27, [180, 0, 15]), (30, [42]), (31, [180, 0, 22]), (34, [4]), (35, [96]), (36, [28]), (37, [79])] = true := by decide +kernel
theorem dX7_emit_0 : decode cX7_emit 0 = .ok (.aload_n 0, 1) := dk_42 (bs_at BX7_emit_0 0 rfl)
theorem dX7_emit_1 : decode cX7_emit 1 = .ok (.getfield 22, 3) := dk_180 0 22 (bs_at BX7_emit_0 1 rfl) rfl
theorem dX7_emit_4 : decode cX7_emit 4 = .ok (.iconst 1, 1) := dk_4 (bs_at BX7_emit_0 2 rfl)
theorem dX7_emit_5 : decode cX7_emit 5 = .ok (.iadd, 1) := dk_96 (bs_at BX7_emit_0 3 rfl)
theorem dX7_emit_6 : decode cX7_emit 6 = .ok (.aload_n 0, 1) := dk_42 (bs_at BX7_emit_0 4 rfl)
theorem dX7_emit_7 : decode cX7_emit 7 = .ok (.getfield 15, 3) := dk_180 0 15 (bs_at BX7_emit_0 5 rfl) rfl
theorem dX7_emit_10 : decode cX7_emit 10 = .ok (.arraylength, 1) := dk_190 (bs_at BX7_emit_0 6 rfl)
theorem dX7_emit_11 : decode cX7_emit 11 = .ok (.if_icmp .lt 5, 3) := dk_161 0 5 (bs_at BX7_emit_0 7 rfl) rfl
theorem dX7_emit_14 : decode cX7_emit 14 = .ok (.iconst (-1), 1) := dk_2 (bs_at BX7_emit_0 8 rfl)
theorem dX7_emit_15 : decode cX7_emit 15 = .ok (.ireturn, 1) := dk_172 (bs_at BX7_emit_0 9 rfl)
theorem dX7_emit_16 : decode cX7_emit 16 = .ok (.aload_n 0, 1) := dk_42 (bs_at BX7_emit_0 10 rfl)
theorem dX7_emit_17 : decode cX7_emit 17 = .ok (.getfield 15, 3) := dk_180 0 15 (bs_at BX7_emit_0 11 rfl) rfl
theorem dX7_emit_20 : decode cX7_emit 20 = .ok (.aload_n 0, 1) := dk_42 (bs_at BX7_emit_0 12 rfl)
theorem dX7_emit_21 : decode cX7_emit 21 = .ok (.getfield 22, 3) := dk_180 0 22 (bs_at BX7_emit_0 13 rfl) rfl
theorem dX7_emit_24 : decode cX7_emit 24 = .ok (.iload_n 1, 1) := dk_27 (bs_at BX7_emit_0 14 rfl)
theorem dX7_emit_25 : decode cX7_emit 25 = .ok (.iastore, 1) := dk_79 (bs_at BX7_emit_0 15 rfl)
theorem dX7_emit_26 : decode cX7_emit 26 = .ok (.aload_n 0, 1) := dk_42 (bs_at BX7_emit_0 16 rfl)
theorem dX7_emit_27 : decode cX7_emit 27 = .ok (.getfield 15, 3) := dk_180 0 15 (bs_at BX7_emit_0 17 rfl) rfl
theorem dX7_emit_30 : decode cX7_emit 30 = .ok (.aload_n 0, 1) := dk_42 (bs_at BX7_emit_0 18 rfl)
theorem dX7_emit_31 : decode cX7_emit 31 = .ok (.getfield 22, 3) := dk_180 0 22 (bs_at BX7_emit_0 19 rfl) rfl
theorem dX7_emit_34 : decode cX7_emit 34 = .ok (.iconst 1, 1) := dk_4 (bs_at BX7_emit_0 20 rfl)
theorem dX7_emit_35 : decode cX7_emit 35 = .ok (.iadd, 1) := dk_96 (bs_at BX7_emit_0 21 rfl)
theorem dX7_emit_36 : decode cX7_emit 36 = .ok (.iload_n 2, 1) := dk_28 (bs_at BX7_emit_0 22 rfl)
theorem dX7_emit_37 : decode cX7_emit 37 = .ok (.iastore, 1) := dk_79 (bs_at BX7_emit_0 23 rfl)
theorem BX7_emit_38 : bsegs (ByteArray.data cX7_emit |>.toList.drop 38) 38 [(38, [42]), (39, [89]), (40, [180, 0, 22]), (43, [5]), (44, [96]), (45, [181, 0, 22]), (48, [42]), (49, [180, 0, 22]), (52, [5]), (53, [100]), (54, [172])] = true := by decide +kernel
theorem dX7_emit_38 : decode cX7_emit 38 = .ok (.aload_n 0, 1) := dk_42 (bs_at BX7_emit_38 0 rfl)
theorem dX7_emit_39 : decode cX7_emit 39 = .ok (.dup, 1) := dk_89 (bs_at BX7_emit_38 1 rfl)
theorem dX7_emit_40 : decode cX7_emit 40 = .ok (.getfield 22, 3) := dk_180 0 22 (bs_at BX7_emit_38 2 rfl) rfl
theorem dX7_emit_43 : decode cX7_emit 43 = .ok (.iconst 2, 1) := dk_5 (bs_at BX7_emit_38 3 rfl)
theorem dX7_emit_44 : decode cX7_emit 44 = .ok (.iadd, 1) := dk_96 (bs_at BX7_emit_38 4 rfl)
theorem dX7_emit_45 : decode cX7_emit 45 = .ok (.putfield 22, 3) := dk_181 0 22 (bs_at BX7_emit_38 5 rfl) rfl
theorem dX7_emit_48 : decode cX7_emit 48 = .ok (.aload_n 0, 1) := dk_42 (bs_at BX7_emit_38 6 rfl)
theorem dX7_emit_49 : decode cX7_emit 49 = .ok (.getfield 22, 3) := dk_180 0 22 (bs_at BX7_emit_38 7 rfl) rfl
theorem dX7_emit_52 : decode cX7_emit 52 = .ok (.iconst 2, 1) := dk_5 (bs_at BX7_emit_38 8 rfl)
theorem dX7_emit_53 : decode cX7_emit 53 = .ok (.isub, 1) := dk_100 (bs_at BX7_emit_38 9 rfl)
theorem dX7_emit_54 : decode cX7_emit 54 = .ok (.ireturn, 1) := dk_172 (bs_at BX7_emit_38 10 rfl)
theorem BX7_land_0 : bsegs (ByteArray.data cX7_land |>.toList.drop 0) 0 [(0, [27]), (1, [155, 0, 26]), (4, [27]), (5, [4]), (6, [96]), (7, [42]), (8, [180, 0, 15]), (11, [190]), (12, [162, 0, 15]), (15, [42]), (16, [180, 0, 15]), (19, [27]), (20, [4]), (21, [96]), (22, [42]), (23, [180, 0, 22]), (26, [79]), (27, [177])] = true := by decide +kernel
theorem dX7_land_0 : decode cX7_land 0 = .ok (.iload_n 1, 1) := dk_27 (bs_at BX7_land_0 0 rfl)
theorem dX7_land_1 : decode cX7_land 1 = .ok (.ifCond .lt 26, 3) := dk_155 0 26 (bs_at BX7_land_0 1 rfl) rfl
theorem dX7_land_4 : decode cX7_land 4 = .ok (.iload_n 1, 1) := dk_27 (bs_at BX7_land_0 2 rfl)
theorem dX7_land_5 : decode cX7_land 5 = .ok (.iconst 1, 1) := dk_4 (bs_at BX7_land_0 3 rfl)
theorem dX7_land_6 : decode cX7_land 6 = .ok (.iadd, 1) := dk_96 (bs_at BX7_land_0 4 rfl)
theorem dX7_land_7 : decode cX7_land 7 = .ok (.aload_n 0, 1) := dk_42 (bs_at BX7_land_0 5 rfl)
theorem dX7_land_8 : decode cX7_land 8 = .ok (.getfield 15, 3) := dk_180 0 15 (bs_at BX7_land_0 6 rfl) rfl
theorem dX7_land_11 : decode cX7_land 11 = .ok (.arraylength, 1) := dk_190 (bs_at BX7_land_0 7 rfl)
theorem dX7_land_12 : decode cX7_land 12 = .ok (.if_icmp .ge 15, 3) := dk_162 0 15 (bs_at BX7_land_0 8 rfl) rfl
theorem dX7_land_15 : decode cX7_land 15 = .ok (.aload_n 0, 1) := dk_42 (bs_at BX7_land_0 9 rfl)
theorem dX7_land_16 : decode cX7_land 16 = .ok (.getfield 15, 3) := dk_180 0 15 (bs_at BX7_land_0 10 rfl) rfl
theorem dX7_land_19 : decode cX7_land 19 = .ok (.iload_n 1, 1) := dk_27 (bs_at BX7_land_0 11 rfl)
theorem dX7_land_20 : decode cX7_land 20 = .ok (.iconst 1, 1) := dk_4 (bs_at BX7_land_0 12 rfl)
theorem dX7_land_21 : decode cX7_land 21 = .ok (.iadd, 1) := dk_96 (bs_at BX7_land_0 13 rfl)
theorem dX7_land_22 : decode cX7_land 22 = .ok (.aload_n 0, 1) := dk_42 (bs_at BX7_land_0 14 rfl)
theorem dX7_land_23 : decode cX7_land 23 = .ok (.getfield 22, 3) := dk_180 0 22 (bs_at BX7_land_0 15 rfl) rfl
theorem dX7_land_26 : decode cX7_land 26 = .ok (.iastore, 1) := dk_79 (bs_at BX7_land_0 16 rfl)
theorem dX7_land_27 : decode cX7_land 27 = .ok (.return_, 1) := dk_177 (bs_at BX7_land_0 17 rfl)
theorem ggX7_open_X7_setHead : GoodIn wsX7_open wsX7_setHead := gi_ch ch_X7_open ch_X7_setHead (by decide +kernel)
theorem gX7_open_X7_setHead : GoodIn wsX7_open (wsV RX7 34 RX7 yX7_setHead wsX7_setHead) := gi_ch ch_X7_open (ch_v [526, 527, 25, 148] rfl ch_X7_setHead) (by decide +kernel)
set_option maxRecDepth 100000 in
noncomputable def E_w_head (x : Int32) (y : Int32) (nh : Nat) (fh : Nat → Int32) : Int32 :=
  Lt (x * 5 : Int32) (fun x_73 => Lt (x_73 + y : Int32) (fun x_74 => if x < 0 then (((-1) : Int32)) else (if x_74 < 0 then (((-1) : Int32)) else (if (nI nh) ≤ x_74 then (((-1) : Int32)) else (Lt (fh (x_74 : Int32).toNatClampNeg : Int32) (fun x_78 => (x_78 : Int32)))))))
set_option maxHeartbeats 4000000 in
set_option maxRecDepth 100000 in
theorem w_head (l : Launch) (D : va_G) (K : Nat → ClassId) (a0 : Nat) (x : Int32) (y : Int32) (a1 : Nat) (s_1 : Value) (s_2 : Value) (s_3 : Value) (nh : Nat) (fh : Nat → Int32) (sz : Nat) (znh : nh < 1000000) (zfh : Rg nh (-1) 1000 fh) : Met l yX7_head wsX7_head ({ frames := 0, cells := 0, slots := 0, locals := 0 }) (va_Pc [.ref a0, .int x, .int y] (Pre D K [(a0, .inr (7, [.ref a1, s_1, s_2, s_3])), (a1, .inl (K 0, nh, .inl fh))] sz)) (vp_Si (fun r : Int32 => ((-1) ≤ r.toInt ∧ r.toInt ≤ 1000) ∧ (r = E_w_head x y nh fh) ∧ True)) 0 0 (fun _ => False) := by
  refine Met.ofW (cc := cX7_head) (maxL := 4) (ret := (some .int)) (by decide +kernel) rfl ?_
  intro p e s m args below meth c s₁ B hml hv
  obtain ⟨rfl, hsz, hP, hK, hD0, hN⟩ := hv
  have hx := B.exec
  have hb := B.bytes
  have hr := B.returns
  have hts := atoms_spec (ws := wsX7_head) B.pre
  have hown : s.vm.findClass RX7 = some m.cls := findClass_of_methodNamed B.named
  have hlocks := B.notSynchronized
  subst hsz
  have hD := hD0
  replace hP : va_P D vwCl [(a0, .inr (7, [.ref a1, s_1, s_2, s_3])), (a1, .inl (K 0, nh, .inl fh))] s.heap := hP
  have hl := lv_entry [.ref a0, .int x, .int y] (n := 4) (Nat.le_of_ble_eq_true rfl)
  rw [lg_entry_eq]
  generalize (lg_sl [.ref a0, .int x, .int y] ++ List.replicate (4 - (lg_sl [.ref a0, .int x, .int y]).length) Slot.unset).toArray = ls at hl ⊢
  have hl : lv_has ls 4 [(0, .ref a0), (1, .int x), (2, .int y)] := hl
  have hw7 : ∀ w ∈ wsX70, w ∈ wsX7_head := fun w h => (List.mem_cons_of_mem _ (List.mem_append_right _ h))
  generalize hQ : MQ below _ _ s _ _ _ = Q
  have hE := E_w_head.eq_def x y nh fh
  refine lv_iload_n hx hb dX7_head_0 rfl (lv_at hl 1 rfl) ?_
  refine lv_iconst (v := 5) hx hb dX7_head_1 (by decide +kernel) ?_
  refine lv_imul hx hb dX7_head_2 ?_
  refine lv_topi (fun x_73 ex_73 => ?_)
  replace hE := hE.trans (Lt_in ex_73)
  refine lv_iload_n hx hb dX7_head_3 rfl (lv_at hl 2 rfl) ?_
  refine lv_iadd hx hb dX7_head_4 ?_
  refine lv_topi (fun x_74 ex_74 => ?_)
  replace hE := hE.trans (Lt_in ex_74)
  refine lv_istore_n (lv' := [(3, .int x_74), (0, .ref a0), (1, .int x), (2, .int y)]) hx hb dX7_head_5 rfl hl (by decide +kernel) rfl (fun ls hl => ?_)
  refine lv_iload_n hx hb dX7_head_6 rfl (lv_at hl 2 rfl) ?_
  refine lv_if_lt (tgt := 32) hx hb dX7_head_7 (by decide +kernel) (fun c_75 => ?_) (fun c_75 => ?_)
  · have c_75i := i_lt (x := x.toInt) (y := 0) rfl rfl c_75
    replace hE := hE.trans (if_pos c_75)
    refine lv_iconst (v := (-1)) hx hb dX7_head_32 (by decide +kernel) ?_
    rw [← hQ]
    exact W.iret (v := (-1)) hx hb hr (fun t ht hW => ⟨_, rfl, ⟨(show (-1) ≤ ((-1) : Int32).toInt ∧ ((-1) : Int32).toInt ≤ 1000 by decide), hE.symm, trivial⟩, ht⟩) (fun q hq => by cases hq) dX7_head_33
  · have c_75i := i_nlt (x := x.toInt) (y := 0) rfl rfl c_75
    replace hE := hE.trans (if_neg c_75)
    refine lv_iload_n hx hb dX7_head_10 rfl (lv_at hl 0 rfl) ?_
    refine lv_if_lt (tgt := 32) hx hb dX7_head_11 (by decide +kernel) (fun c_76 => ?_) (fun c_76 => ?_)
    · have c_76i := i_lt (x := x_74.toInt) (y := 0) rfl rfl c_76
      replace hE := hE.trans (if_pos c_76)
      refine lv_iconst (v := (-1)) hx hb dX7_head_32 (by decide +kernel) ?_
      rw [← hQ]
      exact W.iret (v := (-1)) hx hb hr (fun t ht hW => ⟨_, rfl, ⟨(show (-1) ≤ ((-1) : Int32).toInt ∧ ((-1) : Int32).toInt ≤ 1000 by decide), hE.symm, trivial⟩, ht⟩) (fun q hq => by cases hq) dX7_head_33
    · have c_76i := i_nlt (x := x_74.toInt) (y := 0) rfl rfl c_76
      replace hE := hE.trans (if_neg c_76)
      refine lv_iload_n hx hb dX7_head_14 rfl (lv_at hl 0 rfl) ?_
      refine lv_aload_n hx hb dX7_head_15 rfl (lv_at hl 1 rfl) ?_
      refine va_get (ci := 7) (v := .ref a1) (C := RX7) (T := TX7) (N := 4) hx hb hts hw7 hown hK hP 0 rfl rfl 0 (by decide +kernel) (hts _ mm_X7_head_223) (fun _ h9 => h9) rfl dX7_head_16 ?_
      refine va_alen (v := (nI nh)) hx hb hK hP 1 0 rfl rfl rfl dX7_head_19 ?_
      refine lv_icmp_ge (tgt := 32) hx hb dX7_head_20 (by decide +kernel) (fun c_77 => ?_) (fun c_77 => ?_)
      · have c_77i := i_le (x := ((nh : Nat) : Int)) (y := x_74.toInt) (nI_toInt (by omega)) rfl c_77
        replace hE := hE.trans (if_pos c_77)
        refine lv_iconst (v := (-1)) hx hb dX7_head_32 (by decide +kernel) ?_
        rw [← hQ]
        exact W.iret (v := (-1)) hx hb hr (fun t ht hW => ⟨_, rfl, ⟨(show (-1) ≤ ((-1) : Int32).toInt ∧ ((-1) : Int32).toInt ≤ 1000 by decide), hE.symm, trivial⟩, ht⟩) (fun q hq => by cases hq) dX7_head_33
      · have c_77i := i_nle (x := ((nh : Nat) : Int)) (y := x_74.toInt) (nI_toInt (by omega)) rfl c_77
        replace hE := hE.trans (if_neg c_77)
        refine lv_aload_n hx hb dX7_head_23 rfl (lv_at hl 1 rfl) ?_
        refine va_get (ci := 7) (v := .ref a1) (C := RX7) (T := TX7) (N := 4) hx hb hts hw7 hown hK hP 0 rfl rfl 0 (by decide +kernel) (hts _ mm_X7_head_223) (fun _ h9 => h9) rfl dX7_head_24 ?_
        refine lv_iload_n hx hb dX7_head_27 rfl (lv_at hl 0 rfl) ?_
        refine va_iald hx hb hK hP 1 0 rfl rfl (i_in rfl (by omega)) dX7_head_28 ?_
        refine lv_topi (fun x_78 ex_78 => ?_)
        replace hE := hE.trans (Lt_in ex_78)
        have hx_78 := Rg.at zfh rfl (show 0 ≤ x_74.toInt ∧ x_74.toInt < _ by omega)
        rw [← ex_78] at hx_78
        refine lv_goto (tgt := 33) hx hb dX7_head_29 (by decide +kernel) ?_
        rw [← hQ]
        exact W.iret (v := x_78) hx hb hr (fun t ht hW => ⟨_, rfl, ⟨(show (-1) ≤ x_78.toInt ∧ x_78.toInt ≤ 1000 by omega), hE.symm, trivial⟩, ht⟩) (fun q hq => by cases hq) dX7_head_33
set_option maxRecDepth 100000 in
noncomputable def E_w_setHead (x : Int32) (y : Int32) (z : Int32) (fh : Nat → Int32) : (Nat → Int32) :=
  Lt (x * 5 : Int32) (fun x_73 => Lt (x_73 + y : Int32) (fun x_74 => if x < 0 then ((fh : (Nat → Int32))) else (if x_74 < 0 then ((fh : (Nat → Int32))) else (if 60 ≤ x_74 then ((fh : (Nat → Int32))) else (Lt (upd fh (x_74 : Int32).toNatClampNeg z : Nat → Int32) (fun f_78 => (f_78 : (Nat → Int32))))))))
set_option maxHeartbeats 4000000 in
set_option maxRecDepth 100000 in
theorem w_setHead (l : Launch) (D : va_G) (K : Nat → ClassId) (a0 : Nat) (x : Int32) (y : Int32) (z : Int32) (a1 : Nat) (s_1 : Value) (s_2 : Value) (s_3 : Value) (fh : Nat → Int32) (sz : Nat) (zz : (-1) ≤ z.toInt ∧ z.toInt ≤ 1000) (zfh : Rg 60 (-1) 1000 fh) : Met l yX7_setHead wsX7_setHead ({ frames := 0, cells := 0, slots := 0, locals := 0 }) (va_Pc [.ref a0, .int x, .int y, .int z] (Pre D K [(a0, .inr (7, [.ref a1, s_1, s_2, s_3])), (a1, .inl (K 0, 60, .inl fh))] sz)) (va_Qv (S := Su) (fun (u : Su) => (Rg 60 (-1) 1000 (u.2.1 0)) ∧ ((u.2.1 0) = E_w_setHead x y z fh) ∧ True) (fun u t => Wd D (va_A [(a0, .inr (7, [.ref a1, s_1, s_2, s_3])), (a1, .inl (K 0, 60, .inl fh))] sz) ((fun u => [(a0, .inr (7, [.ref a1, s_1, s_2, s_3])), (a1, .inl (K 0, 60, .inl (u.2.1 0)))]) u) t) (va_A [(a0, .inr (7, [.ref a1, s_1, s_2, s_3])), (a1, .inl (K 0, 60, .inl fh))] sz)) 0 0 (va_A [(a0, .inr (7, [.ref a1, s_1, s_2, s_3])), (a1, .inl (K 0, 60, .inl fh))] sz) := by
  refine Met.ofW (cc := cX7_setHead) (maxL := 5) (ret := none) (by decide +kernel) rfl ?_
  intro p e s m args below meth c s₁ B hml hv
  obtain ⟨rfl, hsz, hP, hK, hD0, hN⟩ := hv
  have hx := B.exec
  have hb := B.bytes
  have hr := B.returns
  have hts := atoms_spec (ws := wsX7_setHead) B.pre
  have hown : s.vm.findClass RX7 = some m.cls := findClass_of_methodNamed B.named
  have hlocks := B.notSynchronized
  subst hsz
  have hD := hD0.self (sz := s.heap.size)
  generalize hAe : va_A [(a0, .inr (7, [.ref a1, s_1, s_2, s_3])), (a1, .inl (K 0, 60, .inl fh))] s.heap.size = A at hD ⊢
  have hA : ∀ q : Nat, s.heap.size ≤ q → A q := fun q h => by rw [← hAe]; exact Or.inr h
  clear hAe
  have hS : va_S A s.heap s.heap [] := va_S.rf
  replace hP : va_P D vwCl [(a0, .inr (7, [.ref a1, s_1, s_2, s_3])), (a1, .inl (K 0, 60, .inl fh))] s.heap := hP
  have hl := lv_entry [.ref a0, .int x, .int y, .int z] (n := 5) (Nat.le_of_ble_eq_true rfl)
  rw [lg_entry_eq]
  generalize (lg_sl [.ref a0, .int x, .int y, .int z] ++ List.replicate (5 - (lg_sl [.ref a0, .int x, .int y, .int z]).length) Slot.unset).toArray = ls at hl ⊢
  have hl : lv_has ls 5 [(0, .ref a0), (1, .int x), (2, .int y), (3, .int z)] := hl
  have hw7 : ∀ w ∈ wsX70, w ∈ wsX7_setHead := fun w h => (List.mem_cons_of_mem _ (List.mem_append_right _ h))
  generalize hQ : MQ below _ _ s _ _ _ = Q
  have hE := E_w_setHead.eq_def x y z fh
  refine lv_iload_n hx hb dX7_setHead_0 rfl (lv_at hl 1 rfl) ?_
  refine lv_iconst (v := 5) hx hb dX7_setHead_1 (by decide +kernel) ?_
  refine lv_imul hx hb dX7_setHead_2 ?_
  refine lv_topi (fun x_73 ex_73 => ?_)
  replace hE := hE.trans (Lt_in ex_73)
  refine lv_iload_n hx hb dX7_setHead_3 rfl (lv_at hl 2 rfl) ?_
  refine lv_iadd hx hb dX7_setHead_4 ?_
  refine lv_topi (fun x_74 ex_74 => ?_)
  replace hE := hE.trans (Lt_in ex_74)
  refine lv_istore (lv' := [(4, .int x_74), (0, .ref a0), (1, .int x), (2, .int y), (3, .int z)]) hx hb dX7_setHead_5 hl (by decide +kernel) rfl (fun ls hl => ?_)
  refine lv_iload_n hx hb dX7_setHead_7 rfl (lv_at hl 2 rfl) ?_
  refine lv_if_lt (tgt := 34) hx hb dX7_setHead_8 (by decide +kernel) (fun c_75 => ?_) (fun c_75 => ?_)
  · have c_75i := i_lt (x := x.toInt) (y := 0) rfl rfl c_75
    replace hE := hE.trans (if_pos c_75)
    rw [← hQ]
    have hP9 := hP.sub (ws' := [(a0, .inr (7, [.ref a1, s_1, s_2, s_3])), (a1, .inl (K 0, 60, .inl fh))]) [0, 1] rfl
    have hD9 := hD.sub (ws' := [(a0, .inr (7, [.ref a1, s_1, s_2, s_3])), (a1, .inl (K 0, 60, .inl fh))]) [0, 1] (by decide +kernel) rfl
    exact W.vret hx hb hr (fun t ht hW => ⟨⟨((fun _ => 0, fun i => match i with | _ => fh, fun _ => fun _ => 0, fun _ => 0, fun _ => 0, fun _ => fun _ => none) : Su), rfl, ⟨zfh, hE.symm, trivial⟩, (⟨by rw [ht]; exact hP9, hD9⟩ : Wd D A _ t)⟩, hS.F ht⟩) hS.2.2 dX7_setHead_34
  · have c_75i := i_nlt (x := x.toInt) (y := 0) rfl rfl c_75
    replace hE := hE.trans (if_neg c_75)
    refine lv_iload hx hb dX7_setHead_11 (lv_at hl 0 rfl) ?_
    refine lv_if_lt (tgt := 34) hx hb dX7_setHead_13 (by decide +kernel) (fun c_76 => ?_) (fun c_76 => ?_)
    · have c_76i := i_lt (x := x_74.toInt) (y := 0) rfl rfl c_76
      replace hE := hE.trans (if_pos c_76)
      rw [← hQ]
      have hP9 := hP.sub (ws' := [(a0, .inr (7, [.ref a1, s_1, s_2, s_3])), (a1, .inl (K 0, 60, .inl fh))]) [0, 1] rfl
      have hD9 := hD.sub (ws' := [(a0, .inr (7, [.ref a1, s_1, s_2, s_3])), (a1, .inl (K 0, 60, .inl fh))]) [0, 1] (by decide +kernel) rfl
      exact W.vret hx hb hr (fun t ht hW => ⟨⟨((fun _ => 0, fun i => match i with | _ => fh, fun _ => fun _ => 0, fun _ => 0, fun _ => 0, fun _ => fun _ => none) : Su), rfl, ⟨zfh, hE.symm, trivial⟩, (⟨by rw [ht]; exact hP9, hD9⟩ : Wd D A _ t)⟩, hS.F ht⟩) hS.2.2 dX7_setHead_34
    · have c_76i := i_nlt (x := x_74.toInt) (y := 0) rfl rfl c_76
      replace hE := hE.trans (if_neg c_76)
      refine lv_iload hx hb dX7_setHead_16 (lv_at hl 0 rfl) ?_
      refine lv_aload_n hx hb dX7_setHead_18 rfl (lv_at hl 1 rfl) ?_
      refine va_get (ci := 7) (v := .ref a1) (C := RX7) (T := TX7) (N := 4) hx hb hts hw7 hown hK hP 0 rfl rfl 0 (by decide +kernel) (hts _ mm_X7_setHead_223) (fun _ h9 => h9) rfl dX7_setHead_19 ?_
      refine va_alen (v := 60) hx hb hK hP 1 0 rfl rfl rfl dX7_setHead_22 ?_
      refine lv_icmp_ge (tgt := 34) hx hb dX7_setHead_23 (by decide +kernel) (fun c_77 => ?_) (fun c_77 => ?_)
      · have c_77i := i_le (x := 60) (y := x_74.toInt) rfl rfl c_77
        replace hE := hE.trans (if_pos c_77)
        rw [← hQ]
        have hP9 := hP.sub (ws' := [(a0, .inr (7, [.ref a1, s_1, s_2, s_3])), (a1, .inl (K 0, 60, .inl fh))]) [0, 1] rfl
        have hD9 := hD.sub (ws' := [(a0, .inr (7, [.ref a1, s_1, s_2, s_3])), (a1, .inl (K 0, 60, .inl fh))]) [0, 1] (by decide +kernel) rfl
        exact W.vret hx hb hr (fun t ht hW => ⟨⟨((fun _ => 0, fun i => match i with | _ => fh, fun _ => fun _ => 0, fun _ => 0, fun _ => 0, fun _ => fun _ => none) : Su), rfl, ⟨zfh, hE.symm, trivial⟩, (⟨by rw [ht]; exact hP9, hD9⟩ : Wd D A _ t)⟩, hS.F ht⟩) hS.2.2 dX7_setHead_34
      · have c_77i := i_nle (x := 60) (y := x_74.toInt) rfl rfl c_77
        replace hE := hE.trans (if_neg c_77)
        refine lv_aload_n hx hb dX7_setHead_26 rfl (lv_at hl 1 rfl) ?_
        refine va_get (ci := 7) (v := .ref a1) (C := RX7) (T := TX7) (N := 4) hx hb hts hw7 hown hK hP 0 rfl rfl 0 (by decide +kernel) (hts _ mm_X7_setHead_223) (fun _ h9 => h9) rfl dX7_setHead_27 ?_
        refine lv_iload hx hb dX7_setHead_30 (lv_at hl 0 rfl) ?_
        refine lv_iload_n hx hb dX7_setHead_32 rfl (lv_at hl 4 rfl) ?_
        refine va_iast hx hb hK hP hD hS 1 0 rfl rfl (i_in rfl (by omega)) dX7_setHead_33 (fun H locs hP0 hD0 hS0 => ?_)
        clear hP hD hS
        have hP := hP0
        have hD := hD0
        have hS := hS0
        clear hP0 hD0 hS0
        generalize hf_78 : (upd fh (x_74 : Int32).toNatClampNeg z) = f_78 at hP hD
        replace hE := hE.trans (Lt_in hf_78.symm)
        have hf_78_0 : Rg 60 (-1) 1000 f_78 := by rw [← hf_78]; exact Rg.upd zfh rfl (by omega)
        replace hP : va_P D vwCl [(a0, .inr (7, [.ref a1, s_1, s_2, s_3])), (a1, .inl (K 0, 60, .inl f_78))] H := hP
        replace hD : va_D A [(a0, .inr (7, [.ref a1, s_1, s_2, s_3])), (a1, .inl (K 0, 60, .inl f_78))] := hD
        rw [← hQ]
        have hP9 := hP.sub (ws' := [(a0, .inr (7, [.ref a1, s_1, s_2, s_3])), (a1, .inl (K 0, 60, .inl f_78))]) [0, 1] rfl
        have hD9 := hD.sub (ws' := [(a0, .inr (7, [.ref a1, s_1, s_2, s_3])), (a1, .inl (K 0, 60, .inl f_78))]) [0, 1] (by decide +kernel) rfl
        exact W.vret hx hb hr (fun t ht hW => ⟨⟨((fun _ => 0, fun i => match i with | _ => f_78, fun _ => fun _ => 0, fun _ => 0, fun _ => 0, fun _ => fun _ => none) : Su), rfl, ⟨hf_78_0, hE.symm, trivial⟩, (⟨by rw [ht]; exact hP9, hD9⟩ : Wd D A _ t)⟩, hS.F ht⟩) hS.2.2 dX7_setHead_34
set_option maxRecDepth 100000 in
noncomputable def E_w_open (x : Int32) (y : Int32) (fh : Nat → Int32) : (Nat → Int32) :=
  Lt (E_w_setHead x 0 y fh) (fun u_102_2_1_0 => Lt (E_w_setHead x 1 1 u_102_2_1_0) (fun u_106_2_1_0 => Lt (E_w_setHead x 2 (-1) u_106_2_1_0) (fun u_110_2_1_0 => Lt (E_w_setHead x 3 (-1) u_110_2_1_0) (fun u_114_2_1_0 => Lt (E_w_setHead x 4 (-1) u_114_2_1_0) (fun u_118_2_1_0 => (u_118_2_1_0 : (Nat → Int32)))))))
set_option maxHeartbeats 4000000 in
set_option maxRecDepth 100000 in
theorem w_open (l : Launch) (D : va_G) (K : Nat → ClassId) (a0 : Nat) (x : Int32) (y : Int32) (a1 : Nat) (s_1 : Value) (s_2 : Value) (s_3 : Value) (fh : Nat → Int32) (sz : Nat) (zy : 0 ≤ y.toInt ∧ y.toInt ≤ 3) (zfh : Rg 60 (-1) 1000 fh) : Met l yX7_open wsX7_open ({ frames := 1, cells := 0, slots := 0, locals := 24 }) (va_Pc [.ref a0, .int x, .int y] (Pre D K [(a0, .inr (7, [.ref a1, s_1, s_2, s_3])), (a1, .inl (K 0, 60, .inl fh))] sz)) (va_Qv (S := Su) (fun (u : Su) => (Rg 60 (-1) 1000 (u.2.1 0)) ∧ ((u.2.1 0) = E_w_open x y fh) ∧ True) (fun u t => Wd D (va_A [(a0, .inr (7, [.ref a1, s_1, s_2, s_3])), (a1, .inl (K 0, 60, .inl fh))] sz) ((fun u => [(a0, .inr (7, [.ref a1, s_1, s_2, s_3])), (a1, .inl (K 0, 60, .inl (u.2.1 0)))]) u) t) (va_A [(a0, .inr (7, [.ref a1, s_1, s_2, s_3])), (a1, .inl (K 0, 60, .inl fh))] sz)) 0 0 (va_A [(a0, .inr (7, [.ref a1, s_1, s_2, s_3])), (a1, .inl (K 0, 60, .inl fh))] sz) := by
  refine Met.ofW (cc := cX7_open) (maxL := 3) (ret := none) (by decide +kernel) rfl ?_
  intro p e s m args below meth c s₁ B hml hv
  obtain ⟨rfl, hsz, hP, hK, hD0, hN⟩ := hv
  have hx := B.exec
  have hb := B.bytes
  have hr := B.returns
  have hts := atoms_spec (ws := wsX7_open) B.pre
  have hown : s.vm.findClass RX7 = some m.cls := findClass_of_methodNamed B.named
  have hlocks := B.notSynchronized
  subst hsz
  have hD := hD0.self (sz := s.heap.size)
  generalize hAe : va_A [(a0, .inr (7, [.ref a1, s_1, s_2, s_3])), (a1, .inl (K 0, 60, .inl fh))] s.heap.size = A at hD ⊢
  have hA : ∀ q : Nat, s.heap.size ≤ q → A q := fun q h => by rw [← hAe]; exact Or.inr h
  clear hAe
  have hS : va_S A s.heap s.heap [] := va_S.rf
  replace hP : va_P D vwCl [(a0, .inr (7, [.ref a1, s_1, s_2, s_3])), (a1, .inl (K 0, 60, .inl fh))] s.heap := hP
  have hl := lv_entry [.ref a0, .int x, .int y] (n := 3) (Nat.le_of_ble_eq_true rfl)
  rw [lg_entry_eq]
  generalize (lg_sl [.ref a0, .int x, .int y] ++ List.replicate (3 - (lg_sl [.ref a0, .int x, .int y]).length) Slot.unset).toArray = ls at hl ⊢
  have hl : lv_has ls 3 [(0, .ref a0), (1, .int x), (2, .int y)] := hl
  have hw7 : ∀ w ∈ wsX70, w ∈ wsX7_open := fun w h => (List.mem_cons_of_mem _ (List.mem_append_right _ h))
  generalize hQ : MQ below _ _ s _ _ _ = Q
  have hE := E_w_open.eq_def x y fh
  refine lv_aload_n hx hb dX7_open_0 rfl (lv_at hl 0 rfl) ?_
  refine lv_iload_n hx hb dX7_open_1 rfl (lv_at hl 1 rfl) ?_
  refine lv_iconst (v := 0) hx hb dX7_open_2 (by decide +kernel) ?_
  refine lv_iload_n hx hb dX7_open_3 rfl (lv_at hl 2 rfl) ?_
  refine kcv (S := Su) (wr := []) (va_runV (As := [.int x, .int 0, .int y]) (rest := []) ⟨hx, hb, hml, hown, hts⟩ (w_setHead l D K a0 x 0 y a1 s_1 s_2 s_3 fh s.heap.size (by first | omega | decide) zfh) (cwV 3 hts gX7_open_X7_setHead rfl rfl rfl (by decide +kernel) ⟨Nat.le_of_ble_eq_true rfl, Nat.le_of_ble_eq_true rfl⟩) (mkV hK hN (hP.sub [0, 1] rfl) (hD.sub [0, 1] (by decide +kernel) rfl) (ci := 7) (q0 := 0) rfl rfl) rfl rfl hl.1 rfl (lv_room (Nat.le_of_ble_eq_true rfl)) dX7_open_4 ⟨Nat.le_of_ble_eq_true rfl, Nat.le_of_ble_eq_true rfl⟩) hP hD hS hA [0, 1] [] rfl rfl (by decide +kernel) (by decide +kernel) (fun u_102 H locs hw hP0 hD0 hS0 => ?_)
  clear hP hD hS
  have hP := hP0
  have hD := hD0
  have hS := hS0
  clear hP0 hD0 hS0
  replace hP : va_P D vwCl [(a0, .inr (7, [.ref a1, s_1, s_2, s_3])), (a1, .inl (K 0, 60, .inl (u_102.2.1 0)))] H := hP
  replace hD : va_D A [(a0, .inr (7, [.ref a1, s_1, s_2, s_3])), (a1, .inl (K 0, 60, .inl (u_102.2.1 0)))] := hD
  obtain ⟨k_103, k_104, -⟩ := hw
  replace hE := hE.trans (Lt_in k_104)
  refine lv_aload_n hx hb dX7_open_7 rfl (lv_at hl 0 rfl) ?_
  refine lv_iload_n hx hb dX7_open_8 rfl (lv_at hl 1 rfl) ?_
  refine lv_iconst (v := 1) hx hb dX7_open_9 (by decide +kernel) ?_
  refine lv_iconst (v := 1) hx hb dX7_open_10 (by decide +kernel) ?_
  refine kcv (S := Su) (wr := []) (va_runV (As := [.int x, .int 1, .int 1]) (rest := []) ⟨hx, hb, hml, hown, hts⟩ (w_setHead l D K a0 x 1 1 a1 s_1 s_2 s_3 (u_102.2.1 0) H.size (by first | omega | decide) k_103) (cwV 3 hts gX7_open_X7_setHead rfl rfl rfl (by decide +kernel) ⟨Nat.le_of_ble_eq_true rfl, Nat.le_of_ble_eq_true rfl⟩) (mkV hK hN (hP.sub [0, 1] rfl) (hD.sub [0, 1] (by decide +kernel) rfl) (ci := 7) (q0 := 0) rfl rfl) rfl rfl hl.1 rfl (lv_room (Nat.le_of_ble_eq_true rfl)) dX7_open_11 ⟨Nat.le_of_ble_eq_true rfl, Nat.le_of_ble_eq_true rfl⟩) hP hD hS hA [0, 1] [] rfl rfl (by decide +kernel) (by decide +kernel) (fun u_106 H locs hw hP0 hD0 hS0 => ?_)
  clear hP hD hS
  have hP := hP0
  have hD := hD0
  have hS := hS0
  clear hP0 hD0 hS0
  replace hP : va_P D vwCl [(a0, .inr (7, [.ref a1, s_1, s_2, s_3])), (a1, .inl (K 0, 60, .inl (u_106.2.1 0)))] H := hP
  replace hD : va_D A [(a0, .inr (7, [.ref a1, s_1, s_2, s_3])), (a1, .inl (K 0, 60, .inl (u_106.2.1 0)))] := hD
  obtain ⟨k_107, k_108, -⟩ := hw
  replace hE := hE.trans (Lt_in k_108)
  refine lv_aload_n hx hb dX7_open_14 rfl (lv_at hl 0 rfl) ?_
  refine lv_iload_n hx hb dX7_open_15 rfl (lv_at hl 1 rfl) ?_
  refine lv_iconst (v := 2) hx hb dX7_open_16 (by decide +kernel) ?_
  refine lv_iconst (v := (-1)) hx hb dX7_open_17 (by decide +kernel) ?_
  refine kcv (S := Su) (wr := []) (va_runV (As := [.int x, .int 2, .int (-1)]) (rest := []) ⟨hx, hb, hml, hown, hts⟩ (w_setHead l D K a0 x 2 (-1) a1 s_1 s_2 s_3 (u_106.2.1 0) H.size (by first | omega | decide) k_107) (cwV 3 hts gX7_open_X7_setHead rfl rfl rfl (by decide +kernel) ⟨Nat.le_of_ble_eq_true rfl, Nat.le_of_ble_eq_true rfl⟩) (mkV hK hN (hP.sub [0, 1] rfl) (hD.sub [0, 1] (by decide +kernel) rfl) (ci := 7) (q0 := 0) rfl rfl) rfl rfl hl.1 rfl (lv_room (Nat.le_of_ble_eq_true rfl)) dX7_open_18 ⟨Nat.le_of_ble_eq_true rfl, Nat.le_of_ble_eq_true rfl⟩) hP hD hS hA [0, 1] [] rfl rfl (by decide +kernel) (by decide +kernel) (fun u_110 H locs hw hP0 hD0 hS0 => ?_)
  clear hP hD hS
  have hP := hP0
  have hD := hD0
  have hS := hS0
  clear hP0 hD0 hS0
  replace hP : va_P D vwCl [(a0, .inr (7, [.ref a1, s_1, s_2, s_3])), (a1, .inl (K 0, 60, .inl (u_110.2.1 0)))] H := hP
  replace hD : va_D A [(a0, .inr (7, [.ref a1, s_1, s_2, s_3])), (a1, .inl (K 0, 60, .inl (u_110.2.1 0)))] := hD
  obtain ⟨k_111, k_112, -⟩ := hw
  replace hE := hE.trans (Lt_in k_112)
  refine lv_aload_n hx hb dX7_open_21 rfl (lv_at hl 0 rfl) ?_
  refine lv_iload_n hx hb dX7_open_22 rfl (lv_at hl 1 rfl) ?_
  refine lv_iconst (v := 3) hx hb dX7_open_23 (by decide +kernel) ?_
  refine lv_iconst (v := (-1)) hx hb dX7_open_24 (by decide +kernel) ?_
  refine kcv (S := Su) (wr := []) (va_runV (As := [.int x, .int 3, .int (-1)]) (rest := []) ⟨hx, hb, hml, hown, hts⟩ (w_setHead l D K a0 x 3 (-1) a1 s_1 s_2 s_3 (u_110.2.1 0) H.size (by first | omega | decide) k_111) (cwV 3 hts gX7_open_X7_setHead rfl rfl rfl (by decide +kernel) ⟨Nat.le_of_ble_eq_true rfl, Nat.le_of_ble_eq_true rfl⟩) (mkV hK hN (hP.sub [0, 1] rfl) (hD.sub [0, 1] (by decide +kernel) rfl) (ci := 7) (q0 := 0) rfl rfl) rfl rfl hl.1 rfl (lv_room (Nat.le_of_ble_eq_true rfl)) dX7_open_25 ⟨Nat.le_of_ble_eq_true rfl, Nat.le_of_ble_eq_true rfl⟩) hP hD hS hA [0, 1] [] rfl rfl (by decide +kernel) (by decide +kernel) (fun u_114 H locs hw hP0 hD0 hS0 => ?_)
  clear hP hD hS
  have hP := hP0
  have hD := hD0
  have hS := hS0
  clear hP0 hD0 hS0
  replace hP : va_P D vwCl [(a0, .inr (7, [.ref a1, s_1, s_2, s_3])), (a1, .inl (K 0, 60, .inl (u_114.2.1 0)))] H := hP
  replace hD : va_D A [(a0, .inr (7, [.ref a1, s_1, s_2, s_3])), (a1, .inl (K 0, 60, .inl (u_114.2.1 0)))] := hD
  obtain ⟨k_115, k_116, -⟩ := hw
  replace hE := hE.trans (Lt_in k_116)
  refine lv_aload_n hx hb dX7_open_28 rfl (lv_at hl 0 rfl) ?_
  refine lv_iload_n hx hb dX7_open_29 rfl (lv_at hl 1 rfl) ?_
  refine lv_iconst (v := 4) hx hb dX7_open_30 (by decide +kernel) ?_
  refine lv_iconst (v := (-1)) hx hb dX7_open_31 (by decide +kernel) ?_
  refine kcv (S := Su) (wr := []) (va_runV (As := [.int x, .int 4, .int (-1)]) (rest := []) ⟨hx, hb, hml, hown, hts⟩ (w_setHead l D K a0 x 4 (-1) a1 s_1 s_2 s_3 (u_114.2.1 0) H.size (by first | omega | decide) k_115) (cwV 3 hts gX7_open_X7_setHead rfl rfl rfl (by decide +kernel) ⟨Nat.le_of_ble_eq_true rfl, Nat.le_of_ble_eq_true rfl⟩) (mkV hK hN (hP.sub [0, 1] rfl) (hD.sub [0, 1] (by decide +kernel) rfl) (ci := 7) (q0 := 0) rfl rfl) rfl rfl hl.1 rfl (lv_room (Nat.le_of_ble_eq_true rfl)) dX7_open_32 ⟨Nat.le_of_ble_eq_true rfl, Nat.le_of_ble_eq_true rfl⟩) hP hD hS hA [0, 1] [] rfl rfl (by decide +kernel) (by decide +kernel) (fun u_118 H locs hw hP0 hD0 hS0 => ?_)
  clear hP hD hS
  have hP := hP0
  have hD := hD0
  have hS := hS0
  clear hP0 hD0 hS0
  replace hP : va_P D vwCl [(a0, .inr (7, [.ref a1, s_1, s_2, s_3])), (a1, .inl (K 0, 60, .inl (u_118.2.1 0)))] H := hP
  replace hD : va_D A [(a0, .inr (7, [.ref a1, s_1, s_2, s_3])), (a1, .inl (K 0, 60, .inl (u_118.2.1 0)))] := hD
  obtain ⟨k_119, k_120, -⟩ := hw
  replace hE := hE.trans (Lt_in k_120)
  rw [← hQ]
  have hP9 := hP.sub (ws' := [(a0, .inr (7, [.ref a1, s_1, s_2, s_3])), (a1, .inl (K 0, 60, .inl (u_118.2.1 0)))]) [0, 1] rfl
  have hD9 := hD.sub (ws' := [(a0, .inr (7, [.ref a1, s_1, s_2, s_3])), (a1, .inl (K 0, 60, .inl (u_118.2.1 0)))]) [0, 1] (by decide +kernel) rfl
  exact W.vret hx hb hr (fun t ht hW => ⟨⟨((fun _ => 0, fun i => match i with | _ => (u_118.2.1 0), fun _ => fun _ => 0, fun _ => 0, fun _ => 0, fun _ => fun _ => none) : Su), rfl, ⟨k_119, hE.symm, trivial⟩, (⟨by rw [ht]; exact hP9, hD9⟩ : Wd D A _ t)⟩, hS.F ht⟩) hS.2.2 dX7_open_35
set_option maxRecDepth 100000 in
noncomputable def E_w_emit (x : Int32) (y : Int32) (us : Int32) (fc : Nat → Int32) : Int32 × Int32 × (Nat → Int32) :=
  Lt (us + 1 : Int32) (fun x_75 => if x_75 < 800 then (Lt (upd fc (us : Int32).toNatClampNeg x : Nat → Int32) (fun f_77 => Lt (us + 1 : Int32) (fun x_78 => Lt (upd f_77 (x_78 : Int32).toNatClampNeg y : Nat → Int32) (fun f_79 => Lt (us + 2 : Int32) (fun x_80 => Lt (x_80 - 2 : Int32) (fun x_81 => ((x_81, x_80, f_79) : Int32 × Int32 × (Nat → Int32)))))))) else ((((-1), us, fc) : Int32 × Int32 × (Nat → Int32))))
set_option maxHeartbeats 4000000 in
set_option maxRecDepth 100000 in
theorem w_emit (l : Launch) (D : va_G) (K : Nat → ClassId) (a0 : Nat) (x : Int32) (y : Int32) (a1 : Nat) (a2 : Nat) (s_2 : Value) (us : Int32) (fc : Nat → Int32) (sz : Nat) (zus : 0 ≤ us.toInt ∧ us.toInt ≤ 800) (zx : 0 ≤ x.toInt ∧ x.toInt ≤ 1000) (zy : 0 ≤ y.toInt ∧ y.toInt ≤ 1000) (zfc : Rg 800 0 1000 fc) : Met l yX7_emit wsX7_emit ({ frames := 0, cells := 0, slots := 0, locals := 0 }) (va_Pc [.ref a0, .int x, .int y] (Pre D K [(a0, .inr (7, [.ref a1, .ref a2, s_2, .int us])), (a2, .inl (K 0, 800, .inl fc))] sz)) (va_Qi (S := Su) (fun (r : Int32) (u : Su) => ((-1) ≤ r.toInt ∧ r.toInt ≤ 798) ∧ (2 ≤ (u.2.2.2.1 0).toInt ∧ (u.2.2.2.1 0).toInt ≤ 800) ∧ (Rg 800 0 1000 (u.2.1 0)) ∧ ((r, (u.2.2.2.1 0), (u.2.1 0)) = E_w_emit x y us fc) ∧ True) (fun u t => Wd D (va_A [(a0, .inr (7, [.ref a1, .ref a2, s_2, .int us])), (a2, .inl (K 0, 800, .inl fc))] sz) ((fun u => [(a0, .inr (7, [.ref a1, .ref a2, s_2, .int (u.2.2.2.1 0)])), (a2, .inl (K 0, 800, .inl (u.2.1 0)))]) u) t) (va_A [(a0, .inr (7, [.ref a1, .ref a2, s_2, .int us])), (a2, .inl (K 0, 800, .inl fc))] sz)) 0 0 (va_A [(a0, .inr (7, [.ref a1, .ref a2, s_2, .int us])), (a2, .inl (K 0, 800, .inl fc))] sz) := by
  refine Met.ofW (cc := cX7_emit) (maxL := 3) (ret := (some .int)) (by decide +kernel) rfl ?_
  intro p e s m args below meth c s₁ B hml hv
  obtain ⟨rfl, hsz, hP, hK, hD0, hN⟩ := hv
  have hx := B.exec
  have hb := B.bytes
  have hr := B.returns
  have hts := atoms_spec (ws := wsX7_emit) B.pre
  have hown : s.vm.findClass RX7 = some m.cls := findClass_of_methodNamed B.named
  have hlocks := B.notSynchronized
  subst hsz
  have hD := hD0.self (sz := s.heap.size)
  generalize hAe : va_A [(a0, .inr (7, [.ref a1, .ref a2, s_2, .int us])), (a2, .inl (K 0, 800, .inl fc))] s.heap.size = A at hD ⊢
  have hA : ∀ q : Nat, s.heap.size ≤ q → A q := fun q h => by rw [← hAe]; exact Or.inr h
  clear hAe
  have hS : va_S A s.heap s.heap [] := va_S.rf
  replace hP : va_P D vwCl [(a0, .inr (7, [.ref a1, .ref a2, s_2, .int us])), (a2, .inl (K 0, 800, .inl fc))] s.heap := hP
  have hl := lv_entry [.ref a0, .int x, .int y] (n := 3) (Nat.le_of_ble_eq_true rfl)
  rw [lg_entry_eq]
  generalize (lg_sl [.ref a0, .int x, .int y] ++ List.replicate (3 - (lg_sl [.ref a0, .int x, .int y]).length) Slot.unset).toArray = ls at hl ⊢
  have hl : lv_has ls 3 [(0, .ref a0), (1, .int x), (2, .int y)] := hl
  have hw7 : ∀ w ∈ wsX70, w ∈ wsX7_emit := fun w h => (List.mem_cons_of_mem _ (List.mem_append_right _ h))
  generalize hQ : MQ below _ _ s _ _ _ = Q
  have hE := E_w_emit.eq_def x y us fc
  refine lv_aload_n hx hb dX7_emit_0 rfl (lv_at hl 0 rfl) ?_
  refine va_get (ci := 7) (v := .int us) (C := RX7) (T := TX7) (N := 4) hx hb hts hw7 hown hK hP 0 rfl rfl 3 (by decide +kernel) (hts _ mm_X7_emit_226) (fun _ h9 => h9) rfl dX7_emit_1 ?_
  refine lv_iconst (v := 1) hx hb dX7_emit_4 (by decide +kernel) ?_
  refine lv_iadd hx hb dX7_emit_5 ?_
  refine lv_topi (fun x_75 ex_75 => ?_)
  replace hE := hE.trans (Lt_in ex_75)
  have hx_75 : x_75.toInt = (us.toInt + 1) := by rw [ex_75]; exact i_add rfl (show (1 : Int32).toInt = 1 from rfl) (by omega)
  refine lv_aload_n hx hb dX7_emit_6 rfl (lv_at hl 0 rfl) ?_
  refine va_get (ci := 7) (v := .ref a2) (C := RX7) (T := TX7) (N := 4) hx hb hts hw7 hown hK hP 0 rfl rfl 1 (by decide +kernel) (hts _ mm_X7_emit_224) (fun _ h9 => h9) rfl dX7_emit_7 ?_
  refine va_alen (v := 800) hx hb hK hP 1 0 rfl rfl rfl dX7_emit_10 ?_
  refine lv_icmp_lt (tgt := 16) hx hb dX7_emit_11 (by decide +kernel) (fun c_76 => ?_) (fun c_76 => ?_)
  · have c_76i := i_lt (x := (us.toInt + 1)) (y := 800) hx_75 rfl c_76
    replace hE := hE.trans (if_pos c_76)
    refine lv_aload_n hx hb dX7_emit_16 rfl (lv_at hl 0 rfl) ?_
    refine va_get (ci := 7) (v := .ref a2) (C := RX7) (T := TX7) (N := 4) hx hb hts hw7 hown hK hP 0 rfl rfl 1 (by decide +kernel) (hts _ mm_X7_emit_224) (fun _ h9 => h9) rfl dX7_emit_17 ?_
    refine lv_aload_n hx hb dX7_emit_20 rfl (lv_at hl 0 rfl) ?_
    refine va_get (ci := 7) (v := .int us) (C := RX7) (T := TX7) (N := 4) hx hb hts hw7 hown hK hP 0 rfl rfl 3 (by decide +kernel) (hts _ mm_X7_emit_226) (fun _ h9 => h9) rfl dX7_emit_21 ?_
    refine lv_iload_n hx hb dX7_emit_24 rfl (lv_at hl 1 rfl) ?_
    refine va_iast hx hb hK hP hD hS 1 0 rfl rfl (i_in rfl (by omega)) dX7_emit_25 (fun H locs hP0 hD0 hS0 => ?_)
    clear hP hD hS
    have hP := hP0
    have hD := hD0
    have hS := hS0
    clear hP0 hD0 hS0
    generalize hf_77 : (upd fc (us : Int32).toNatClampNeg x) = f_77 at hP hD
    replace hE := hE.trans (Lt_in hf_77.symm)
    have hf_77_0 : Rg 800 0 1000 f_77 := by rw [← hf_77]; exact Rg.upd zfc rfl (by omega)
    replace hP : va_P D vwCl [(a0, .inr (7, [.ref a1, .ref a2, s_2, .int us])), (a2, .inl (K 0, 800, .inl f_77))] H := hP
    replace hD : va_D A [(a0, .inr (7, [.ref a1, .ref a2, s_2, .int us])), (a2, .inl (K 0, 800, .inl f_77))] := hD
    refine lv_aload_n hx hb dX7_emit_26 rfl (lv_at hl 0 rfl) ?_
    refine va_get (ci := 7) (v := .ref a2) (C := RX7) (T := TX7) (N := 4) hx hb hts hw7 hown hK hP 0 rfl rfl 1 (by decide +kernel) (hts _ mm_X7_emit_224) (fun _ h9 => h9) rfl dX7_emit_27 ?_
    refine lv_aload_n hx hb dX7_emit_30 rfl (lv_at hl 0 rfl) ?_
    refine va_get (ci := 7) (v := .int us) (C := RX7) (T := TX7) (N := 4) hx hb hts hw7 hown hK hP 0 rfl rfl 3 (by decide +kernel) (hts _ mm_X7_emit_226) (fun _ h9 => h9) rfl dX7_emit_31 ?_
    refine lv_iconst (v := 1) hx hb dX7_emit_34 (by decide +kernel) ?_
    refine lv_iadd hx hb dX7_emit_35 ?_
    refine lv_topi (fun x_78 ex_78 => ?_)
    replace hE := hE.trans (Lt_in ex_78)
    have hx_78 : x_78.toInt = (us.toInt + 1) := by rw [ex_78]; exact i_add rfl (show (1 : Int32).toInt = 1 from rfl) (by omega)
    refine lv_iload_n hx hb dX7_emit_36 rfl (lv_at hl 2 rfl) ?_
    refine va_iast hx hb hK hP hD hS 1 0 rfl rfl (i_in hx_78 (by omega)) dX7_emit_37 (fun H locs hP0 hD0 hS0 => ?_)
    clear hP hD hS
    have hP := hP0
    have hD := hD0
    have hS := hS0
    clear hP0 hD0 hS0
    generalize hf_79 : (upd f_77 (x_78 : Int32).toNatClampNeg y) = f_79 at hP hD
    replace hE := hE.trans (Lt_in hf_79.symm)
    have hf_79_0 : Rg 800 0 1000 f_79 := by rw [← hf_79]; exact Rg.upd hf_77_0 rfl (by omega)
    replace hP : va_P D vwCl [(a0, .inr (7, [.ref a1, .ref a2, s_2, .int us])), (a2, .inl (K 0, 800, .inl f_79))] H := hP
    replace hD : va_D A [(a0, .inr (7, [.ref a1, .ref a2, s_2, .int us])), (a2, .inl (K 0, 800, .inl f_79))] := hD
    refine lv_aload_n hx hb dX7_emit_38 rfl (lv_at hl 0 rfl) ?_
    refine lv_dup hx hb dX7_emit_39 rfl ?_
    refine va_get (ci := 7) (v := .int us) (C := RX7) (T := TX7) (N := 4) hx hb hts hw7 hown hK hP 0 rfl rfl 3 (by decide +kernel) (hts _ mm_X7_emit_226) (fun _ h9 => h9) rfl dX7_emit_40 ?_
    refine lv_iconst (v := 2) hx hb dX7_emit_43 (by decide +kernel) ?_
    refine lv_iadd hx hb dX7_emit_44 ?_
    refine lv_topi (fun x_80 ex_80 => ?_)
    replace hE := hE.trans (Lt_in ex_80)
    have hx_80 : x_80.toInt = (us.toInt + 2) := by rw [ex_80]; exact i_add rfl (show (2 : Int32).toInt = 2 from rfl) (by omega)
    refine va_put (ci := 7) (v := .int x_80) (ty := .int) (C := RX7) (T := TX7) (N := 4) hx hb hts hw7 tyX7 tyX7_ok nmX7 hown hK hP hD hS 0 rfl rfl 3 (by decide +kernel) (hts _ mm_X7_emit_226) (fun _ h9 => h9) rfl (by decide +kernel) (by first | rfl | decide) (by first | rfl | decide) (Nat.le_of_ble_eq_true rfl) dX7_emit_45 (fun H locs hP0 hD0 hS0 => ?_)
    clear hP hD hS
    have hP := hP0
    have hD := hD0
    have hS := hS0
    clear hP0 hD0 hS0
    replace hP : va_P D vwCl [(a0, .inr (7, [.ref a1, .ref a2, s_2, .int x_80])), (a2, .inl (K 0, 800, .inl f_79))] H := hP
    replace hD : va_D A [(a0, .inr (7, [.ref a1, .ref a2, s_2, .int x_80])), (a2, .inl (K 0, 800, .inl f_79))] := hD
    refine lv_aload_n hx hb dX7_emit_48 rfl (lv_at hl 0 rfl) ?_
    refine va_get (ci := 7) (v := .int x_80) (C := RX7) (T := TX7) (N := 4) hx hb hts hw7 hown hK hP 0 rfl rfl 3 (by decide +kernel) (hts _ mm_X7_emit_226) (fun _ h9 => h9) rfl dX7_emit_49 ?_
    refine lv_iconst (v := 2) hx hb dX7_emit_52 (by decide +kernel) ?_
    refine lv_isub hx hb dX7_emit_53 ?_
    refine lv_topi (fun x_81 ex_81 => ?_)
    replace hE := hE.trans (Lt_in ex_81)
    have hx_81 : x_81.toInt = ((us.toInt + 2) - 2) := by rw [ex_81]; exact i_sub hx_80 (show (2 : Int32).toInt = 2 from rfl) (by omega)
    rw [← hQ]
    have hP9 := hP.sub (ws' := [(a0, .inr (7, [.ref a1, .ref a2, s_2, .int x_80])), (a2, .inl (K 0, 800, .inl f_79))]) [0, 1] rfl
    have hD9 := hD.sub (ws' := [(a0, .inr (7, [.ref a1, .ref a2, s_2, .int x_80])), (a2, .inl (K 0, 800, .inl f_79))]) [0, 1] (by decide +kernel) rfl
    exact W.iret (v := x_81) hx hb hr (fun t ht hW => ⟨⟨x_81, ((fun _ => 0, fun i => match i with | _ => f_79, fun _ => fun _ => 0, fun i => match i with | _ => x_80, fun _ => 0, fun _ => fun _ => none) : Su), rfl, ⟨(show (-1) ≤ x_81.toInt ∧ x_81.toInt ≤ 798 by rw [hx_81]; omega), (show 2 ≤ (x_80 : Int32).toInt ∧ (x_80 : Int32).toInt ≤ 800 by rw [hx_80]; omega), hf_79_0, hE.symm, trivial⟩, (⟨by rw [ht]; exact hP9, hD9⟩ : Wd D A _ t)⟩, hS.F ht⟩) hS.2.2 dX7_emit_54
  · have c_76i := i_nlt (x := (us.toInt + 1)) (y := 800) hx_75 rfl c_76
    replace hE := hE.trans (if_neg c_76)
    refine lv_iconst (v := (-1)) hx hb dX7_emit_14 (by decide +kernel) ?_
    rw [← hQ]
    have hP9 := hP.sub (ws' := [(a0, .inr (7, [.ref a1, .ref a2, s_2, .int us])), (a2, .inl (K 0, 800, .inl fc))]) [0, 1] rfl
    have hD9 := hD.sub (ws' := [(a0, .inr (7, [.ref a1, .ref a2, s_2, .int us])), (a2, .inl (K 0, 800, .inl fc))]) [0, 1] (by decide +kernel) rfl
    exact W.iret (v := (-1)) hx hb hr (fun t ht hW => ⟨⟨(-1), ((fun _ => 0, fun i => match i with | _ => fc, fun _ => fun _ => 0, fun i => match i with | _ => us, fun _ => 0, fun _ => fun _ => none) : Su), rfl, ⟨(show (-1) ≤ ((-1) : Int32).toInt ∧ ((-1) : Int32).toInt ≤ 798 by decide), (show 2 ≤ (us : Int32).toInt ∧ (us : Int32).toInt ≤ 800 by omega), zfc, hE.symm, trivial⟩, (⟨by rw [ht]; exact hP9, hD9⟩ : Wd D A _ t)⟩, hS.F ht⟩) hS.2.2 dX7_emit_15
set_option maxRecDepth 100000 in
noncomputable def E_w_land_j27 (f_90 : Nat → Int32) : (Nat → Int32) :=
  (f_90 : (Nat → Int32))
set_option maxRecDepth 100000 in
noncomputable def E_w_land (x : Int32) (us : Int32) (fc : Nat → Int32) : (Nat → Int32) :=
  if x < 0 then (E_w_land_j27 fc) else (Lt (x + 1 : Int32) (fun x_93 => if 800 ≤ x_93 then (E_w_land_j27 fc) else (Lt (x + 1 : Int32) (fun x_95 => Lt (upd fc (x_95 : Int32).toNatClampNeg us : Nat → Int32) (fun f_96 => E_w_land_j27 f_96)))))
set_option maxHeartbeats 4000000 in
set_option maxRecDepth 100000 in
theorem w_land (l : Launch) (D : va_G) (K : Nat → ClassId) (a0 : Nat) (x : Int32) (a1 : Nat) (a2 : Nat) (s_2 : Value) (us : Int32) (fc : Nat → Int32) (sz : Nat) (zx : (-1) ≤ x.toInt ∧ x.toInt ≤ 800) (zus : 0 ≤ us.toInt ∧ us.toInt ≤ 800) (zfc : Rg 800 0 1000 fc) : Met l yX7_land wsX7_land ({ frames := 0, cells := 0, slots := 0, locals := 0 }) (va_Pc [.ref a0, .int x] (Pre D K [(a0, .inr (7, [.ref a1, .ref a2, s_2, .int us])), (a2, .inl (K 0, 800, .inl fc))] sz)) (va_Qv (S := Su) (fun (u : Su) => (Rg 800 0 1000 (u.2.1 0)) ∧ ((u.2.1 0) = E_w_land x us fc) ∧ True) (fun u t => Wd D (va_A [(a0, .inr (7, [.ref a1, .ref a2, s_2, .int us])), (a2, .inl (K 0, 800, .inl fc))] sz) ((fun u => [(a0, .inr (7, [.ref a1, .ref a2, s_2, .int us])), (a2, .inl (K 0, 800, .inl (u.2.1 0)))]) u) t) (va_A [(a0, .inr (7, [.ref a1, .ref a2, s_2, .int us])), (a2, .inl (K 0, 800, .inl fc))] sz)) 0 0 (va_A [(a0, .inr (7, [.ref a1, .ref a2, s_2, .int us])), (a2, .inl (K 0, 800, .inl fc))] sz) := by
  refine Met.ofW (cc := cX7_land) (maxL := 2) (ret := none) (by decide +kernel) rfl ?_
  intro p e s m args below meth c s₁ B hml hv
  obtain ⟨rfl, hsz, hP, hK, hD0, hN⟩ := hv
  have hx := B.exec
  have hb := B.bytes
  have hr := B.returns
  have hts := atoms_spec (ws := wsX7_land) B.pre
  have hown : s.vm.findClass RX7 = some m.cls := findClass_of_methodNamed B.named
  have hlocks := B.notSynchronized
  subst hsz
  have hD := hD0.self (sz := s.heap.size)
  generalize hAe : va_A [(a0, .inr (7, [.ref a1, .ref a2, s_2, .int us])), (a2, .inl (K 0, 800, .inl fc))] s.heap.size = A at hD ⊢
  have hA : ∀ q : Nat, s.heap.size ≤ q → A q := fun q h => by rw [← hAe]; exact Or.inr h
  clear hAe
  have hS : va_S A s.heap s.heap [] := va_S.rf
  replace hP : va_P D vwCl [(a0, .inr (7, [.ref a1, .ref a2, s_2, .int us])), (a2, .inl (K 0, 800, .inl fc))] s.heap := hP
  have hl := lv_entry [.ref a0, .int x] (n := 2) (Nat.le_of_ble_eq_true rfl)
  rw [lg_entry_eq]
  generalize (lg_sl [.ref a0, .int x] ++ List.replicate (2 - (lg_sl [.ref a0, .int x]).length) Slot.unset).toArray = ls at hl ⊢
  have hl : lv_has ls 2 [(0, .ref a0), (1, .int x)] := hl
  have hw7 : ∀ w ∈ wsX70, w ∈ wsX7_land := fun w h => (List.mem_cons_of_mem _ (List.mem_append_right _ h))
  generalize hQ : MQ below _ _ s _ _ _ = Q
  have hE := E_w_land.eq_def x us fc
  refine lv_iload_n hx hb dX7_land_0 rfl (lv_at hl 1 rfl) ?_
  have j_91 : ∀ (f_90 : Nat → Int32) (hf_90_0 : Rg 800 0 1000 f_90) (hE : E_w_land x us fc = E_w_land_j27 f_90) (H : Heap) (locs : List Loc) (hP : va_P D vwCl [(a0, .inr (7, [.ref a1, .ref a2, s_2, .int us])), (a2, .inl (K 0, 800, .inl f_90))] H) (hD : va_D A [(a0, .inr (7, [.ref a1, .ref a2, s_2, .int us])), (a2, .inl (K 0, 800, .inl f_90))]) (hS : va_S A s.heap H locs) (ls : Array Slot) (hl : lv_has ls 2 []), W p l e ({ frames := 0, cells := 0, slots := 0, locals := 0 }) s m (([.ref a0, .int x] : List Value).toArray) below meth c H locs 0 0 Q (F0 m 27 ls []) := by
    clear hE hP hD hS hl
    intro f_90 hf_90_0 hE H locs hP hD hS ls hl
    replace hE := hE.trans (E_w_land_j27.eq_def _)
    rw [← hQ]
    have hP9 := hP.sub (ws' := [(a0, .inr (7, [.ref a1, .ref a2, s_2, .int us])), (a2, .inl (K 0, 800, .inl f_90))]) [0, 1] rfl
    have hD9 := hD.sub (ws' := [(a0, .inr (7, [.ref a1, .ref a2, s_2, .int us])), (a2, .inl (K 0, 800, .inl f_90))]) [0, 1] (by decide +kernel) rfl
    exact W.vret hx hb hr (fun t ht hW => ⟨⟨((fun _ => 0, fun i => match i with | _ => f_90, fun _ => fun _ => 0, fun _ => 0, fun _ => 0, fun _ => fun _ => none) : Su), rfl, ⟨hf_90_0, hE.symm, trivial⟩, (⟨by rw [ht]; exact hP9, hD9⟩ : Wd D A _ t)⟩, hS.F ht⟩) hS.2.2 dX7_land_27
  refine lv_if_lt (tgt := 27) hx hb dX7_land_1 (by decide +kernel) (fun c_92 => ?_) (fun c_92 => ?_)
  · have c_92i := i_lt (x := x.toInt) (y := 0) rfl rfl c_92
    replace hE := hE.trans (if_pos c_92)
    exact j_91 fc zfc hE _ _ hP hD hS ls (lv_sub hl [] rfl)
  · have c_92i := i_nlt (x := x.toInt) (y := 0) rfl rfl c_92
    replace hE := hE.trans (if_neg c_92)
    refine lv_iload_n hx hb dX7_land_4 rfl (lv_at hl 1 rfl) ?_
    refine lv_iconst (v := 1) hx hb dX7_land_5 (by decide +kernel) ?_
    refine lv_iadd hx hb dX7_land_6 ?_
    refine lv_topi (fun x_93 ex_93 => ?_)
    replace hE := hE.trans (Lt_in ex_93)
    have hx_93 : x_93.toInt = (x.toInt + 1) := by rw [ex_93]; exact i_add rfl (show (1 : Int32).toInt = 1 from rfl) (by omega)
    refine lv_aload_n hx hb dX7_land_7 rfl (lv_at hl 0 rfl) ?_
    refine va_get (ci := 7) (v := .ref a2) (C := RX7) (T := TX7) (N := 4) hx hb hts hw7 hown hK hP 0 rfl rfl 1 (by decide +kernel) (hts _ mm_X7_land_224) (fun _ h9 => h9) rfl dX7_land_8 ?_
    refine va_alen (v := 800) hx hb hK hP 1 0 rfl rfl rfl dX7_land_11 ?_
    refine lv_icmp_ge (tgt := 27) hx hb dX7_land_12 (by decide +kernel) (fun c_94 => ?_) (fun c_94 => ?_)
    · have c_94i := i_le (x := 800) (y := (x.toInt + 1)) rfl hx_93 c_94
      replace hE := hE.trans (if_pos c_94)
      exact j_91 fc zfc hE _ _ hP hD hS ls (lv_sub hl [] rfl)
    · have c_94i := i_nle (x := 800) (y := (x.toInt + 1)) rfl hx_93 c_94
      replace hE := hE.trans (if_neg c_94)
      refine lv_aload_n hx hb dX7_land_15 rfl (lv_at hl 0 rfl) ?_
      refine va_get (ci := 7) (v := .ref a2) (C := RX7) (T := TX7) (N := 4) hx hb hts hw7 hown hK hP 0 rfl rfl 1 (by decide +kernel) (hts _ mm_X7_land_224) (fun _ h9 => h9) rfl dX7_land_16 ?_
      refine lv_iload_n hx hb dX7_land_19 rfl (lv_at hl 1 rfl) ?_
      refine lv_iconst (v := 1) hx hb dX7_land_20 (by decide +kernel) ?_
      refine lv_iadd hx hb dX7_land_21 ?_
      refine lv_topi (fun x_95 ex_95 => ?_)
      replace hE := hE.trans (Lt_in ex_95)
      have hx_95 : x_95.toInt = (x.toInt + 1) := by rw [ex_95]; exact i_add rfl (show (1 : Int32).toInt = 1 from rfl) (by omega)
      refine lv_aload_n hx hb dX7_land_22 rfl (lv_at hl 0 rfl) ?_
      refine va_get (ci := 7) (v := .int us) (C := RX7) (T := TX7) (N := 4) hx hb hts hw7 hown hK hP 0 rfl rfl 3 (by decide +kernel) (hts _ mm_X7_land_226) (fun _ h9 => h9) rfl dX7_land_23 ?_
      refine va_iast hx hb hK hP hD hS 1 0 rfl rfl (i_in hx_95 (by omega)) dX7_land_26 (fun H locs hP0 hD0 hS0 => ?_)
      clear hP hD hS
      have hP := hP0
      have hD := hD0
      have hS := hS0
      clear hP0 hD0 hS0
      generalize hf_96 : (upd fc (x_95 : Int32).toNatClampNeg us) = f_96 at hP hD
      replace hE := hE.trans (Lt_in hf_96.symm)
      have hf_96_0 : Rg 800 0 1000 f_96 := by rw [← hf_96]; exact Rg.upd zfc rfl (by omega)
      replace hP : va_P D vwCl [(a0, .inr (7, [.ref a1, .ref a2, s_2, .int us])), (a2, .inl (K 0, 800, .inl f_96))] H := hP
      replace hD : va_D A [(a0, .inr (7, [.ref a1, .ref a2, s_2, .int us])), (a2, .inl (K 0, 800, .inl f_96))] := hD
      exact j_91 f_96 hf_96_0 hE _ _ hP hD hS ls (lv_sub hl [] rfl)
