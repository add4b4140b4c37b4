theorem BX12_goOnBy_0 : bsegs (ByteArray.data cX12_goOnBy |>.toList.drop 0) 0 [(0, [3]), (1, [61]), (2, [28]), (3, [27]), (4, [162, 0, 13]), (7, [42]), (8, [182, 1, 208]), (11, [132, 2, 1]), (14, [167, 255, 244]), (17, [177])] = true := by decide +kernel
theorem dX12_goOnBy_0 : decode cX12_goOnBy 0 = .ok (.iconst 0, 1) := dk_3 (bs_at BX12_goOnBy_0 0 rfl)
theorem dX12_goOnBy_1 : decode cX12_goOnBy 1 = .ok (.istore_n 2, 1) := dk_61 (bs_at BX12_goOnBy_0 1 rfl)
theorem dX12_goOnBy_2 : decode cX12_goOnBy 2 = .ok (.iload_n 2, 1) := dk_28 (bs_at BX12_goOnBy_0 2 rfl)
theorem dX12_goOnBy_3 : decode cX12_goOnBy 3 = .ok (.iload_n 1, 1) := dk_27 (bs_at BX12_goOnBy_0 3 rfl)
theorem dX12_goOnBy_4 : decode cX12_goOnBy 4 = .ok (.if_icmp .ge 13, 3) := dk_162 0 13 (bs_at BX12_goOnBy_0 4 rfl) rfl
theorem dX12_goOnBy_7 : decode cX12_goOnBy 7 = .ok (.aload_n 0, 1) := dk_42 (bs_at BX12_goOnBy_0 5 rfl)
theorem dX12_goOnBy_8 : decode cX12_goOnBy 8 = .ok (.invokevirtual 464, 3) := dk_182 1 208 (bs_at BX12_goOnBy_0 6 rfl) rfl
theorem dX12_goOnBy_11 : decode cX12_goOnBy 11 = .ok (.iinc 2 1, 3) := dk_132 2 1 (bs_at BX12_goOnBy_0 7 rfl) rfl
theorem dX12_goOnBy_14 : decode cX12_goOnBy 14 = .ok (.goto (-12), 3) := dk_167 255 244 (bs_at BX12_goOnBy_0 8 rfl) rfl
theorem dX12_goOnBy_17 : decode cX12_goOnBy 17 = .ok (.return_, 1) := dk_177 (bs_at BX12_goOnBy_0 9 rfl)
theorem BX12_hear_0 : bsegs (ByteArray.data cX12_hear |>.toList.drop 0) 0 [(0, [42]), (1, [3]), (2, [181, 0, 158]), (5, [27]), (6, [133]), (7, [9]), (8, [20, 0, 212]), (11, [184, 0, 178]), (14, [154, 0, 9]), (17, [42]), (18, [2]), (19, [182, 0, 171]), (22, [172]), (23, [42]), (24, [180, 0, 13]), (27, [4]), (28, [46]), (29, [61]), (30, [28]), (31, [16, 6]), (33, [160, 0, 10]), (36, [42]), (37, [16, 251]), (39, [182, 0, 171])] = true := by decide +kernel
theorem dX12_hear_0 : decode cX12_hear 0 = .ok (.aload_n 0, 1) := dk_42 (bs_at BX12_hear_0 0 rfl)
theorem dX12_hear_1 : decode cX12_hear 1 = .ok (.iconst 0, 1) := dk_3 (bs_at BX12_hear_0 1 rfl)
theorem dX12_hear_2 : decode cX12_hear 2 = .ok (.putfield 158, 3) := dk_181 0 158 (bs_at BX12_hear_0 2 rfl) rfl
theorem dX12_hear_5 : decode cX12_hear 5 = .ok (.iload_n 1, 1) := dk_27 (bs_at BX12_hear_0 3 rfl)
theorem dX12_hear_6 : decode cX12_hear 6 = .ok (.i2l, 1) := dk_133 (bs_at BX12_hear_0 4 rfl)
theorem dX12_hear_7 : decode cX12_hear 7 = .ok (.lconst 0, 1) := dk_9 (bs_at BX12_hear_0 5 rfl)
theorem dX12_hear_8 : decode cX12_hear 8 = .ok (.ldc2_w 212, 3) := dk_20 0 212 (bs_at BX12_hear_0 6 rfl) rfl
theorem dX12_hear_11 : decode cX12_hear 11 = .ok (.invokestatic 178, 3) := dk_184 0 178 (bs_at BX12_hear_0 7 rfl) rfl
theorem dX12_hear_14 : decode cX12_hear 14 = .ok (.ifCond .ne 9, 3) := dk_154 0 9 (bs_at BX12_hear_0 8 rfl) rfl
theorem dX12_hear_17 : decode cX12_hear 17 = .ok (.aload_n 0, 1) := dk_42 (bs_at BX12_hear_0 9 rfl)
theorem dX12_hear_18 : decode cX12_hear 18 = .ok (.iconst (-1), 1) := dk_2 (bs_at BX12_hear_0 10 rfl)
theorem dX12_hear_19 : decode cX12_hear 19 = .ok (.invokevirtual 171, 3) := dk_182 0 171 (bs_at BX12_hear_0 11 rfl) rfl
theorem dX12_hear_22 : decode cX12_hear 22 = .ok (.ireturn, 1) := dk_172 (bs_at BX12_hear_0 12 rfl)
theorem dX12_hear_23 : decode cX12_hear 23 = .ok (.aload_n 0, 1) := dk_42 (bs_at BX12_hear_0 13 rfl)
theorem dX12_hear_24 : decode cX12_hear 24 = .ok (.getfield 13, 3) := dk_180 0 13 (bs_at BX12_hear_0 14 rfl) rfl
theorem dX12_hear_27 : decode cX12_hear 27 = .ok (.iconst 1, 1) := dk_4 (bs_at BX12_hear_0 15 rfl)
theorem dX12_hear_28 : decode cX12_hear 28 = .ok (.iaload, 1) := dk_46 (bs_at BX12_hear_0 16 rfl)
theorem dX12_hear_29 : decode cX12_hear 29 = .ok (.istore_n 2, 1) := dk_61 (bs_at BX12_hear_0 17 rfl)
theorem dX12_hear_30 : decode cX12_hear 30 = .ok (.iload_n 2, 1) := dk_28 (bs_at BX12_hear_0 18 rfl)
theorem dX12_hear_31 : decode cX12_hear 31 = .ok (.bipush 6, 2) := dk_16 6 (bs_at BX12_hear_0 19 rfl) rfl
theorem dX12_hear_33 : decode cX12_hear 33 = .ok (.if_icmp .ne 10, 3) := dk_160 0 10 (bs_at BX12_hear_0 20 rfl) rfl
theorem dX12_hear_36 : decode cX12_hear 36 = .ok (.aload_n 0, 1) := dk_42 (bs_at BX12_hear_0 21 rfl)
theorem dX12_hear_37 : decode cX12_hear 37 = .ok (.bipush (-5), 2) := dk_16 251 (bs_at BX12_hear_0 22 rfl) rfl
theorem dX12_hear_39 : decode cX12_hear 39 = .ok (.invokevirtual 171, 3) := dk_182 0 171 (bs_at BX12_hear_0 23 rfl) rfl
theorem BX12_hear_42 : bsegs (ByteArray.data cX12_hear |>.toList.drop 42) 42 [(42, [172]), (43, [42]), (44, [180, 0, 13]), (47, [16, 91]), (49, [28]), (50, [96]), (51, [27]), (52, [79]), (53, [42]), (54, [180, 0, 13]), (57, [4]), (58, [92]), (59, [46]), (60, [4]), (61, [96]), (62, [79]), (63, [42]), (64, [28]), (65, [4]), (66, [96]), (67, [182, 0, 171]), (70, [172])] = true := by decide +kernel
theorem dX12_hear_42 : decode cX12_hear 42 = .ok (.ireturn, 1) := dk_172 (bs_at BX12_hear_42 0 rfl)
theorem dX12_hear_43 : decode cX12_hear 43 = .ok (.aload_n 0, 1) := dk_42 (bs_at BX12_hear_42 1 rfl)
theorem dX12_hear_44 : decode cX12_hear 44 = .ok (.getfield 13, 3) := dk_180 0 13 (bs_at BX12_hear_42 2 rfl) rfl
theorem dX12_hear_47 : decode cX12_hear 47 = .ok (.bipush 91, 2) := dk_16 91 (bs_at BX12_hear_42 3 rfl) rfl
theorem dX12_hear_49 : decode cX12_hear 49 = .ok (.iload_n 2, 1) := dk_28 (bs_at BX12_hear_42 4 rfl)
theorem dX12_hear_50 : decode cX12_hear 50 = .ok (.iadd, 1) := dk_96 (bs_at BX12_hear_42 5 rfl)
theorem dX12_hear_51 : decode cX12_hear 51 = .ok (.iload_n 1, 1) := dk_27 (bs_at BX12_hear_42 6 rfl)
theorem dX12_hear_52 : decode cX12_hear 52 = .ok (.iastore, 1) := dk_79 (bs_at BX12_hear_42 7 rfl)
theorem dX12_hear_53 : decode cX12_hear 53 = .ok (.aload_n 0, 1) := dk_42 (bs_at BX12_hear_42 8 rfl)
theorem dX12_hear_54 : decode cX12_hear 54 = .ok (.getfield 13, 3) := dk_180 0 13 (bs_at BX12_hear_42 9 rfl) rfl
theorem dX12_hear_57 : decode cX12_hear 57 = .ok (.iconst 1, 1) := dk_4 (bs_at BX12_hear_42 10 rfl)
theorem dX12_hear_58 : decode cX12_hear 58 = .ok (.dup2, 1) := dk_92 (bs_at BX12_hear_42 11 rfl)
theorem dX12_hear_59 : decode cX12_hear 59 = .ok (.iaload, 1) := dk_46 (bs_at BX12_hear_42 12 rfl)
theorem dX12_hear_60 : decode cX12_hear 60 = .ok (.iconst 1, 1) := dk_4 (bs_at BX12_hear_42 13 rfl)
theorem dX12_hear_61 : decode cX12_hear 61 = .ok (.iadd, 1) := dk_96 (bs_at BX12_hear_42 14 rfl)
theorem dX12_hear_62 : decode cX12_hear 62 = .ok (.iastore, 1) := dk_79 (bs_at BX12_hear_42 15 rfl)
theorem dX12_hear_63 : decode cX12_hear 63 = .ok (.aload_n 0, 1) := dk_42 (bs_at BX12_hear_42 16 rfl)
theorem dX12_hear_64 : decode cX12_hear 64 = .ok (.iload_n 2, 1) := dk_28 (bs_at BX12_hear_42 17 rfl)
theorem dX12_hear_65 : decode cX12_hear 65 = .ok (.iconst 1, 1) := dk_4 (bs_at BX12_hear_42 18 rfl)
theorem dX12_hear_66 : decode cX12_hear 66 = .ok (.iadd, 1) := dk_96 (bs_at BX12_hear_42 19 rfl)
theorem dX12_hear_67 : decode cX12_hear 67 = .ok (.invokevirtual 171, 3) := dk_182 0 171 (bs_at BX12_hear_42 20 rfl) rfl
theorem dX12_hear_70 : decode cX12_hear 70 = .ok (.ireturn, 1) := dk_172 (bs_at BX12_hear_42 21 rfl)
theorem BX12_forget_0 : bsegs (ByteArray.data cX12_forget |>.toList.drop 0) 0 [(0, [42]), (1, [3]), (2, [181, 0, 158]), (5, [42]), (6, [180, 0, 13]), (9, [4]), (10, [46]), (11, [60]), (12, [42]), (13, [180, 0, 13]), (16, [4]), (17, [3]), (18, [79]), (19, [27]), (20, [172])] = true := by decide +kernel
theorem dX12_forget_0 : decode cX12_forget 0 = .ok (.aload_n 0, 1) := dk_42 (bs_at BX12_forget_0 0 rfl)
theorem dX12_forget_1 : decode cX12_forget 1 = .ok (.iconst 0, 1) := dk_3 (bs_at BX12_forget_0 1 rfl)
theorem dX12_forget_2 : decode cX12_forget 2 = .ok (.putfield 158, 3) := dk_181 0 158 (bs_at BX12_forget_0 2 rfl) rfl
theorem dX12_forget_5 : decode cX12_forget 5 = .ok (.aload_n 0, 1) := dk_42 (bs_at BX12_forget_0 3 rfl)
theorem dX12_forget_6 : decode cX12_forget 6 = .ok (.getfield 13, 3) := dk_180 0 13 (bs_at BX12_forget_0 4 rfl) rfl
theorem dX12_forget_9 : decode cX12_forget 9 = .ok (.iconst 1, 1) := dk_4 (bs_at BX12_forget_0 5 rfl)
theorem dX12_forget_10 : decode cX12_forget 10 = .ok (.iaload, 1) := dk_46 (bs_at BX12_forget_0 6 rfl)
theorem dX12_forget_11 : decode cX12_forget 11 = .ok (.istore_n 1, 1) := dk_60 (bs_at BX12_forget_0 7 rfl)
theorem dX12_forget_12 : decode cX12_forget 12 = .ok (.aload_n 0, 1) := dk_42 (bs_at BX12_forget_0 8 rfl)
theorem dX12_forget_13 : decode cX12_forget 13 = .ok (.getfield 13, 3) := dk_180 0 13 (bs_at BX12_forget_0 9 rfl) rfl
theorem dX12_forget_16 : decode cX12_forget 16 = .ok (.iconst 1, 1) := dk_4 (bs_at BX12_forget_0 10 rfl)
theorem dX12_forget_17 : decode cX12_forget 17 = .ok (.iconst 0, 1) := dk_3 (bs_at BX12_forget_0 11 rfl)
theorem dX12_forget_18 : decode cX12_forget 18 = .ok (.iastore, 1) := dk_79 (bs_at BX12_forget_0 12 rfl)
theorem dX12_forget_19 : decode cX12_forget 19 = .ok (.iload_n 1, 1) := dk_27 (bs_at BX12_forget_0 13 rfl)
theorem dX12_forget_20 : decode cX12_forget 20 = .ok (.ireturn, 1) := dk_172 (bs_at BX12_forget_0 14 rfl)
theorem BX12_isAsHeard_0 : bsegs (ByteArray.data cX12_isAsHeard |>.toList.drop 0) 0 [(0, [3]), (1, [61]), (2, [3]), (3, [62]), (4, [29]), (5, [42]), (6, [180, 0, 13]), (9, [4]), (10, [46]), (11, [162, 0, 21]), (14, [28]), (15, [42]), (16, [180, 0, 13]), (19, [16, 91]), (21, [29]), (22, [96]), (23, [46]), (24, [128]), (25, [61]), (26, [132, 3, 1]), (29, [167, 255, 231]), (32, [3]), (33, [62]), (34, [3])] = true := by decide +kernel
theorem dX12_isAsHeard_0 : decode cX12_isAsHeard 0 = .ok (.iconst 0, 1) := dk_3 (bs_at BX12_isAsHeard_0 0 rfl)
theorem dX12_isAsHeard_1 : decode cX12_isAsHeard 1 = .ok (.istore_n 2, 1) := dk_61 (bs_at BX12_isAsHeard_0 1 rfl)
theorem dX12_isAsHeard_2 : decode cX12_isAsHeard 2 = .ok (.iconst 0, 1) := dk_3 (bs_at BX12_isAsHeard_0 2 rfl)
theorem dX12_isAsHeard_3 : decode cX12_isAsHeard 3 = .ok (.istore_n 3, 1) := dk_62 (bs_at BX12_isAsHeard_0 3 rfl)
theorem dX12_isAsHeard_4 : decode cX12_isAsHeard 4 = .ok (.iload_n 3, 1) := dk_29 (bs_at BX12_isAsHeard_0 4 rfl)
theorem dX12_isAsHeard_5 : decode cX12_isAsHeard 5 = .ok (.aload_n 0, 1) := dk_42 (bs_at BX12_isAsHeard_0 5 rfl)
theorem dX12_isAsHeard_6 : decode cX12_isAsHeard 6 = .ok (.getfield 13, 3) := dk_180 0 13 (bs_at BX12_isAsHeard_0 6 rfl) rfl
theorem dX12_isAsHeard_9 : decode cX12_isAsHeard 9 = .ok (.iconst 1, 1) := dk_4 (bs_at BX12_isAsHeard_0 7 rfl)
theorem dX12_isAsHeard_10 : decode cX12_isAsHeard 10 = .ok (.iaload, 1) := dk_46 (bs_at BX12_isAsHeard_0 8 rfl)
theorem dX12_isAsHeard_11 : decode cX12_isAsHeard 11 = .ok (.if_icmp .ge 21, 3) := dk_162 0 21 (bs_at BX12_isAsHeard_0 9 rfl) rfl
theorem dX12_isAsHeard_14 : decode cX12_isAsHeard 14 = .ok (.iload_n 2, 1) := dk_28 (bs_at BX12_isAsHeard_0 10 rfl)
theorem dX12_isAsHeard_15 : decode cX12_isAsHeard 15 = .ok (.aload_n 0, 1) := dk_42 (bs_at BX12_isAsHeard_0 11 rfl)
theorem dX12_isAsHeard_16 : decode cX12_isAsHeard 16 = .ok (.getfield 13, 3) := dk_180 0 13 (bs_at BX12_isAsHeard_0 12 rfl) rfl
theorem dX12_isAsHeard_19 : decode cX12_isAsHeard 19 = .ok (.bipush 91, 2) := dk_16 91 (bs_at BX12_isAsHeard_0 13 rfl) rfl
theorem dX12_isAsHeard_21 : decode cX12_isAsHeard 21 = .ok (.iload_n 3, 1) := dk_29 (bs_at BX12_isAsHeard_0 14 rfl)
theorem dX12_isAsHeard_22 : decode cX12_isAsHeard 22 = .ok (.iadd, 1) := dk_96 (bs_at BX12_isAsHeard_0 15 rfl)
theorem dX12_isAsHeard_23 : decode cX12_isAsHeard 23 = .ok (.iaload, 1) := dk_46 (bs_at BX12_isAsHeard_0 16 rfl)
theorem dX12_isAsHeard_24 : decode cX12_isAsHeard 24 = .ok (.ior, 1) := dk_128 (bs_at BX12_isAsHeard_0 17 rfl)
theorem dX12_isAsHeard_25 : decode cX12_isAsHeard 25 = .ok (.istore_n 2, 1) := dk_61 (bs_at BX12_isAsHeard_0 18 rfl)
theorem dX12_isAsHeard_26 : decode cX12_isAsHeard 26 = .ok (.iinc 3 1, 3) := dk_132 3 1 (bs_at BX12_isAsHeard_0 19 rfl) rfl
theorem dX12_isAsHeard_29 : decode cX12_isAsHeard 29 = .ok (.goto (-25), 3) := dk_167 255 231 (bs_at BX12_isAsHeard_0 20 rfl) rfl
theorem dX12_isAsHeard_32 : decode cX12_isAsHeard 32 = .ok (.iconst 0, 1) := dk_3 (bs_at BX12_isAsHeard_0 21 rfl)
theorem dX12_isAsHeard_33 : decode cX12_isAsHeard 33 = .ok (.istore_n 3, 1) := dk_62 (bs_at BX12_isAsHeard_0 22 rfl)
theorem dX12_isAsHeard_34 : decode cX12_isAsHeard 34 = .ok (.iconst 0, 1) := dk_3 (bs_at BX12_isAsHeard_0 23 rfl)
theorem BX12_isAsHeard_35 : bsegs (ByteArray.data cX12_isAsHeard |>.toList.drop 35) 35 [(35, [54, 4]), (37, [21, 4]), (39, [42]), (40, [180, 0, 13]), (43, [3]), (44, [46]), (45, [162, 0, 37]), (48, [29]), (49, [27]), (50, [21, 4]), (52, [184, 1, 180]), (55, [153, 0, 18]), (58, [4]), (59, [42]), (60, [180, 0, 13]), (63, [16, 35]), (65, [21, 4]), (67, [96]), (68, [46]), (69, [120]), (70, [167, 0, 4]), (73, [3]), (74, [128]), (75, [62])] = true := by decide +kernel
theorem dX12_isAsHeard_35 : decode cX12_isAsHeard 35 = .ok (.istore 4, 2) := dk_54 4 (bs_at BX12_isAsHeard_35 0 rfl)
theorem dX12_isAsHeard_37 : decode cX12_isAsHeard 37 = .ok (.iload 4, 2) := dk_21 4 (bs_at BX12_isAsHeard_35 1 rfl)
theorem dX12_isAsHeard_39 : decode cX12_isAsHeard 39 = .ok (.aload_n 0, 1) := dk_42 (bs_at BX12_isAsHeard_35 2 rfl)
theorem dX12_isAsHeard_40 : decode cX12_isAsHeard 40 = .ok (.getfield 13, 3) := dk_180 0 13 (bs_at BX12_isAsHeard_35 3 rfl) rfl
theorem dX12_isAsHeard_43 : decode cX12_isAsHeard 43 = .ok (.iconst 0, 1) := dk_3 (bs_at BX12_isAsHeard_35 4 rfl)
theorem dX12_isAsHeard_44 : decode cX12_isAsHeard 44 = .ok (.iaload, 1) := dk_46 (bs_at BX12_isAsHeard_35 5 rfl)
theorem dX12_isAsHeard_45 : decode cX12_isAsHeard 45 = .ok (.if_icmp .ge 37, 3) := dk_162 0 37 (bs_at BX12_isAsHeard_35 6 rfl) rfl
theorem dX12_isAsHeard_48 : decode cX12_isAsHeard 48 = .ok (.iload_n 3, 1) := dk_29 (bs_at BX12_isAsHeard_35 7 rfl)
theorem dX12_isAsHeard_49 : decode cX12_isAsHeard 49 = .ok (.iload_n 1, 1) := dk_27 (bs_at BX12_isAsHeard_35 8 rfl)
theorem dX12_isAsHeard_50 : decode cX12_isAsHeard 50 = .ok (.iload 4, 2) := dk_21 4 (bs_at BX12_isAsHeard_35 9 rfl)
theorem dX12_isAsHeard_52 : decode cX12_isAsHeard 52 = .ok (.invokestatic 436, 3) := dk_184 1 180 (bs_at BX12_isAsHeard_35 10 rfl) rfl
theorem dX12_isAsHeard_55 : decode cX12_isAsHeard 55 = .ok (.ifCond .eq 18, 3) := dk_153 0 18 (bs_at BX12_isAsHeard_35 11 rfl) rfl
theorem dX12_isAsHeard_58 : decode cX12_isAsHeard 58 = .ok (.iconst 1, 1) := dk_4 (bs_at BX12_isAsHeard_35 12 rfl)
theorem dX12_isAsHeard_59 : decode cX12_isAsHeard 59 = .ok (.aload_n 0, 1) := dk_42 (bs_at BX12_isAsHeard_35 13 rfl)
theorem dX12_isAsHeard_60 : decode cX12_isAsHeard 60 = .ok (.getfield 13, 3) := dk_180 0 13 (bs_at BX12_isAsHeard_35 14 rfl) rfl
theorem dX12_isAsHeard_63 : decode cX12_isAsHeard 63 = .ok (.bipush 35, 2) := dk_16 35 (bs_at BX12_isAsHeard_35 15 rfl) rfl
theorem dX12_isAsHeard_65 : decode cX12_isAsHeard 65 = .ok (.iload 4, 2) := dk_21 4 (bs_at BX12_isAsHeard_35 16 rfl)
theorem dX12_isAsHeard_67 : decode cX12_isAsHeard 67 = .ok (.iadd, 1) := dk_96 (bs_at BX12_isAsHeard_35 17 rfl)
theorem dX12_isAsHeard_68 : decode cX12_isAsHeard 68 = .ok (.iaload, 1) := dk_46 (bs_at BX12_isAsHeard_35 18 rfl)
theorem dX12_isAsHeard_69 : decode cX12_isAsHeard 69 = .ok (.ishl, 1) := dk_120 (bs_at BX12_isAsHeard_35 19 rfl)
theorem dX12_isAsHeard_70 : decode cX12_isAsHeard 70 = .ok (.goto 4, 3) := dk_167 0 4 (bs_at BX12_isAsHeard_35 20 rfl) rfl
theorem dX12_isAsHeard_73 : decode cX12_isAsHeard 73 = .ok (.iconst 0, 1) := dk_3 (bs_at BX12_isAsHeard_35 21 rfl)
theorem dX12_isAsHeard_74 : decode cX12_isAsHeard 74 = .ok (.ior, 1) := dk_128 (bs_at BX12_isAsHeard_35 22 rfl)
theorem dX12_isAsHeard_75 : decode cX12_isAsHeard 75 = .ok (.istore_n 3, 1) := dk_62 (bs_at BX12_isAsHeard_35 23 rfl)
theorem BX12_isAsHeard_76 : bsegs (ByteArray.data cX12_isAsHeard |>.toList.drop 76) 76 [(76, [132, 4, 1]), (79, [167, 255, 214]), (82, [29]), (83, [28]), (84, [160, 0, 7]), (87, [4]), (88, [167, 0, 4]), (91, [3]), (92, [172])] = true := by decide +kernel
theorem dX12_isAsHeard_76 : decode cX12_isAsHeard 76 = .ok (.iinc 4 1, 3) := dk_132 4 1 (bs_at BX12_isAsHeard_76 0 rfl) rfl
theorem dX12_isAsHeard_79 : decode cX12_isAsHeard 79 = .ok (.goto (-42), 3) := dk_167 255 214 (bs_at BX12_isAsHeard_76 1 rfl) rfl
theorem dX12_isAsHeard_82 : decode cX12_isAsHeard 82 = .ok (.iload_n 3, 1) := dk_29 (bs_at BX12_isAsHeard_76 2 rfl)
theorem dX12_isAsHeard_83 : decode cX12_isAsHeard 83 = .ok (.iload_n 2, 1) := dk_28 (bs_at BX12_isAsHeard_76 3 rfl)
theorem dX12_isAsHeard_84 : decode cX12_isAsHeard 84 = .ok (.if_icmp .ne 7, 3) := dk_160 0 7 (bs_at BX12_isAsHeard_76 4 rfl) rfl
theorem dX12_isAsHeard_87 : decode cX12_isAsHeard 87 = .ok (.iconst 1, 1) := dk_4 (bs_at BX12_isAsHeard_76 5 rfl)
theorem dX12_isAsHeard_88 : decode cX12_isAsHeard 88 = .ok (.goto 4, 3) := dk_167 0 4 (bs_at BX12_isAsHeard_76 6 rfl) rfl
theorem dX12_isAsHeard_91 : decode cX12_isAsHeard 91 = .ok (.iconst 0, 1) := dk_3 (bs_at BX12_isAsHeard_76 7 rfl)
theorem dX12_isAsHeard_92 : decode cX12_isAsHeard 92 = .ok (.ireturn, 1) := dk_172 (bs_at BX12_isAsHeard_76 8 rfl)
theorem BX12_hill_0 : bsegs (ByteArray.data cX12_hill |>.toList.drop 0) 0 [(0, [42]), (1, [3]), (2, [181, 0, 158]), (5, [3]), (6, [61]), (7, [2]), (8, [62]), (9, [3]), (10, [54, 4]), (12, [21, 4]), (14, [4]), (15, [42]), (16, [180, 0, 13]), (19, [3]), (20, [46]), (21, [120]), (22, [162, 0, 33]), (25, [42]), (26, [21, 4]), (28, [182, 2, 3]), (31, [153, 0, 18]), (34, [28]), (35, [27]), (36, [160, 0, 8])] = true := by decide +kernel
theorem dX12_hill_0 : decode cX12_hill 0 = .ok (.aload_n 0, 1) := dk_42 (bs_at BX12_hill_0 0 rfl)
theorem dX12_hill_1 : decode cX12_hill 1 = .ok (.iconst 0, 1) := dk_3 (bs_at BX12_hill_0 1 rfl)
theorem dX12_hill_2 : decode cX12_hill 2 = .ok (.putfield 158, 3) := dk_181 0 158 (bs_at BX12_hill_0 2 rfl) rfl
theorem dX12_hill_5 : decode cX12_hill 5 = .ok (.iconst 0, 1) := dk_3 (bs_at BX12_hill_0 3 rfl)
theorem dX12_hill_6 : decode cX12_hill 6 = .ok (.istore_n 2, 1) := dk_61 (bs_at BX12_hill_0 4 rfl)
theorem dX12_hill_7 : decode cX12_hill 7 = .ok (.iconst (-1), 1) := dk_2 (bs_at BX12_hill_0 5 rfl)
theorem dX12_hill_8 : decode cX12_hill 8 = .ok (.istore_n 3, 1) := dk_62 (bs_at BX12_hill_0 6 rfl)
theorem dX12_hill_9 : decode cX12_hill 9 = .ok (.iconst 0, 1) := dk_3 (bs_at BX12_hill_0 7 rfl)
theorem dX12_hill_10 : decode cX12_hill 10 = .ok (.istore 4, 2) := dk_54 4 (bs_at BX12_hill_0 8 rfl)
theorem dX12_hill_12 : decode cX12_hill 12 = .ok (.iload 4, 2) := dk_21 4 (bs_at BX12_hill_0 9 rfl)
theorem dX12_hill_14 : decode cX12_hill 14 = .ok (.iconst 1, 1) := dk_4 (bs_at BX12_hill_0 10 rfl)
theorem dX12_hill_15 : decode cX12_hill 15 = .ok (.aload_n 0, 1) := dk_42 (bs_at BX12_hill_0 11 rfl)
theorem dX12_hill_16 : decode cX12_hill 16 = .ok (.getfield 13, 3) := dk_180 0 13 (bs_at BX12_hill_0 12 rfl) rfl
theorem dX12_hill_19 : decode cX12_hill 19 = .ok (.iconst 0, 1) := dk_3 (bs_at BX12_hill_0 13 rfl)
theorem dX12_hill_20 : decode cX12_hill 20 = .ok (.iaload, 1) := dk_46 (bs_at BX12_hill_0 14 rfl)
theorem dX12_hill_21 : decode cX12_hill 21 = .ok (.ishl, 1) := dk_120 (bs_at BX12_hill_0 15 rfl)
theorem dX12_hill_22 : decode cX12_hill 22 = .ok (.if_icmp .ge 33, 3) := dk_162 0 33 (bs_at BX12_hill_0 16 rfl) rfl
theorem dX12_hill_25 : decode cX12_hill 25 = .ok (.aload_n 0, 1) := dk_42 (bs_at BX12_hill_0 17 rfl)
theorem dX12_hill_26 : decode cX12_hill 26 = .ok (.iload 4, 2) := dk_21 4 (bs_at BX12_hill_0 18 rfl)
theorem dX12_hill_28 : decode cX12_hill 28 = .ok (.invokevirtual 515, 3) := dk_182 2 3 (bs_at BX12_hill_0 19 rfl) rfl
theorem dX12_hill_31 : decode cX12_hill 31 = .ok (.ifCond .eq 18, 3) := dk_153 0 18 (bs_at BX12_hill_0 20 rfl) rfl
theorem dX12_hill_34 : decode cX12_hill 34 = .ok (.iload_n 2, 1) := dk_28 (bs_at BX12_hill_0 21 rfl)
theorem dX12_hill_35 : decode cX12_hill 35 = .ok (.iload_n 1, 1) := dk_27 (bs_at BX12_hill_0 22 rfl)
theorem dX12_hill_36 : decode cX12_hill 36 = .ok (.if_icmp .ne 8, 3) := dk_160 0 8 (bs_at BX12_hill_0 23 rfl) rfl
theorem BX12_hill_39 : bsegs (ByteArray.data cX12_hill |>.toList.drop 39) 39 [(39, [21, 4]), (41, [167, 0, 4]), (44, [29]), (45, [62]), (46, [132, 2, 1]), (49, [132, 4, 1]), (52, [167, 255, 216]), (55, [27]), (56, [2]), (57, [160, 0, 7]), (60, [28]), (61, [167, 0, 4]), (64, [29]), (65, [172])] = true := by decide +kernel
theorem dX12_hill_39 : decode cX12_hill 39 = .ok (.iload 4, 2) := dk_21 4 (bs_at BX12_hill_39 0 rfl)
theorem dX12_hill_41 : decode cX12_hill 41 = .ok (.goto 4, 3) := dk_167 0 4 (bs_at BX12_hill_39 1 rfl) rfl
theorem dX12_hill_44 : decode cX12_hill 44 = .ok (.iload_n 3, 1) := dk_29 (bs_at BX12_hill_39 2 rfl)
theorem dX12_hill_45 : decode cX12_hill 45 = .ok (.istore_n 3, 1) := dk_62 (bs_at BX12_hill_39 3 rfl)
theorem dX12_hill_46 : decode cX12_hill 46 = .ok (.iinc 2 1, 3) := dk_132 2 1 (bs_at BX12_hill_39 4 rfl) rfl
theorem dX12_hill_49 : decode cX12_hill 49 = .ok (.iinc 4 1, 3) := dk_132 4 1 (bs_at BX12_hill_39 5 rfl) rfl
theorem dX12_hill_52 : decode cX12_hill 52 = .ok (.goto (-40), 3) := dk_167 255 216 (bs_at BX12_hill_39 6 rfl) rfl
theorem dX12_hill_55 : decode cX12_hill 55 = .ok (.iload_n 1, 1) := dk_27 (bs_at BX12_hill_39 7 rfl)
theorem dX12_hill_56 : decode cX12_hill 56 = .ok (.iconst (-1), 1) := dk_2 (bs_at BX12_hill_39 8 rfl)
theorem dX12_hill_57 : decode cX12_hill 57 = .ok (.if_icmp .ne 7, 3) := dk_160 0 7 (bs_at BX12_hill_39 9 rfl) rfl
theorem dX12_hill_60 : decode cX12_hill 60 = .ok (.iload_n 2, 1) := dk_28 (bs_at BX12_hill_39 10 rfl)
theorem dX12_hill_61 : decode cX12_hill 61 = .ok (.goto 4, 3) := dk_167 0 4 (bs_at BX12_hill_39 11 rfl) rfl
theorem dX12_hill_64 : decode cX12_hill 64 = .ok (.iload_n 3, 1) := dk_29 (bs_at BX12_hill_39 12 rfl)
theorem dX12_hill_65 : decode cX12_hill 65 = .ok (.ireturn, 1) := dk_172 (bs_at BX12_hill_39 13 rfl)
theorem ggX12_goOnBy_X12_goOn : GoodIn wsX12_goOnBy wsX12_goOn := gi_ch ch_X12_goOnBy ch_X12_goOn (by decide +kernel)
theorem gX12_goOnBy_X12_goOn : GoodIn wsX12_goOnBy (wsV RX12 464 RX12 yX12_goOn wsX12_goOn) := gi_ch ch_X12_goOnBy (ch_v [1245, 1246, 127, 156] rfl ch_X12_goOn) (by decide +kernel)
theorem ggX12_hear_X12_in : GoodIn wsX12_hear wsX12_in := gi_ch ch_X12_hear ch_X12_in (by decide +kernel)
theorem gX12_hear_X12_in : GoodIn wsX12_hear (va_wsS RX12 178 yX12_in wsX12_in) := gi_ch ch_X12_hear (ch_s [965, 966, 156] rfl ch_X12_in) (by decide +kernel)
theorem ggX12_hear_X12_tell : GoodIn wsX12_hear wsX12_tell := gi_ch ch_X12_hear ch_X12_tell (by decide +kernel)
theorem gX12_hear_X12_tell : GoodIn wsX12_hear (wsV RX12 171 RX12 yX12_tell wsX12_tell) := gi_ch ch_X12_hear (ch_v [955, 956, 74, 156] rfl ch_X12_tell) (by decide +kernel)
theorem ggX12_isAsHeard_X12_is : GoodIn wsX12_isAsHeard wsX12_is := gi_ch ch_X12_isAsHeard ch_X12_is (by decide +kernel)
theorem gX12_isAsHeard_X12_is : GoodIn wsX12_isAsHeard (va_wsS RX12 436 yX12_is wsX12_is) := gi_ch ch_X12_isAsHeard (ch_s [1189, 1190, 156] rfl ch_X12_is) (by decide +kernel)
theorem ggX12_hill_X12_isAsHeard : GoodIn wsX12_hill wsX12_isAsHeard := gi_ch ch_X12_hill ch_X12_isAsHeard (by decide +kernel)
theorem gX12_hill_X12_isAsHeard : GoodIn wsX12_hill (wsV RX12 515 RX12 yX12_isAsHeard wsX12_isAsHeard) := gi_ch ch_X12_hill (ch_v [1307, 1308, 136, 156] rfl ch_X12_isAsHeard) (by decide +kernel)
set_option maxRecDepth 100000 in
noncomputable def E_v_goOnBy_l2 (x : Int32) (rec_232 : Int32 → (Nat → Int32) → ((Nat → Int32))) (v_214 : Int32) (f_215 : Nat → Int32) : (Nat → Int32) :=
  if x ≤ v_214 then ((f_215 : (Nat → Int32))) else (Lt (E_v_goOn f_215) (fun u_236_2_1_0 => Lt (v_214 + Int32.ofInt 1 : Int32) (fun x_240 => rec_232 x_240 u_236_2_1_0)))
set_option maxRecDepth 100000 in
noncomputable def E_v_goOnBy (x : Int32) (fw : Nat → Int32) : (Nat → Int32) :=
  Lp (α := Int32 → (Nat → Int32) → ((Nat → Int32))) (E_v_goOnBy_l2 x) (fun _ _ => ((fun _ => 0) : Nat → Int32)) ((13 - (0 : Int32).toInt : Int).toNat + 1) 0 fw
set_option maxHeartbeats 4000000 in
set_option maxRecDepth 100000 in
theorem v_goOnBy (l : Launch) (D : va_G) (K : Nat → ClassId) (m0 : Nat) (x : Int32) (m_0 : Value) (m_1 : Value) (m_2 : Value) (w0 : Nat) (m_4 : Value) (m_5 : Value) (m_6 : Value) (m_7 : Value) (m_8 : Value) (m_9 : Value) (m_10 : Value) (m_11 : Value) (m_12 : Value) (m_13 : Value) (m_14 : Value) (m_15 : Value) (m_16 : Value) (m_17 : Value) (m_18 : Value) (m_19 : Value) (m_20 : Value) (m_21 : Value) (m_22 : Value) (m_23 : Value) (m_24 : Value) (m_25 : Value) (m_26 : Value) (m_27 : Value) (m_28 : Value) (m_29 : Value) (m_30 : Value) (m_31 : Value) (m_32 : Value) (m_33 : Value) (m_34 : Value) (m_35 : Value) (m_36 : Value) (m_37 : Value) (m_38 : Value) (m_39 : Value) (m_40 : Value) (m_41 : Value) (m_42 : Value) (m_43 : Value) (m_44 : Value) (m_45 : Value) (m_46 : Value) (m_47 : Value) (m_48 : Value) (m_49 : Value) (m_50 : Value) (m_51 : Value) (m_52 : Value) (m_53 : Value) (m_54 : Value) (m_55 : Value) (m_56 : Value) (m_57 : Value) (m_58 : Value) (m_59 : Value) (fw : Nat → Int32) (gr : Nat → Int32) (sz : Nat) (zx : 0 ≤ x.toInt ∧ x.toInt ≤ 12) (zfw : RwOK fw) (zgr : FzM gr fw) : Met l yX12_goOnBy wsX12_goOnBy ({ frames := 2, cells := 0, slots := 0, locals := 41 }) (va_Pc [.ref m0, .int x] (Pre D K [(cc_O m0 12 [m_0, m_1, m_2, .ref w0, m_4, m_5, m_6, m_7, m_8, m_9, m_10, m_11, m_12, m_13, m_14, m_15, m_16, m_17, m_18, m_19, m_20, m_21, m_22, m_23, m_24, m_25, m_26, m_27, m_28, m_29, m_30, m_31, m_32, m_33, m_34, m_35, m_36, m_37, m_38, m_39, m_40, m_41, m_42, m_43, m_44, m_45, m_46, m_47, m_48, m_49, m_50, m_51, m_52, m_53, m_54, m_55, m_56, m_57, m_58, m_59]), (cc_l w0 (K 0) 5500 fw)] sz)) (va_Qv (S := Su) (fun (u : Su) => (RwOK (u.2.1 0)) ∧ (FzM gr (u.2.1 0)) ∧ ((u.2.1 0) = E_v_goOnBy x fw) ∧ True) (fun u t => Wd D (va_A [(cc_O m0 12 [m_0, m_1, m_2, .ref w0, m_4, m_5, m_6, m_7, m_8, m_9, m_10, m_11, m_12, m_13, m_14, m_15, m_16, m_17, m_18, m_19, m_20, m_21, m_22, m_23, m_24, m_25, m_26, m_27, m_28, m_29, m_30, m_31, m_32, m_33, m_34, m_35, m_36, m_37, m_38, m_39, m_40, m_41, m_42, m_43, m_44, m_45, m_46, m_47, m_48, m_49, m_50, m_51, m_52, m_53, m_54, m_55, m_56, m_57, m_58, m_59]), (cc_l w0 (K 0) 5500 fw)] sz) ((fun u => [(cc_O m0 12 [m_0, m_1, m_2, .ref w0, m_4, m_5, m_6, m_7, m_8, m_9, m_10, m_11, m_12, m_13, m_14, m_15, m_16, m_17, m_18, m_19, m_20, m_21, m_22, m_23, m_24, m_25, m_26, m_27, m_28, m_29, m_30, m_31, m_32, m_33, m_34, m_35, m_36, m_37, m_38, m_39, m_40, m_41, m_42, m_43, m_44, m_45, m_46, m_47, m_48, m_49, m_50, m_51, m_52, m_53, m_54, m_55, m_56, m_57, m_58, m_59]), (cc_l w0 (K 0) 5500 (u.2.1 0))]) u) t) (va_A [(cc_O m0 12 [m_0, m_1, m_2, .ref w0, m_4, m_5, m_6, m_7, m_8, m_9, m_10, m_11, m_12, m_13, m_14, m_15, m_16, m_17, m_18, m_19, m_20, m_21, m_22, m_23, m_24, m_25, m_26, m_27, m_28, m_29, m_30, m_31, m_32, m_33, m_34, m_35, m_36, m_37, m_38, m_39, m_40, m_41, m_42, m_43, m_44, m_45, m_46, m_47, m_48, m_49, m_50, m_51, m_52, m_53, m_54, m_55, m_56, m_57, m_58, m_59]), (cc_l w0 (K 0) 5500 fw)] sz)) 0 0 (va_A [(cc_O m0 12 [m_0, m_1, m_2, .ref w0, m_4, m_5, m_6, m_7, m_8, m_9, m_10, m_11, m_12, m_13, m_14, m_15, m_16, m_17, m_18, m_19, m_20, m_21, m_22, m_23, m_24, m_25, m_26, m_27, m_28, m_29, m_30, m_31, m_32, m_33, m_34, m_35, m_36, m_37, m_38, m_39, m_40, m_41, m_42, m_43, m_44, m_45, m_46, m_47, m_48, m_49, m_50, m_51, m_52, m_53, m_54, m_55, m_56, m_57, m_58, m_59]), (cc_l w0 (K 0) 5500 fw)] sz) := by
  refine Met.ofW (cc := cX12_goOnBy) (maxL := 3) (ret := none) (by decide +kernel) rfl ?_
  intro p e s m args below meth c s₁ B hml hv
  obtain ⟨rfl, hsz, hP, hK, hD0, hN⟩ := hv
  have hx := B.exec
  have hb := B.bytes
  have hr := B.returns
  have hts := atoms_spec (ws := wsX12_goOnBy) B.pre
  have hown : s.vm.findClass RX12 = some m.cls := findClass_of_methodNamed B.named
  have hlocks := B.notSynchronized
  subst hsz
  have hD := hD0.self (sz := s.heap.size)
  generalize hAe : va_A [(cc_O m0 12 [m_0, m_1, m_2, .ref w0, m_4, m_5, m_6, m_7, m_8, m_9, m_10, m_11, m_12, m_13, m_14, m_15, m_16, m_17, m_18, m_19, m_20, m_21, m_22, m_23, m_24, m_25, m_26, m_27, m_28, m_29, m_30, m_31, m_32, m_33, m_34, m_35, m_36, m_37, m_38, m_39, m_40, m_41, m_42, m_43, m_44, m_45, m_46, m_47, m_48, m_49, m_50, m_51, m_52, m_53, m_54, m_55, m_56, m_57, m_58, m_59]), (cc_l w0 (K 0) 5500 fw)] s.heap.size = A at hD ⊢
  have hA : ∀ q : Nat, s.heap.size ≤ q → A q := fun q h => by rw [← hAe]; exact Or.inr h
  clear hAe
  have hS : va_S A s.heap s.heap [] := va_S.rf
  replace hP : va_P D vwCl [(cc_O m0 12 [m_0, m_1, m_2, .ref w0, m_4, m_5, m_6, m_7, m_8, m_9, m_10, m_11, m_12, m_13, m_14, m_15, m_16, m_17, m_18, m_19, m_20, m_21, m_22, m_23, m_24, m_25, m_26, m_27, m_28, m_29, m_30, m_31, m_32, m_33, m_34, m_35, m_36, m_37, m_38, m_39, m_40, m_41, m_42, m_43, m_44, m_45, m_46, m_47, m_48, m_49, m_50, m_51, m_52, m_53, m_54, m_55, m_56, m_57, m_58, m_59]), (cc_l w0 (K 0) 5500 fw)] s.heap := hP
  have hl := lv_entry [.ref m0, .int x] (n := 3) (Nat.le_of_ble_eq_true rfl)
  rw [lg_entry_eq]
  generalize (lg_sl [.ref m0, .int x] ++ List.replicate (3 - (lg_sl [.ref m0, .int x]).length) Slot.unset).toArray = ls at hl ⊢
  have hl : lv_has ls 3 [(0, .ref m0), (1, .int x)] := hl
  have hw12 : ∀ w ∈ wsX120, w ∈ wsX12_goOnBy := fun w h => (List.mem_cons_of_mem _ (List.mem_append_right _ h))
  generalize hQ : MQ below _ _ s _ _ _ = Q
  have hE := E_v_goOnBy.eq_def x fw
  refine lv_iconst (v := 0) hx hb dX12_goOnBy_0 (by decide +kernel) (lv_istore_n (lv' := [(2, .int 0), (0, .ref m0), (1, .int x)]) hx hb dX12_goOnBy_1 rfl hl (by decide +kernel) rfl (fun ls hl => ?_))
  have lp_232 : ∀ (nn_ : Nat) (v_214 : Int32) (f_215 : Nat → Int32) (hv_214 : 0 ≤ v_214.toInt ∧ v_214.toInt ≤ 12) (hf_215_0 : RwOK f_215) (hf_215_1 : FzM gr f_215) (hn : (13 - v_214.toInt : Int).toNat < nn_) (hE : E_v_goOnBy x fw = Lp (α := Int32 → (Nat → Int32) → ((Nat → Int32))) (E_v_goOnBy_l2 x) (fun _ _ => ((fun _ => 0) : Nat → Int32)) nn_ v_214 f_215) (H : Heap) (locs : List Loc) (hP : va_P D vwCl [(cc_O m0 12 [m_0, m_1, m_2, .ref w0, m_4, m_5, m_6, m_7, m_8, m_9, m_10, m_11, m_12, m_13, m_14, m_15, m_16, m_17, m_18, m_19, m_20, m_21, m_22, m_23, m_24, m_25, m_26, m_27, m_28, m_29, m_30, m_31, m_32, m_33, m_34, m_35, m_36, m_37, m_38, m_39, m_40, m_41, m_42, m_43, m_44, m_45, m_46, m_47, m_48, m_49, m_50, m_51, m_52, m_53, m_54, m_55, m_56, m_57, m_58, m_59]), (cc_l w0 (K 0) 5500 f_215)] H) (hD : va_D A [(cc_O m0 12 [m_0, m_1, m_2, .ref w0, m_4, m_5, m_6, m_7, m_8, m_9, m_10, m_11, m_12, m_13, m_14, m_15, m_16, m_17, m_18, m_19, m_20, m_21, m_22, m_23, m_24, m_25, m_26, m_27, m_28, m_29, m_30, m_31, m_32, m_33, m_34, m_35, m_36, m_37, m_38, m_39, m_40, m_41, m_42, m_43, m_44, m_45, m_46, m_47, m_48, m_49, m_50, m_51, m_52, m_53, m_54, m_55, m_56, m_57, m_58, m_59]), (cc_l w0 (K 0) 5500 f_215)]) (hS : va_S A s.heap H locs) (ls : Array Slot) (hl : lv_has ls 3 [(2, .int v_214), (0, .ref m0), (1, .int x)]), W p l e ({ frames := 2, cells := 0, slots := 0, locals := 41 }) s m (([.ref m0, .int x] : List Value).toArray) below meth c H locs 0 0 Q (F0 m 2 ls []) := by
    clear hE hP hD hS hl
    intro nn_
    induction nn_ with
    | zero =>
      intro v_214 f_215 hv_214 hf_215_0 hf_215_1 hn hE H locs hP hD hS ls hl
      exact absurd hn (Nat.not_lt_zero _)
    | succ nn_ ih_233 =>
      intro v_214 f_215 hv_214 hf_215_0 hf_215_1 hn hE H locs hP hD hS ls hl
      replace hE : E_v_goOnBy x fw = E_v_goOnBy_l2 x (Lp (α := Int32 → (Nat → Int32) → ((Nat → Int32))) (E_v_goOnBy_l2 x) (fun _ _ => ((fun _ => 0) : Nat → Int32)) nn_) v_214 f_215 := hE
      obtain ⟨rec_232, hrec_232⟩ : ∃ z9, z9 = Lp (α := Int32 → (Nat → Int32) → ((Nat → Int32))) (E_v_goOnBy_l2 x) (fun _ _ => ((fun _ => 0) : Nat → Int32)) nn_ := ⟨_, rfl⟩
      rw [← hrec_232] at hE
      replace hE := hE.trans (E_v_goOnBy_l2.eq_def _ _ _ _)
      refine lv_iload_n hx hb dX12_goOnBy_2 rfl (lv_at hl 0 rfl) (lv_iload_n hx hb dX12_goOnBy_3 rfl (lv_at hl 2 rfl) (lv_icmp_ge (tgt := 17) hx hb dX12_goOnBy_4 (by decide +kernel) (fun c_234 => ?_) (fun c_234 => ?_)))
      · have c_234i := i_le (x := x.toInt) (y := v_214.toInt) rfl rfl c_234
        replace hE := hE.trans (if_pos c_234)
        rw [← hQ]
        have hP9 := hP.sub (ws' := [(cc_O m0 12 [m_0, m_1, m_2, .ref w0, m_4, m_5, m_6, m_7, m_8, m_9, m_10, m_11, m_12, m_13, m_14, m_15, m_16, m_17, m_18, m_19, m_20, m_21, m_22, m_23, m_24, m_25, m_26, m_27, m_28, m_29, m_30, m_31, m_32, m_33, m_34, m_35, m_36, m_37, m_38, m_39, m_40, m_41, m_42, m_43, m_44, m_45, m_46, m_47, m_48, m_49, m_50, m_51, m_52, m_53, m_54, m_55, m_56, m_57, m_58, m_59]), (cc_l w0 (K 0) 5500 f_215)]) [0, 1] rfl
        have hD9 := sub_D hP9 hD [0, 1] (by decide +kernel) rfl
        exact W.vret hx hb hr (fun t ht hW => ⟨⟨((fun _ => 0, fun i => match i with | _ => f_215, fun _ => fun _ => 0, fun _ => 0, fun _ => 0, fun _ => fun _ => none) : Su), rfl, ⟨hf_215_0, hf_215_1, hE.symm, trivial⟩, (⟨by rw [ht]; exact hP9, hD9⟩ : Wd D A _ t)⟩, hS.F ht⟩) hS.2.2 dX12_goOnBy_17
      · have c_234i := i_nle (x := x.toInt) (y := v_214.toInt) rfl rfl c_234
        replace hE := hE.trans (if_neg c_234)
        refine lv_aload_n hx hb dX12_goOnBy_7 rfl (lv_at hl 1 rfl) (kcv (S := Su) (wr := []) (va_runV (As := []) (rest := []) ⟨hx, hb, hml, hown, hts⟩ (v_goOn l D K m0 m_0 m_1 m_2 w0 m_4 m_5 m_6 m_7 m_8 m_9 m_10 m_11 m_12 m_13 m_14 m_15 m_16 m_17 m_18 m_19 m_20 m_21 m_22 m_23 m_24 m_25 m_26 m_27 m_28 m_29 m_30 m_31 m_32 m_33 m_34 m_35 m_36 m_37 m_38 m_39 m_40 m_41 m_42 m_43 m_44 m_45 m_46 m_47 m_48 m_49 m_50 m_51 m_52 m_53 m_54 m_55 m_56 m_57 m_58 m_59 f_215 gr H.size hf_215_0 hf_215_1) (cwV 0 hts gX12_goOnBy_X12_goOn rfl rfl rfl (by decide +kernel) ⟨Nat.le_of_ble_eq_true rfl, Nat.le_of_ble_eq_true rfl⟩) (mkV hK hN (hP.sub [0, 1] rfl) (hD.sub [0, 1] (by decide +kernel) rfl) (ci := 12) (q0 := 0) rfl rfl) rfl rfl hl.1 rfl (lv_room (Nat.le_of_ble_eq_true rfl)) dX12_goOnBy_8 ⟨Nat.le_of_ble_eq_true rfl, Nat.le_of_ble_eq_true rfl⟩) hP hD hS hA [0, 1] [] rfl rfl (by decide +kernel) (by decide +kernel) (fun u_236 H locs hw hP0 hD0 hS0 => ?_))
        replace hP : va_P D vwCl [(cc_O m0 12 [m_0, m_1, m_2, .ref w0, m_4, m_5, m_6, m_7, m_8, m_9, m_10, m_11, m_12, m_13, m_14, m_15, m_16, m_17, m_18, m_19, m_20, m_21, m_22, m_23, m_24, m_25, m_26, m_27, m_28, m_29, m_30, m_31, m_32, m_33, m_34, m_35, m_36, m_37, m_38, m_39, m_40, m_41, m_42, m_43, m_44, m_45, m_46, m_47, m_48, m_49, m_50, m_51, m_52, m_53, m_54, m_55, m_56, m_57, m_58, m_59]), (cc_l w0 (K 0) 5500 (u_236.2.1 0))] H := hP0
        replace hD := as_D hP hD0 rfl
        replace hS := hS0
        clear hP0 hD0 hS0
        obtain ⟨k_237, k_238, k_239, -⟩ := hw
        replace hE := hE.trans (Lt_in k_239)
        obtain ⟨x_240, ex_240⟩ : ∃ y : Int32, y = v_214 + Int32.ofInt 1 := ⟨_, rfl⟩
        replace hE := hE.trans (Lt_in ex_240)
        have hx_240 : x_240.toInt = (v_214.toInt + 1) := by rw [ex_240]; exact i_add rfl (show (Int32.ofInt 1).toInt = 1 from rfl) (by omega)
        refine lv_iinc (v := x_240) (lv' := [(2, .int x_240), (0, .ref m0), (1, .int x)]) hx hb dX12_goOnBy_11 hl (k := 0) rfl (by rw [ex_240]) (by decide +kernel) rfl (fun ls hl => ?_)
        refine lv_goto (tgt := 2) hx hb dX12_goOnBy_14 (by decide +kernel) ?_
        exact ih_233 x_240 (u_236.2.1 0) (by rw [hx_240]; omega) k_237 k_238 (by omega) (hE.trans (by rw [hrec_232])) _ _ hP hD hS ls (lv_sub hl [0, 1, 2] rfl)
  exact lp_232 ((13 - (0 : Int32).toInt : Int).toNat + 1) 0 fw (by decide +kernel) zfw zgr (Nat.lt_succ_self _) hE _ _ hP hD hS ls (lv_sub hl [0, 1, 2] rfl)
set_option maxRecDepth 100000 in
noncomputable def E_v_hear (x : Int32) (thr : Int32) (sta : Int32) (fw : Nat → Int32) (frf : Nat → Int32) : Int32 × Int32 × (Nat → Int32) × (Nat → Int32) :=
  Lt ((x : Int32).toInt64 : Int64) (fun x_123 => Lt (E_v_in x_123 0 127) (fun r_124 => if r_124 = 1 then (Lt (fw (1 : Int32).toNatClampNeg : Int32) (fun x_130 => if x_130 = 6 then (Lt2 (E_v_tell (-5) sta frf) (fun r_143 q0_r_143 => Lt2 q0_r_143 (fun u_144_2_2_2_1_0 u_144_2_1_0 => ((r_143, u_144_2_2_2_1_0, fw, u_144_2_1_0) : Int32 × Int32 × (Nat → Int32) × (Nat → Int32))))) else (Lt (91 + x_130 : Int32) (fun x_132 => Lt (upd fw (x_132 : Int32).toNatClampNeg x : Nat → Int32) (fun f_133 => Lt (f_133 (1 : Int32).toNatClampNeg : Int32) (fun x_134 => Lt (x_134 + 1 : Int32) (fun x_135 => Lt (upd f_133 (1 : Int32).toNatClampNeg x_135 : Nat → Int32) (fun f_136 => Lt (x_130 + 1 : Int32) (fun x_137 => Lt2 (E_v_tell x_137 sta frf) (fun r_138 q0_r_138 => Lt2 q0_r_138 (fun u_139_2_2_2_1_0 u_139_2_1_0 => ((r_138, u_139_2_2_2_1_0, f_136, u_139_2_1_0) : Int32 × Int32 × (Nat → Int32) × (Nat → Int32))))))))))))) else (Lt2 (E_v_tell (-1) sta frf) (fun r_149 q0_r_149 => Lt2 q0_r_149 (fun u_150_2_2_2_1_0 u_150_2_1_0 => ((r_149, u_150_2_2_2_1_0, fw, u_150_2_1_0) : Int32 × Int32 × (Nat → Int32) × (Nat → Int32)))))))
set_option maxHeartbeats 4000000 in
set_option maxRecDepth 100000 in
theorem v_hear (l : Launch) (D : va_G) (K : Nat → ClassId) (m0 : Nat) (x : Int32) (thr : Int32) (sta : Int32) (r0 : Nat) (w0 : Nat) (m_4 : Value) (m_5 : Value) (m_6 : Value) (m_7 : Value) (m_8 : Value) (m_9 : Value) (m_10 : Value) (m_11 : Value) (m_12 : Value) (m_13 : Value) (m_14 : Value) (m_15 : Value) (m_16 : Value) (m_17 : Value) (m_18 : Value) (m_19 : Value) (m_20 : Value) (m_21 : Value) (m_22 : Value) (m_23 : Value) (m_24 : Value) (m_25 : Value) (m_26 : Value) (m_27 : Value) (m_28 : Value) (m_29 : Value) (m_30 : Value) (m_31 : Value) (m_32 : Value) (m_33 : Value) (m_34 : Value) (m_35 : Value) (m_36 : Value) (m_37 : Value) (m_38 : Value) (m_39 : Value) (m_40 : Value) (m_41 : Value) (m_42 : Value) (m_43 : Value) (m_44 : Value) (m_45 : Value) (m_46 : Value) (m_47 : Value) (m_48 : Value) (m_49 : Value) (m_50 : Value) (m_51 : Value) (m_52 : Value) (m_53 : Value) (m_54 : Value) (m_55 : Value) (m_56 : Value) (m_57 : Value) (m_58 : Value) (m_59 : Value) (fw : Nat → Int32) (frf : Nat → Int32) (sz : Nat) (zfw : RwOK fw) : Met l yX12_hear wsX12_hear ({ frames := 1, cells := 0, slots := 0, locals := 25 }) (va_Pc [.ref m0, .int x] (Pre D K [(cc_O m0 12 [.int thr, .int sta, .ref r0, .ref w0, m_4, m_5, m_6, m_7, m_8, m_9, m_10, m_11, m_12, m_13, m_14, m_15, m_16, m_17, m_18, m_19, m_20, m_21, m_22, m_23, m_24, m_25, m_26, m_27, m_28, m_29, m_30, m_31, m_32, m_33, m_34, m_35, m_36, m_37, m_38, m_39, m_40, m_41, m_42, m_43, m_44, m_45, m_46, m_47, m_48, m_49, m_50, m_51, m_52, m_53, m_54, m_55, m_56, m_57, m_58, m_59]), (cc_l w0 (K 0) 5500 fw), (cc_l r0 (K 0) 7 frf)] sz)) (va_Qi (S := Su) (fun (r : Int32) (u : Su) => ((-6) ≤ r.toInt) ∧ ((-6) ≤ (u.2.2.2.1 0).toInt ∧ (u.2.2.2.1 0).toInt ≤ 0) ∧ (RwOK (u.2.1 0)) ∧ ((r, (u.2.2.2.1 0), (u.2.1 0), (u.2.1 1)) = E_v_hear x thr sta fw frf) ∧ True) (fun u t => Wd D (va_A [(cc_O m0 12 [.int thr, .int sta, .ref r0, .ref w0, m_4, m_5, m_6, m_7, m_8, m_9, m_10, m_11, m_12, m_13, m_14, m_15, m_16, m_17, m_18, m_19, m_20, m_21, m_22, m_23, m_24, m_25, m_26, m_27, m_28, m_29, m_30, m_31, m_32, m_33, m_34, m_35, m_36, m_37, m_38, m_39, m_40, m_41, m_42, m_43, m_44, m_45, m_46, m_47, m_48, m_49, m_50, m_51, m_52, m_53, m_54, m_55, m_56, m_57, m_58, m_59]), (cc_l w0 (K 0) 5500 fw), (cc_l r0 (K 0) 7 frf)] sz) ((fun u => [(cc_O m0 12 [.int 0, .int (u.2.2.2.1 0), .ref r0, .ref w0, m_4, m_5, m_6, m_7, m_8, m_9, m_10, m_11, m_12, m_13, m_14, m_15, m_16, m_17, m_18, m_19, m_20, m_21, m_22, m_23, m_24, m_25, m_26, m_27, m_28, m_29, m_30, m_31, m_32, m_33, m_34, m_35, m_36, m_37, m_38, m_39, m_40, m_41, m_42, m_43, m_44, m_45, m_46, m_47, m_48, m_49, m_50, m_51, m_52, m_53, m_54, m_55, m_56, m_57, m_58, m_59]), (cc_l w0 (K 0) 5500 (u.2.1 0)), (cc_l r0 (K 0) 7 (u.2.1 1))]) u) t) (va_A [(cc_O m0 12 [.int thr, .int sta, .ref r0, .ref w0, m_4, m_5, m_6, m_7, m_8, m_9, m_10, m_11, m_12, m_13, m_14, m_15, m_16, m_17, m_18, m_19, m_20, m_21, m_22, m_23, m_24, m_25, m_26, m_27, m_28, m_29, m_30, m_31, m_32, m_33, m_34, m_35, m_36, m_37, m_38, m_39, m_40, m_41, m_42, m_43, m_44, m_45, m_46, m_47, m_48, m_49, m_50, m_51, m_52, m_53, m_54, m_55, m_56, m_57, m_58, m_59]), (cc_l w0 (K 0) 5500 fw), (cc_l r0 (K 0) 7 frf)] sz)) 0 0 (va_A [(cc_O m0 12 [.int thr, .int sta, .ref r0, .ref w0, m_4, m_5, m_6, m_7, m_8, m_9, m_10, m_11, m_12, m_13, m_14, m_15, m_16, m_17, m_18, m_19, m_20, m_21, m_22, m_23, m_24, m_25, m_26, m_27, m_28, m_29, m_30, m_31, m_32, m_33, m_34, m_35, m_36, m_37, m_38, m_39, m_40, m_41, m_42, m_43, m_44, m_45, m_46, m_47, m_48, m_49, m_50, m_51, m_52, m_53, m_54, m_55, m_56, m_57, m_58, m_59]), (cc_l w0 (K 0) 5500 fw), (cc_l r0 (K 0) 7 frf)] sz) := by
  refine Met.ofW (cc := cX12_hear) (maxL := 3) (ret := (some .int)) (by decide +kernel) rfl ?_
  intro p e s m args below meth c s₁ B hml hv
  obtain ⟨rfl, hsz, hP, hK, hD0, hN⟩ := hv
  have hx := B.exec
  have hb := B.bytes
  have hr := B.returns
  have hts := atoms_spec (ws := wsX12_hear) B.pre
  have hown : s.vm.findClass RX12 = some m.cls := findClass_of_methodNamed B.named
  have hlocks := B.notSynchronized
  subst hsz
  have hD := hD0.self (sz := s.heap.size)
  generalize hAe : va_A [(cc_O m0 12 [.int thr, .int sta, .ref r0, .ref w0, m_4, m_5, m_6, m_7, m_8, m_9, m_10, m_11, m_12, m_13, m_14, m_15, m_16, m_17, m_18, m_19, m_20, m_21, m_22, m_23, m_24, m_25, m_26, m_27, m_28, m_29, m_30, m_31, m_32, m_33, m_34, m_35, m_36, m_37, m_38, m_39, m_40, m_41, m_42, m_43, m_44, m_45, m_46, m_47, m_48, m_49, m_50, m_51, m_52, m_53, m_54, m_55, m_56, m_57, m_58, m_59]), (cc_l w0 (K 0) 5500 fw), (cc_l r0 (K 0) 7 frf)] s.heap.size = A at hD ⊢
  have hA : ∀ q : Nat, s.heap.size ≤ q → A q := fun q h => by rw [← hAe]; exact Or.inr h
  clear hAe
  have hS : va_S A s.heap s.heap [] := va_S.rf
  replace hP : va_P D vwCl [(cc_O m0 12 [.int thr, .int sta, .ref r0, .ref w0, m_4, m_5, m_6, m_7, m_8, m_9, m_10, m_11, m_12, m_13, m_14, m_15, m_16, m_17, m_18, m_19, m_20, m_21, m_22, m_23, m_24, m_25, m_26, m_27, m_28, m_29, m_30, m_31, m_32, m_33, m_34, m_35, m_36, m_37, m_38, m_39, m_40, m_41, m_42, m_43, m_44, m_45, m_46, m_47, m_48, m_49, m_50, m_51, m_52, m_53, m_54, m_55, m_56, m_57, m_58, m_59]), (cc_l w0 (K 0) 5500 fw), (cc_l r0 (K 0) 7 frf)] s.heap := hP
  have hl := lv_entry [.ref m0, .int x] (n := 3) (Nat.le_of_ble_eq_true rfl)
  rw [lg_entry_eq]
  generalize (lg_sl [.ref m0, .int x] ++ List.replicate (3 - (lg_sl [.ref m0, .int x]).length) Slot.unset).toArray = ls at hl ⊢
  have hl : lv_has ls 3 [(0, .ref m0), (1, .int x)] := hl
  have hw12 : ∀ w ∈ wsX120, w ∈ wsX12_hear := fun w h => (List.mem_cons_of_mem _ (List.mem_append_right _ h))
  generalize hQ : MQ below _ _ s _ _ _ = Q
  have hE := E_v_hear.eq_def x thr sta fw frf
  refine lv_aload_n hx hb dX12_hear_0 rfl (lv_at hl 0 rfl) (lv_iconst (v := 0) hx hb dX12_hear_1 (by decide +kernel) (va_put (ci := 12) (v := .int 0) (ty := .int) (C := RX12) (T := TX12) (N := 60) hx hb hts hw12 tyX12 tyX12_ok nmX12 hown hK hP hD hS 0 rfl rfl 0 (by decide +kernel) (hts _ mm_X12_hear_830) (fun _ h9 => h9) rfl (by decide +kernel) (by first | rfl | decide) (by first | rfl | decide) (Nat.le_of_ble_eq_true rfl) dX12_hear_2 (fun H locs hP0 hD0 hS0 => ?_)))
  replace hP : va_P D vwCl [(cc_O m0 12 [.int 0, .int sta, .ref r0, .ref w0, m_4, m_5, m_6, m_7, m_8, m_9, m_10, m_11, m_12, m_13, m_14, m_15, m_16, m_17, m_18, m_19, m_20, m_21, m_22, m_23, m_24, m_25, m_26, m_27, m_28, m_29, m_30, m_31, m_32, m_33, m_34, m_35, m_36, m_37, m_38, m_39, m_40, m_41, m_42, m_43, m_44, m_45, m_46, m_47, m_48, m_49, m_50, m_51, m_52, m_53, m_54, m_55, m_56, m_57, m_58, m_59]), (cc_l w0 (K 0) 5500 fw), (cc_l r0 (K 0) 7 frf)] H := hP0
  replace hD := as_D hP hD0 rfl
  replace hS := hS0
  clear hP0 hD0 hS0
  refine lv_iload_n hx hb dX12_hear_5 rfl (lv_at hl 1 rfl) (lv_i2l hx hb dX12_hear_6 rfl (lv_topl (fun x_123 ex_123 => ?_)))
  replace hE := hE.trans (Lt_in ex_123)
  have hx_123 : x_123.toInt = x.toInt := by rw [ex_123]; exact i_wide rfl
  have hbx_123 := i_rng (a := x) rfl
  refine lv_lconst (v := 0) hx hb dX12_hear_7 (by decide +kernel) (lv_ldc2 (v := 127) hx hb hown (hts _ mm_X12_hear_1029) dX12_hear_8 (pci (va_runS (As := [.long x_123, .long 0, .long 127]) (rest := []) ⟨hx, hb, hml, hown, hts⟩ (v_in l D K x.toInt 0 127 x_123 0 127 H.size hx_123 (show (0 : Int64).toInt = 0 from rfl) (show (127 : Int64).toInt = 127 from rfl)) (va_cwS 3 hts gX12_hear_X12_in rfl rfl rfl (by decide +kernel) ⟨Nat.le_of_ble_eq_true rfl, Nat.le_of_ble_eq_true rfl⟩) (mkS hK hN (va_P.nil) (va_D.nil (A := fun _ => True))) rfl rfl hl.1 rfl (lv_room (Nat.le_of_ble_eq_true rfl)) dX12_hear_11 ⟨Nat.le_of_ble_eq_true rfl, Nat.le_of_ble_eq_true rfl⟩) (fun r_124 hw => ?_)))
  obtain ⟨hw, k_125, -⟩ := hw
  replace hE := hE.trans (Lt_in k_125)
  rcases hw with ⟨rfl, h_126, h_127⟩ | ⟨rfl, h_128⟩
  · replace hE := (hE).trans (if_pos rfl)
    refine lv_if_ne (tgt := 23) hx hb dX12_hear_14 (by decide +kernel) (fun c_129 => ?_) (fun c_129 => absurd c_129 (by decide +kernel))
    refine lv_aload_n hx hb dX12_hear_23 rfl (lv_at hl 0 rfl) (va_get (ci := 12) (v := .ref w0) (C := RX12) (T := TX12) (N := 60) hx hb hts hw12 hown hK hP 0 rfl rfl 3 (by decide +kernel) (hts _ mm_X12_hear_833) (fun _ h9 => h9) rfl dX12_hear_24 (lv_iconst (v := 1) hx hb dX12_hear_27 (by decide +kernel) (va_iald hx hb hK hP 1 0 rfl rfl (i_in (x := 1) rfl (by omega)) dX12_hear_28 (lv_topi (fun x_130 ex_130 => ?_)))))
    replace hE := hE.trans (Lt_in ex_130)
    have px_130 := RwOK.at zfw (show (1 : Int32).toInt = 1 from rfl) (show 0 ≤ 1 ∧ 1 < 100 by omega)
    rw [← ex_130] at px_130
    have hx_130 := PR.r_1 px_130 (by omega)
    have kx_130 : fw 1 = x_130 := ex_130.symm
    refine lv_istore_n (lv' := [(2, .int x_130), (0, .ref m0), (1, .int x)]) hx hb dX12_hear_29 rfl hl (by decide +kernel) rfl (fun ls hl => ?_)
    refine lv_iload_n hx hb dX12_hear_30 rfl (lv_at hl 0 rfl) (lv_bipush (v := 6) hx hb dX12_hear_31 (by decide +kernel) (lv_icmp_ne (tgt := 43) hx hb dX12_hear_33 (by decide +kernel) (fun c_131 => ?_) (fun c_131 => ?_)))
    · have c_131i := i_ne (x := x_130.toInt) (y := 6) rfl rfl c_131
      replace hE := hE.trans (if_neg c_131)
      refine lv_aload_n hx hb dX12_hear_43 rfl (lv_at hl 1 rfl) (va_get (ci := 12) (v := .ref w0) (C := RX12) (T := TX12) (N := 60) hx hb hts hw12 hown hK hP 0 rfl rfl 3 (by decide +kernel) (hts _ mm_X12_hear_833) (fun _ h9 => h9) rfl dX12_hear_44 (lv_bipush (v := 91) hx hb dX12_hear_47 (by decide +kernel) (lv_iload_n hx hb dX12_hear_49 rfl (lv_at hl 0 rfl) (lv_iadd hx hb dX12_hear_50 (lv_topi (fun x_132 ex_132 => ?_))))))
      replace hE := hE.trans (Lt_in ex_132)
      have hx_132 : x_132.toInt = (91 + x_130.toInt) := by rw [ex_132]; exact i_add (show (91 : Int32).toInt = 91 from rfl) rfl (by omega)
      refine lv_iload_n hx hb dX12_hear_51 rfl (lv_at hl 2 rfl) (va_iast hx hb hK hP hD hS 1 0 rfl rfl (i_in hx_132 (by omega)) dX12_hear_52 (fun H locs hP0 hD0 hS0 => ?_))
      replace hP := hP0
      replace hD := hD0
      replace hS := hS0
      clear hP0 hD0 hS0
      generalize hf_133 : (upd fw (x_132 : Int32).toNatClampNeg x) = f_133 at hP hD
      replace hE := hE.trans (Lt_in hf_133.symm)
      have hf_133_0 : RwOK f_133 := by rw [← hf_133]; exact RwOK.upd zfw hx_132 (by omega) rfl (PR.free (by omega))
      have hf_133_1 : f_133 1 = x_130 := by rw [← hf_133]; exact (pk_un (show ¬ 1 = _ by rw [i_clamp hx_132]; omega)).trans kx_130
      replace hP : va_P D vwCl [(cc_O m0 12 [.int 0, .int sta, .ref r0, .ref w0, m_4, m_5, m_6, m_7, m_8, m_9, m_10, m_11, m_12, m_13, m_14, m_15, m_16, m_17, m_18, m_19, m_20, m_21, m_22, m_23, m_24, m_25, m_26, m_27, m_28, m_29, m_30, m_31, m_32, m_33, m_34, m_35, m_36, m_37, m_38, m_39, m_40, m_41, m_42, m_43, m_44, m_45, m_46, m_47, m_48, m_49, m_50, m_51, m_52, m_53, m_54, m_55, m_56, m_57, m_58, m_59]), (cc_l w0 (K 0) 5500 f_133), (cc_l r0 (K 0) 7 frf)] H := hP
      replace hD := as_D hP hD rfl
      refine lv_aload_n hx hb dX12_hear_53 rfl (lv_at hl 1 rfl) (va_get (ci := 12) (v := .ref w0) (C := RX12) (T := TX12) (N := 60) hx hb hts hw12 hown hK hP 0 rfl rfl 3 (by decide +kernel) (hts _ mm_X12_hear_833) (fun _ h9 => h9) rfl dX12_hear_54 (lv_iconst (v := 1) hx hb dX12_hear_57 (by decide +kernel) (lv_dup2_11 hx hb dX12_hear_58 rfl rfl (va_iald hx hb hK hP 1 0 rfl rfl (i_in (x := 1) rfl (by omega)) dX12_hear_59 (lv_topi (fun x_134 ex_134 => ?_))))))
      replace hE := hE.trans (Lt_in ex_134)
      have erx_134 : x_134 = x_130 := ex_134.trans hf_133_1
      have hrx_134 : x_134.toInt = x_130.toInt := (congrArg Int32.toInt erx_134).trans rfl
      refine lv_iconst (v := 1) hx hb dX12_hear_60 (by decide +kernel) (lv_iadd hx hb dX12_hear_61 (lv_topi (fun x_135 ex_135 => ?_)))
      replace hE := hE.trans (Lt_in ex_135)
      have hx_135 : x_135.toInt = (x_130.toInt + 1) := by rw [ex_135]; exact i_add hrx_134 (show (1 : Int32).toInt = 1 from rfl) (by omega)
      refine va_iast hx hb hK hP hD hS 1 0 rfl rfl (i_in (x := 1) rfl (by omega)) dX12_hear_62 (fun H locs hP0 hD0 hS0 => ?_)
      replace hP := hP0
      replace hD := hD0
      replace hS := hS0
      clear hP0 hD0 hS0
      generalize hf_136 : (upd f_133 (1 : Int32).toNatClampNeg x_135) = f_136 at hP hD
      replace hE := hE.trans (Lt_in hf_136.symm)
      have hf_136_0 : RwOK f_136 := by rw [← hf_136]; exact RwOK.upd hf_133_0 (show (1 : Int32).toInt = 1 from rfl) (by omega) hx_135 (PR.w_1 (by omega) (by omega))
      have kf_136 : f_136 1 = x_135 := by rw [← hf_136]; exact pk_us
      replace hP : va_P D vwCl [(cc_O m0 12 [.int 0, .int sta, .ref r0, .ref w0, m_4, m_5, m_6, m_7, m_8, m_9, m_10, m_11, m_12, m_13, m_14, m_15, m_16, m_17, m_18, m_19, m_20, m_21, m_22, m_23, m_24, m_25, m_26, m_27, m_28, m_29, m_30, m_31, m_32, m_33, m_34, m_35, m_36, m_37, m_38, m_39, m_40, m_41, m_42, m_43, m_44, m_45, m_46, m_47, m_48, m_49, m_50, m_51, m_52, m_53, m_54, m_55, m_56, m_57, m_58, m_59]), (cc_l w0 (K 0) 5500 f_136), (cc_l r0 (K 0) 7 frf)] H := hP
      replace hD := as_D hP hD rfl
      refine lv_aload_n hx hb dX12_hear_63 rfl (lv_at hl 1 rfl) (lv_iload_n hx hb dX12_hear_64 rfl (lv_at hl 0 rfl) (lv_iconst (v := 1) hx hb dX12_hear_65 (by decide +kernel) (lv_iadd hx hb dX12_hear_66 (lv_topi (fun x_137 ex_137 => ?_)))))
      replace hE := hE.trans (Lt_in ex_137)
      have hx_137 : x_137.toInt = (x_130.toInt + 1) := by rw [ex_137]; exact i_add rfl (show (1 : Int32).toInt = 1 from rfl) (by omega)
      refine kci (S := Su) (wr := [(cc_l w0 (K 0) 5500 f_136)]) (va_runV (As := [.int x_137]) (rest := []) ⟨hx, hb, hml, hown, hts⟩ (v_tell l D K m0 x_137 (.int 0) sta r0 (.ref w0) m_4 m_5 m_6 m_7 m_8 m_9 m_10 m_11 m_12 m_13 m_14 m_15 m_16 m_17 m_18 m_19 m_20 m_21 m_22 m_23 m_24 m_25 m_26 m_27 m_28 m_29 m_30 m_31 m_32 m_33 m_34 m_35 m_36 m_37 m_38 m_39 m_40 m_41 m_42 m_43 m_44 m_45 m_46 m_47 m_48 m_49 m_50 m_51 m_52 m_53 m_54 m_55 m_56 m_57 m_58 m_59 frf H.size (by first | omega | decide)) (cwV 1 hts gX12_hear_X12_tell rfl rfl rfl (by decide +kernel) ⟨Nat.le_of_ble_eq_true rfl, Nat.le_of_ble_eq_true rfl⟩) (mkV hK hN (hP.sub [0, 2] rfl) (hD.sub [0, 2] (by decide +kernel) rfl) (ci := 12) (q0 := 0) rfl rfl) rfl rfl hl.1 rfl (lv_room (Nat.le_of_ble_eq_true rfl)) dX12_hear_67 ⟨Nat.le_of_ble_eq_true rfl, Nat.le_of_ble_eq_true rfl⟩) hP hD hS hA [0, 2] [1] rfl rfl (by decide +kernel) (by decide +kernel) (fun r_138 u_139 H locs hw hP0 hD0 hS0 => ?_)
      replace hP : va_P D vwCl [(cc_l w0 (K 0) 5500 f_136), (cc_O m0 12 [.int 0, .int (u_139.2.2.2.1 0), .ref r0, .ref w0, m_4, m_5, m_6, m_7, m_8, m_9, m_10, m_11, m_12, m_13, m_14, m_15, m_16, m_17, m_18, m_19, m_20, m_21, m_22, m_23, m_24, m_25, m_26, m_27, m_28, m_29, m_30, m_31, m_32, m_33, m_34, m_35, m_36, m_37, m_38, m_39, m_40, m_41, m_42, m_43, m_44, m_45, m_46, m_47, m_48, m_49, m_50, m_51, m_52, m_53, m_54, m_55, m_56, m_57, m_58, m_59]), (cc_l r0 (K 0) 7 (u_139.2.1 0))] H := hP0
      replace hD := as_D hP hD0 rfl
      replace hS := hS0
      clear hP0 hD0 hS0
      obtain ⟨h_142, k_140, k_141, -⟩ := hw
      replace hE := (hE.trans (Lt2_in k_141)).trans (Lt2_in rfl)
      rw [← hQ]
      have hP9 := hP.sub (ws' := [(cc_O m0 12 [.int 0, .int (u_139.2.2.2.1 0), .ref r0, .ref w0, m_4, m_5, m_6, m_7, m_8, m_9, m_10, m_11, m_12, m_13, m_14, m_15, m_16, m_17, m_18, m_19, m_20, m_21, m_22, m_23, m_24, m_25, m_26, m_27, m_28, m_29, m_30, m_31, m_32, m_33, m_34, m_35, m_36, m_37, m_38, m_39, m_40, m_41, m_42, m_43, m_44, m_45, m_46, m_47, m_48, m_49, m_50, m_51, m_52, m_53, m_54, m_55, m_56, m_57, m_58, m_59]), (cc_l w0 (K 0) 5500 f_136), (cc_l r0 (K 0) 7 (u_139.2.1 0))]) [1, 0, 2] rfl
      have hD9 := sub_D hP9 hD [1, 0, 2] (by decide +kernel) rfl
      exact W.iret (v := r_138) hx hb hr (fun t ht hW => ⟨⟨r_138, ((fun _ => 0, fun i => match i with | 0 => f_136 | _ => (u_139.2.1 0), fun _ => fun _ => 0, fun i => match i with | _ => (u_139.2.2.2.1 0), fun _ => 0, fun _ => fun _ => none) : Su), rfl, ⟨(show (-6) ≤ r_138.toInt by omega), (show (-6) ≤ ((u_139.2.2.2.1 0) : Int32).toInt ∧ ((u_139.2.2.2.1 0) : Int32).toInt ≤ 0 by omega), hf_136_0, hE.symm, trivial⟩, (⟨by rw [ht]; exact hP9, hD9⟩ : Wd D A _ t)⟩, hS.F ht⟩) hS.2.2 dX12_hear_70
    · have c_131i := i_eq (x := x_130.toInt) (y := 6) rfl rfl c_131
      replace hE := hE.trans (if_pos c_131)
      refine lv_aload_n hx hb dX12_hear_36 rfl (lv_at hl 1 rfl) (lv_bipush (v := (-5)) hx hb dX12_hear_37 (by decide +kernel) (kci (S := Su) (wr := [(cc_l w0 (K 0) 5500 fw)]) (va_runV (As := [.int (-5)]) (rest := []) ⟨hx, hb, hml, hown, hts⟩ (v_tell l D K m0 (-5) (.int 0) sta r0 (.ref w0) m_4 m_5 m_6 m_7 m_8 m_9 m_10 m_11 m_12 m_13 m_14 m_15 m_16 m_17 m_18 m_19 m_20 m_21 m_22 m_23 m_24 m_25 m_26 m_27 m_28 m_29 m_30 m_31 m_32 m_33 m_34 m_35 m_36 m_37 m_38 m_39 m_40 m_41 m_42 m_43 m_44 m_45 m_46 m_47 m_48 m_49 m_50 m_51 m_52 m_53 m_54 m_55 m_56 m_57 m_58 m_59 frf H.size (by first | omega | decide)) (cwV 1 hts gX12_hear_X12_tell rfl rfl rfl (by decide +kernel) ⟨Nat.le_of_ble_eq_true rfl, Nat.le_of_ble_eq_true rfl⟩) (mkV hK hN (hP.sub [0, 2] rfl) (hD.sub [0, 2] (by decide +kernel) rfl) (ci := 12) (q0 := 0) rfl rfl) rfl rfl hl.1 rfl (lv_room (Nat.le_of_ble_eq_true rfl)) dX12_hear_39 ⟨Nat.le_of_ble_eq_true rfl, Nat.le_of_ble_eq_true rfl⟩) hP hD hS hA [0, 2] [1] rfl rfl (by decide +kernel) (by decide +kernel) (fun r_143 u_144 H locs hw hP0 hD0 hS0 => ?_)))
      replace hP : va_P D vwCl [(cc_l w0 (K 0) 5500 fw), (cc_O m0 12 [.int 0, .int (u_144.2.2.2.1 0), .ref r0, .ref w0, m_4, m_5, m_6, m_7, m_8, m_9, m_10, m_11, m_12, m_13, m_14, m_15, m_16, m_17, m_18, m_19, m_20, m_21, m_22, m_23, m_24, m_25, m_26, m_27, m_28, m_29, m_30, m_31, m_32, m_33, m_34, m_35, m_36, m_37, m_38, m_39, m_40, m_41, m_42, m_43, m_44, m_45, m_46, m_47, m_48, m_49, m_50, m_51, m_52, m_53, m_54, m_55, m_56, m_57, m_58, m_59]), (cc_l r0 (K 0) 7 (u_144.2.1 0))] H := hP0
      replace hD := as_D hP hD0 rfl
      replace hS := hS0
      clear hP0 hD0 hS0
      obtain ⟨h_147, k_145, k_146, -⟩ := hw
      replace hE := (hE.trans (Lt2_in k_146)).trans (Lt2_in rfl)
      rw [← hQ]
      have hP9 := hP.sub (ws' := [(cc_O m0 12 [.int 0, .int (u_144.2.2.2.1 0), .ref r0, .ref w0, m_4, m_5, m_6, m_7, m_8, m_9, m_10, m_11, m_12, m_13, m_14, m_15, m_16, m_17, m_18, m_19, m_20, m_21, m_22, m_23, m_24, m_25, m_26, m_27, m_28, m_29, m_30, m_31, m_32, m_33, m_34, m_35, m_36, m_37, m_38, m_39, m_40, m_41, m_42, m_43, m_44, m_45, m_46, m_47, m_48, m_49, m_50, m_51, m_52, m_53, m_54, m_55, m_56, m_57, m_58, m_59]), (cc_l w0 (K 0) 5500 fw), (cc_l r0 (K 0) 7 (u_144.2.1 0))]) [1, 0, 2] rfl
      have hD9 := sub_D hP9 hD [1, 0, 2] (by decide +kernel) rfl
      exact W.iret (v := r_143) hx hb hr (fun t ht hW => ⟨⟨r_143, ((fun _ => 0, fun i => match i with | 0 => fw | _ => (u_144.2.1 0), fun _ => fun _ => 0, fun i => match i with | _ => (u_144.2.2.2.1 0), fun _ => 0, fun _ => fun _ => none) : Su), rfl, ⟨(show (-6) ≤ r_143.toInt by omega), (show (-6) ≤ ((u_144.2.2.2.1 0) : Int32).toInt ∧ ((u_144.2.2.2.1 0) : Int32).toInt ≤ 0 by omega), zfw, hE.symm, trivial⟩, (⟨by rw [ht]; exact hP9, hD9⟩ : Wd D A _ t)⟩, hS.F ht⟩) hS.2.2 dX12_hear_42
  · replace hE := (hE).trans (if_neg (by first | decide | (intro h9; have h8 := congrArg Int32.toInt h9; omega)))
    refine lv_if_ne (tgt := 23) hx hb dX12_hear_14 (by decide +kernel) (fun c_148 => absurd (by decide +kernel) c_148) (fun c_148 => ?_)
    refine lv_aload_n hx hb dX12_hear_17 rfl (lv_at hl 0 rfl) (lv_iconst (v := (-1)) hx hb dX12_hear_18 (by decide +kernel) (kci (S := Su) (wr := [(cc_l w0 (K 0) 5500 fw)]) (va_runV (As := [.int (-1)]) (rest := []) ⟨hx, hb, hml, hown, hts⟩ (v_tell l D K m0 (-1) (.int 0) sta r0 (.ref w0) m_4 m_5 m_6 m_7 m_8 m_9 m_10 m_11 m_12 m_13 m_14 m_15 m_16 m_17 m_18 m_19 m_20 m_21 m_22 m_23 m_24 m_25 m_26 m_27 m_28 m_29 m_30 m_31 m_32 m_33 m_34 m_35 m_36 m_37 m_38 m_39 m_40 m_41 m_42 m_43 m_44 m_45 m_46 m_47 m_48 m_49 m_50 m_51 m_52 m_53 m_54 m_55 m_56 m_57 m_58 m_59 frf H.size (by first | omega | decide)) (cwV 1 hts gX12_hear_X12_tell rfl rfl rfl (by decide +kernel) ⟨Nat.le_of_ble_eq_true rfl, Nat.le_of_ble_eq_true rfl⟩) (mkV hK hN (hP.sub [0, 2] rfl) (hD.sub [0, 2] (by decide +kernel) rfl) (ci := 12) (q0 := 0) rfl rfl) rfl rfl hl.1 rfl (lv_room (Nat.le_of_ble_eq_true rfl)) dX12_hear_19 ⟨Nat.le_of_ble_eq_true rfl, Nat.le_of_ble_eq_true rfl⟩) hP hD hS hA [0, 2] [1] rfl rfl (by decide +kernel) (by decide +kernel) (fun r_149 u_150 H locs hw hP0 hD0 hS0 => ?_)))
    replace hP : va_P D vwCl [(cc_l w0 (K 0) 5500 fw), (cc_O m0 12 [.int 0, .int (u_150.2.2.2.1 0), .ref r0, .ref w0, m_4, m_5, m_6, m_7, m_8, m_9, m_10, m_11, m_12, m_13, m_14, m_15, m_16, m_17, m_18, m_19, m_20, m_21, m_22, m_23, m_24, m_25, m_26, m_27, m_28, m_29, m_30, m_31, m_32, m_33, m_34, m_35, m_36, m_37, m_38, m_39, m_40, m_41, m_42, m_43, m_44, m_45, m_46, m_47, m_48, m_49, m_50, m_51, m_52, m_53, m_54, m_55, m_56, m_57, m_58, m_59]), (cc_l r0 (K 0) 7 (u_150.2.1 0))] H := hP0
    replace hD := as_D hP hD0 rfl
    replace hS := hS0
    clear hP0 hD0 hS0
    obtain ⟨h_153, k_151, k_152, -⟩ := hw
    replace hE := (hE.trans (Lt2_in k_152)).trans (Lt2_in rfl)
    rw [← hQ]
    have hP9 := hP.sub (ws' := [(cc_O m0 12 [.int 0, .int (u_150.2.2.2.1 0), .ref r0, .ref w0, m_4, m_5, m_6, m_7, m_8, m_9, m_10, m_11, m_12, m_13, m_14, m_15, m_16, m_17, m_18, m_19, m_20, m_21, m_22, m_23, m_24, m_25, m_26, m_27, m_28, m_29, m_30, m_31, m_32, m_33, m_34, m_35, m_36, m_37, m_38, m_39, m_40, m_41, m_42, m_43, m_44, m_45, m_46, m_47, m_48, m_49, m_50, m_51, m_52, m_53, m_54, m_55, m_56, m_57, m_58, m_59]), (cc_l w0 (K 0) 5500 fw), (cc_l r0 (K 0) 7 (u_150.2.1 0))]) [1, 0, 2] rfl
    have hD9 := sub_D hP9 hD [1, 0, 2] (by decide +kernel) rfl
    exact W.iret (v := r_149) hx hb hr (fun t ht hW => ⟨⟨r_149, ((fun _ => 0, fun i => match i with | 0 => fw | _ => (u_150.2.1 0), fun _ => fun _ => 0, fun i => match i with | _ => (u_150.2.2.2.1 0), fun _ => 0, fun _ => fun _ => none) : Su), rfl, ⟨(show (-6) ≤ r_149.toInt by omega), (show (-6) ≤ ((u_150.2.2.2.1 0) : Int32).toInt ∧ ((u_150.2.2.2.1 0) : Int32).toInt ≤ 0 by omega), zfw, hE.symm, trivial⟩, (⟨by rw [ht]; exact hP9, hD9⟩ : Wd D A _ t)⟩, hS.F ht⟩) hS.2.2 dX12_hear_22
set_option maxRecDepth 100000 in
noncomputable def E_v_forget (thr : Int32) (fw : Nat → Int32) : Int32 × (Nat → Int32) :=
  Lt (fw (1 : Int32).toNatClampNeg : Int32) (fun x_65 => Lt (upd fw (1 : Int32).toNatClampNeg 0 : Nat → Int32) (fun f_66 => ((x_65, f_66) : Int32 × (Nat → Int32))))
set_option maxHeartbeats 4000000 in
set_option maxRecDepth 100000 in
theorem v_forget (l : Launch) (D : va_G) (K : Nat → ClassId) (m0 : Nat) (thr : Int32) (m_1 : Value) (m_2 : Value) (w0 : Nat) (m_4 : Value) (m_5 : Value) (m_6 : Value) (m_7 : Value) (m_8 : Value) (m_9 : Value) (m_10 : Value) (m_11 : Value) (m_12 : Value) (m_13 : Value) (m_14 : Value) (m_15 : Value) (m_16 : Value) (m_17 : Value) (m_18 : Value) (m_19 : Value) (m_20 : Value) (m_21 : Value) (m_22 : Value) (m_23 : Value) (m_24 : Value) (m_25 : Value) (m_26 : Value) (m_27 : Value) (m_28 : Value) (m_29 : Value) (m_30 : Value) (m_31 : Value) (m_32 : Value) (m_33 : Value) (m_34 : Value) (m_35 : Value) (m_36 : Value) (m_37 : Value) (m_38 : Value) (m_39 : Value) (m_40 : Value) (m_41 : Value) (m_42 : Value) (m_43 : Value) (m_44 : Value) (m_45 : Value) (m_46 : Value) (m_47 : Value) (m_48 : Value) (m_49 : Value) (m_50 : Value) (m_51 : Value) (m_52 : Value) (m_53 : Value) (m_54 : Value) (m_55 : Value) (m_56 : Value) (m_57 : Value) (m_58 : Value) (m_59 : Value) (fw : Nat → Int32) (sz : Nat) (zfw : RwOK fw) : Met l yX12_forget wsX12_forget ({ frames := 0, cells := 0, slots := 0, locals := 0 }) (va_Pc [.ref m0] (Pre D K [(cc_O m0 12 [.int thr, m_1, m_2, .ref w0, m_4, m_5, m_6, m_7, m_8, m_9, m_10, m_11, m_12, m_13, m_14, m_15, m_16, m_17, m_18, m_19, m_20, m_21, m_22, m_23, m_24, m_25, m_26, m_27, m_28, m_29, m_30, m_31, m_32, m_33, m_34, m_35, m_36, m_37, m_38, m_39, m_40, m_41, m_42, m_43, m_44, m_45, m_46, m_47, m_48, m_49, m_50, m_51, m_52, m_53, m_54, m_55, m_56, m_57, m_58, m_59]), (cc_l w0 (K 0) 5500 fw)] sz)) (va_Qi (S := Su) (fun (r : Int32) (u : Su) => (0 ≤ r.toInt ∧ r.toInt ≤ 6) ∧ (RwOK (u.2.1 0)) ∧ ((r, (u.2.1 0)) = E_v_forget thr fw) ∧ True) (fun u t => Wd D (va_A [(cc_O m0 12 [.int thr, m_1, m_2, .ref w0, m_4, m_5, m_6, m_7, m_8, m_9, m_10, m_11, m_12, m_13, m_14, m_15, m_16, m_17, m_18, m_19, m_20, m_21, m_22, m_23, m_24, m_25, m_26, m_27, m_28, m_29, m_30, m_31, m_32, m_33, m_34, m_35, m_36, m_37, m_38, m_39, m_40, m_41, m_42, m_43, m_44, m_45, m_46, m_47, m_48, m_49, m_50, m_51, m_52, m_53, m_54, m_55, m_56, m_57, m_58, m_59]), (cc_l w0 (K 0) 5500 fw)] sz) ((fun u => [(cc_O m0 12 [.int 0, m_1, m_2, .ref w0, m_4, m_5, m_6, m_7, m_8, m_9, m_10, m_11, m_12, m_13, m_14, m_15, m_16, m_17, m_18, m_19, m_20, m_21, m_22, m_23, m_24, m_25, m_26, m_27, m_28, m_29, m_30, m_31, m_32, m_33, m_34, m_35, m_36, m_37, m_38, m_39, m_40, m_41, m_42, m_43, m_44, m_45, m_46, m_47, m_48, m_49, m_50, m_51, m_52, m_53, m_54, m_55, m_56, m_57, m_58, m_59]), (cc_l w0 (K 0) 5500 (u.2.1 0))]) u) t) (va_A [(cc_O m0 12 [.int thr, m_1, m_2, .ref w0, m_4, m_5, m_6, m_7, m_8, m_9, m_10, m_11, m_12, m_13, m_14, m_15, m_16, m_17, m_18, m_19, m_20, m_21, m_22, m_23, m_24, m_25, m_26, m_27, m_28, m_29, m_30, m_31, m_32, m_33, m_34, m_35, m_36, m_37, m_38, m_39, m_40, m_41, m_42, m_43, m_44, m_45, m_46, m_47, m_48, m_49, m_50, m_51, m_52, m_53, m_54, m_55, m_56, m_57, m_58, m_59]), (cc_l w0 (K 0) 5500 fw)] sz)) 0 0 (va_A [(cc_O m0 12 [.int thr, m_1, m_2, .ref w0, m_4, m_5, m_6, m_7, m_8, m_9, m_10, m_11, m_12, m_13, m_14, m_15, m_16, m_17, m_18, m_19, m_20, m_21, m_22, m_23, m_24, m_25, m_26, m_27, m_28, m_29, m_30, m_31, m_32, m_33, m_34, m_35, m_36, m_37, m_38, m_39, m_40, m_41, m_42, m_43, m_44, m_45, m_46, m_47, m_48, m_49, m_50, m_51, m_52, m_53, m_54, m_55, m_56, m_57, m_58, m_59]), (cc_l w0 (K 0) 5500 fw)] sz) := by
  refine Met.ofW (cc := cX12_forget) (maxL := 2) (ret := (some .int)) (by decide +kernel) rfl ?_
  intro p e s m args below meth c s₁ B hml hv
  obtain ⟨rfl, hsz, hP, hK, hD0, hN⟩ := hv
  have hx := B.exec
  have hb := B.bytes
  have hr := B.returns
  have hts := atoms_spec (ws := wsX12_forget) B.pre
  have hown : s.vm.findClass RX12 = some m.cls := findClass_of_methodNamed B.named
  have hlocks := B.notSynchronized
  subst hsz
  have hD := hD0.self (sz := s.heap.size)
  generalize hAe : va_A [(cc_O m0 12 [.int thr, m_1, m_2, .ref w0, m_4, m_5, m_6, m_7, m_8, m_9, m_10, m_11, m_12, m_13, m_14, m_15, m_16, m_17, m_18, m_19, m_20, m_21, m_22, m_23, m_24, m_25, m_26, m_27, m_28, m_29, m_30, m_31, m_32, m_33, m_34, m_35, m_36, m_37, m_38, m_39, m_40, m_41, m_42, m_43, m_44, m_45, m_46, m_47, m_48, m_49, m_50, m_51, m_52, m_53, m_54, m_55, m_56, m_57, m_58, m_59]), (cc_l w0 (K 0) 5500 fw)] s.heap.size = A at hD ⊢
  have hA : ∀ q : Nat, s.heap.size ≤ q → A q := fun q h => by rw [← hAe]; exact Or.inr h
  clear hAe
  have hS : va_S A s.heap s.heap [] := va_S.rf
  replace hP : va_P D vwCl [(cc_O m0 12 [.int thr, m_1, m_2, .ref w0, m_4, m_5, m_6, m_7, m_8, m_9, m_10, m_11, m_12, m_13, m_14, m_15, m_16, m_17, m_18, m_19, m_20, m_21, m_22, m_23, m_24, m_25, m_26, m_27, m_28, m_29, m_30, m_31, m_32, m_33, m_34, m_35, m_36, m_37, m_38, m_39, m_40, m_41, m_42, m_43, m_44, m_45, m_46, m_47, m_48, m_49, m_50, m_51, m_52, m_53, m_54, m_55, m_56, m_57, m_58, m_59]), (cc_l w0 (K 0) 5500 fw)] s.heap := hP
  have hl := lv_entry [.ref m0] (n := 2) (Nat.le_of_ble_eq_true rfl)
  rw [lg_entry_eq]
  generalize (lg_sl [.ref m0] ++ List.replicate (2 - (lg_sl [.ref m0]).length) Slot.unset).toArray = ls at hl ⊢
  have hl : lv_has ls 2 [(0, .ref m0)] := hl
  have hw12 : ∀ w ∈ wsX120, w ∈ wsX12_forget := fun w h => (List.mem_cons_of_mem _ (List.mem_append_right _ h))
  generalize hQ : MQ below _ _ s _ _ _ = Q
  have hE := E_v_forget.eq_def thr fw
  refine lv_aload_n hx hb dX12_forget_0 rfl (lv_at hl 0 rfl) (lv_iconst (v := 0) hx hb dX12_forget_1 (by decide +kernel) (va_put (ci := 12) (v := .int 0) (ty := .int) (C := RX12) (T := TX12) (N := 60) hx hb hts hw12 tyX12 tyX12_ok nmX12 hown hK hP hD hS 0 rfl rfl 0 (by decide +kernel) (hts _ mm_X12_forget_830) (fun _ h9 => h9) rfl (by decide +kernel) (by first | rfl | decide) (by first | rfl | decide) (Nat.le_of_ble_eq_true rfl) dX12_forget_2 (fun H locs hP0 hD0 hS0 => ?_)))
  replace hP : va_P D vwCl [(cc_O m0 12 [.int 0, m_1, m_2, .ref w0, m_4, m_5, m_6, m_7, m_8, m_9, m_10, m_11, m_12, m_13, m_14, m_15, m_16, m_17, m_18, m_19, m_20, m_21, m_22, m_23, m_24, m_25, m_26, m_27, m_28, m_29, m_30, m_31, m_32, m_33, m_34, m_35, m_36, m_37, m_38, m_39, m_40, m_41, m_42, m_43, m_44, m_45, m_46, m_47, m_48, m_49, m_50, m_51, m_52, m_53, m_54, m_55, m_56, m_57, m_58, m_59]), (cc_l w0 (K 0) 5500 fw)] H := hP0
  replace hD := as_D hP hD0 rfl
  replace hS := hS0
  clear hP0 hD0 hS0
  refine lv_aload_n hx hb dX12_forget_5 rfl (lv_at hl 0 rfl) (va_get (ci := 12) (v := .ref w0) (C := RX12) (T := TX12) (N := 60) hx hb hts hw12 hown hK hP 0 rfl rfl 3 (by decide +kernel) (hts _ mm_X12_forget_833) (fun _ h9 => h9) rfl dX12_forget_6 (lv_iconst (v := 1) hx hb dX12_forget_9 (by decide +kernel) (va_iald hx hb hK hP 1 0 rfl rfl (i_in (x := 1) rfl (by omega)) dX12_forget_10 (lv_topi (fun x_65 ex_65 => ?_)))))
  replace hE := hE.trans (Lt_in ex_65)
  have px_65 := RwOK.at zfw (show (1 : Int32).toInt = 1 from rfl) (show 0 ≤ 1 ∧ 1 < 100 by omega)
  rw [← ex_65] at px_65
  have hx_65 := PR.r_1 px_65 (by omega)
  refine lv_istore_n (lv' := [(1, .int x_65), (0, .ref m0)]) hx hb dX12_forget_11 rfl hl (by decide +kernel) rfl (fun ls hl => ?_)
  refine lv_aload_n hx hb dX12_forget_12 rfl (lv_at hl 1 rfl) (va_get (ci := 12) (v := .ref w0) (C := RX12) (T := TX12) (N := 60) hx hb hts hw12 hown hK hP 0 rfl rfl 3 (by decide +kernel) (hts _ mm_X12_forget_833) (fun _ h9 => h9) rfl dX12_forget_13 (lv_iconst (v := 1) hx hb dX12_forget_16 (by decide +kernel) (lv_iconst (v := 0) hx hb dX12_forget_17 (by decide +kernel) (va_iast hx hb hK hP hD hS 1 0 rfl rfl (i_in (x := 1) rfl (by omega)) dX12_forget_18 (fun H locs hP0 hD0 hS0 => ?_)))))
  replace hP := hP0
  replace hD := hD0
  replace hS := hS0
  clear hP0 hD0 hS0
  generalize hf_66 : (upd fw (1 : Int32).toNatClampNeg 0) = f_66 at hP hD
  replace hE := hE.trans (Lt_in hf_66.symm)
  have hf_66_0 : RwOK f_66 := by rw [← hf_66]; exact RwOK.upd zfw (show (1 : Int32).toInt = 1 from rfl) (by omega) (show (0 : Int32).toInt = 0 from rfl) (PR.w_1 (by omega) (by omega))
  replace hP : va_P D vwCl [(cc_O m0 12 [.int 0, m_1, m_2, .ref w0, m_4, m_5, m_6, m_7, m_8, m_9, m_10, m_11, m_12, m_13, m_14, m_15, m_16, m_17, m_18, m_19, m_20, m_21, m_22, m_23, m_24, m_25, m_26, m_27, m_28, m_29, m_30, m_31, m_32, m_33, m_34, m_35, m_36, m_37, m_38, m_39, m_40, m_41, m_42, m_43, m_44, m_45, m_46, m_47, m_48, m_49, m_50, m_51, m_52, m_53, m_54, m_55, m_56, m_57, m_58, m_59]), (cc_l w0 (K 0) 5500 f_66)] H := hP
  replace hD := as_D hP hD rfl
  refine lv_iload_n hx hb dX12_forget_19 rfl (lv_at hl 0 rfl) ?_
  rw [← hQ]
  have hP9 := hP.sub (ws' := [(cc_O m0 12 [.int 0, m_1, m_2, .ref w0, m_4, m_5, m_6, m_7, m_8, m_9, m_10, m_11, m_12, m_13, m_14, m_15, m_16, m_17, m_18, m_19, m_20, m_21, m_22, m_23, m_24, m_25, m_26, m_27, m_28, m_29, m_30, m_31, m_32, m_33, m_34, m_35, m_36, m_37, m_38, m_39, m_40, m_41, m_42, m_43, m_44, m_45, m_46, m_47, m_48, m_49, m_50, m_51, m_52, m_53, m_54, m_55, m_56, m_57, m_58, m_59]), (cc_l w0 (K 0) 5500 f_66)]) [0, 1] rfl
  have hD9 := sub_D hP9 hD [0, 1] (by decide +kernel) rfl
  exact W.iret (v := x_65) hx hb hr (fun t ht hW => ⟨⟨x_65, ((fun _ => 0, fun i => match i with | _ => f_66, fun _ => fun _ => 0, fun _ => 0, fun _ => 0, fun _ => fun _ => none) : Su), rfl, ⟨(show 0 ≤ x_65.toInt ∧ x_65.toInt ≤ 6 by omega), hf_66_0, hE.symm, trivial⟩, (⟨by rw [ht]; exact hP9, hD9⟩ : Wd D A _ t)⟩, hS.F ht⟩) hS.2.2 dX12_forget_20
set_option maxRecDepth 100000 in
noncomputable def E_v_isAsHeard_l37 (x : Int32) (fw : Nat → Int32) (v_401 : Int32) (rec_506 : Int32 → Int32 → (Int32)) (v_476 : Int32) (v_477 : Int32) : Int32 :=
  Lt (fw (0 : Int32).toNatClampNeg : Int32) (fun x_508 => if x_508 ≤ v_476 then (if v_477 = v_401 then ((1 : Int32)) else ((0 : Int32))) else (Lt (E_v_is x v_476) (fun r_511 => if r_511 = 0 then (Lt (v_477 ||| 0 : Int32) (fun x_515 => Lt (v_476 + Int32.ofInt 1 : Int32) (fun x_516 => rec_506 x_516 x_515))) else (Lt (35 + v_476 : Int32) (fun x_517 => Lt (fw (x_517 : Int32).toNatClampNeg : Int32) (fun x_518 => Lt (1 <<< (x_518 &&& 31) : Int32) (fun x_519 => Lt (v_477 ||| x_519 : Int32) (fun x_520 => Lt (v_476 + Int32.ofInt 1 : Int32) (fun x_521 => rec_506 x_521 x_520)))))))))
set_option maxRecDepth 100000 in
noncomputable def E_v_isAsHeard_l4 (x : Int32) (fw : Nat → Int32) (rec_416 : Int32 → Int32 → (Int32)) (v_400 : Int32) (v_401 : Int32) : Int32 :=
  Lt (fw (1 : Int32).toNatClampNeg : Int32) (fun x_418 => if x_418 ≤ v_400 then (Lp (α := Int32 → Int32 → (Int32)) (E_v_isAsHeard_l37 x fw v_401) (fun _ _ => ((0) : Int32)) ((9 - (0 : Int32).toInt : Int).toNat + 1) 0 0) else (Lt (91 + v_400 : Int32) (fun x_522 => Lt (fw (x_522 : Int32).toNatClampNeg : Int32) (fun x_523 => Lt (v_401 ||| x_523 : Int32) (fun x_524 => Lt (v_400 + Int32.ofInt 1 : Int32) (fun x_525 => rec_416 x_525 x_524))))))
set_option maxRecDepth 100000 in
noncomputable def E_v_isAsHeard (x : Int32) (fw : Nat → Int32) : Int32 :=
  Lp (α := Int32 → Int32 → (Int32)) (E_v_isAsHeard_l4 x fw) (fun _ _ => ((0) : Int32)) ((7 - (0 : Int32).toInt : Int).toNat + 1) 0 0
set_option maxHeartbeats 4000000 in
set_option maxRecDepth 100000 in
theorem v_isAsHeard (l : Launch) (D : va_G) (K : Nat → ClassId) (m0 : Nat) (x : Int32) (m_0 : Value) (m_1 : Value) (m_2 : Value) (w0 : Nat) (m_4 : Value) (m_5 : Value) (m_6 : Value) (m_7 : Value) (m_8 : Value) (m_9 : Value) (m_10 : Value) (m_11 : Value) (m_12 : Value) (m_13 : Value) (m_14 : Value) (m_15 : Value) (m_16 : Value) (m_17 : Value) (m_18 : Value) (m_19 : Value) (m_20 : Value) (m_21 : Value) (m_22 : Value) (m_23 : Value) (m_24 : Value) (m_25 : Value) (m_26 : Value) (m_27 : Value) (m_28 : Value) (m_29 : Value) (m_30 : Value) (m_31 : Value) (m_32 : Value) (m_33 : Value) (m_34 : Value) (m_35 : Value) (m_36 : Value) (m_37 : Value) (m_38 : Value) (m_39 : Value) (m_40 : Value) (m_41 : Value) (m_42 : Value) (m_43 : Value) (m_44 : Value) (m_45 : Value) (m_46 : Value) (m_47 : Value) (m_48 : Value) (m_49 : Value) (m_50 : Value) (m_51 : Value) (m_52 : Value) (m_53 : Value) (m_54 : Value) (m_55 : Value) (m_56 : Value) (m_57 : Value) (m_58 : Value) (m_59 : Value) (fw : Nat → Int32) (sz : Nat) (zfw : RwOK fw) : Met l yX12_isAsHeard wsX12_isAsHeard ({ frames := 1, cells := 0, slots := 0, locals := 21 }) (va_Pc [.ref m0, .int x] (Pre D K [(cc_O m0 12 [m_0, m_1, m_2, .ref w0, m_4, m_5, m_6, m_7, m_8, m_9, m_10, m_11, m_12, m_13, m_14, m_15, m_16, m_17, m_18, m_19, m_20, m_21, m_22, m_23, m_24, m_25, m_26, m_27, m_28, m_29, m_30, m_31, m_32, m_33, m_34, m_35, m_36, m_37, m_38, m_39, m_40, m_41, m_42, m_43, m_44, m_45, m_46, m_47, m_48, m_49, m_50, m_51, m_52, m_53, m_54, m_55, m_56, m_57, m_58, m_59]), (cc_l w0 (K 0) 5500 fw)] sz)) (vp_Si (fun r : Int32 => (0 ≤ r.toInt ∧ r.toInt ≤ 1) ∧ (r = E_v_isAsHeard x fw) ∧ True)) 0 0 (fun _ => False) := by
  refine Met.ofW (cc := cX12_isAsHeard) (maxL := 5) (ret := (some .boolean)) (by decide +kernel) rfl ?_
  intro p e s m args below meth c s₁ B hml hv
  obtain ⟨rfl, hsz, hP, hK, hD0, hN⟩ := hv
  have hx := B.exec
  have hb := B.bytes
  have hr := B.returns
  have hts := atoms_spec (ws := wsX12_isAsHeard) B.pre
  have hown : s.vm.findClass RX12 = some m.cls := findClass_of_methodNamed B.named
  have hlocks := B.notSynchronized
  subst hsz
  have hD := hD0
  replace hP : va_P D vwCl [(cc_O m0 12 [m_0, m_1, m_2, .ref w0, m_4, m_5, m_6, m_7, m_8, m_9, m_10, m_11, m_12, m_13, m_14, m_15, m_16, m_17, m_18, m_19, m_20, m_21, m_22, m_23, m_24, m_25, m_26, m_27, m_28, m_29, m_30, m_31, m_32, m_33, m_34, m_35, m_36, m_37, m_38, m_39, m_40, m_41, m_42, m_43, m_44, m_45, m_46, m_47, m_48, m_49, m_50, m_51, m_52, m_53, m_54, m_55, m_56, m_57, m_58, m_59]), (cc_l w0 (K 0) 5500 fw)] s.heap := hP
  have hl := lv_entry [.ref m0, .int x] (n := 5) (Nat.le_of_ble_eq_true rfl)
  rw [lg_entry_eq]
  generalize (lg_sl [.ref m0, .int x] ++ List.replicate (5 - (lg_sl [.ref m0, .int x]).length) Slot.unset).toArray = ls at hl ⊢
  have hl : lv_has ls 5 [(0, .ref m0), (1, .int x)] := hl
  have hw12 : ∀ w ∈ wsX120, w ∈ wsX12_isAsHeard := fun w h => (List.mem_cons_of_mem _ (List.mem_append_right _ h))
  generalize hQ : MQ below _ _ s _ _ _ = Q
  have hE := E_v_isAsHeard.eq_def x fw
  refine lv_iconst (v := 0) hx hb dX12_isAsHeard_0 (by decide +kernel) (lv_istore_n (lv' := [(2, .int 0), (0, .ref m0), (1, .int x)]) hx hb dX12_isAsHeard_1 rfl hl (by decide +kernel) rfl (fun ls hl => ?_))
  refine lv_iconst (v := 0) hx hb dX12_isAsHeard_2 (by decide +kernel) (lv_istore_n (lv' := [(3, .int 0), (2, .int 0), (0, .ref m0), (1, .int x)]) hx hb dX12_isAsHeard_3 rfl hl (by decide +kernel) rfl (fun ls hl => ?_))
  have lp_416 : ∀ (nn_ : Nat) (v_400 : Int32) (v_401 : Int32) (hv_400 : 0 ≤ v_400.toInt ∧ v_400.toInt ≤ 6) (hn : (7 - v_400.toInt : Int).toNat < nn_) (hE : E_v_isAsHeard x fw = Lp (α := Int32 → Int32 → (Int32)) (E_v_isAsHeard_l4 x fw) (fun _ _ => ((0) : Int32)) nn_ v_400 v_401) (ls : Array Slot) (hl : lv_has ls 5 [(3, .int v_400), (2, .int v_401), (0, .ref m0), (1, .int x)]), W p l e ({ frames := 1, cells := 0, slots := 0, locals := 21 }) s m (([.ref m0, .int x] : List Value).toArray) below meth c s.heap [] 0 0 Q (F0 m 4 ls []) := by
    clear hE hl
    intro nn_
    induction nn_ with
    | zero =>
      intro v_400 v_401 hv_400 hn hE ls hl
      exact absurd hn (Nat.not_lt_zero _)
    | succ nn_ ih_417 =>
      intro v_400 v_401 hv_400 hn hE ls hl
      replace hE : E_v_isAsHeard x fw = E_v_isAsHeard_l4 x fw (Lp (α := Int32 → Int32 → (Int32)) (E_v_isAsHeard_l4 x fw) (fun _ _ => ((0) : Int32)) nn_) v_400 v_401 := hE
      obtain ⟨rec_416, hrec_416⟩ : ∃ z9, z9 = Lp (α := Int32 → Int32 → (Int32)) (E_v_isAsHeard_l4 x fw) (fun _ _ => ((0) : Int32)) nn_ := ⟨_, rfl⟩
      rw [← hrec_416] at hE
      replace hE := hE.trans (E_v_isAsHeard_l4.eq_def _ _ _ _ _)
      refine lv_iload_n hx hb dX12_isAsHeard_4 rfl (lv_at hl 0 rfl) (lv_aload_n hx hb dX12_isAsHeard_5 rfl (lv_at hl 2 rfl) (va_get (ci := 12) (v := .ref w0) (C := RX12) (T := TX12) (N := 60) hx hb hts hw12 hown hK hP 0 rfl rfl 3 (by decide +kernel) (hts _ mm_X12_isAsHeard_833) (fun _ h9 => h9) rfl dX12_isAsHeard_6 (lv_iconst (v := 1) hx hb dX12_isAsHeard_9 (by decide +kernel) (va_iald hx hb hK hP 1 0 rfl rfl (i_in (x := 1) rfl (by omega)) dX12_isAsHeard_10 (lv_topi (fun x_418 ex_418 => ?_))))))
      replace hE := hE.trans (Lt_in ex_418)
      have px_418 := RwOK.at zfw (show (1 : Int32).toInt = 1 from rfl) (show 0 ≤ 1 ∧ 1 < 100 by omega)
      rw [← ex_418] at px_418
      have hx_418 := PR.r_1 px_418 (by omega)
      refine lv_icmp_ge (tgt := 32) hx hb dX12_isAsHeard_11 (by decide +kernel) (fun c_419 => ?_) (fun c_419 => ?_)
      · have c_419i := i_le (x := x_418.toInt) (y := v_400.toInt) rfl rfl c_419
        replace hE := hE.trans (if_pos c_419)
        refine lv_iconst (v := 0) hx hb dX12_isAsHeard_32 (by decide +kernel) (lv_istore_n (lv' := [(3, .int 0), (2, .int v_401), (0, .ref m0), (1, .int x)]) hx hb dX12_isAsHeard_33 rfl hl (by decide +kernel) rfl (fun ls hl => ?_))
        refine lv_iconst (v := 0) hx hb dX12_isAsHeard_34 (by decide +kernel) (lv_istore (lv' := [(4, .int 0), (3, .int 0), (2, .int v_401), (0, .ref m0), (1, .int x)]) hx hb dX12_isAsHeard_35 hl (by decide +kernel) rfl (fun ls hl => ?_))
        have lp_506 : ∀ (nn_ : Nat) (v_476 : Int32) (v_477 : Int32) (hv_476 : 0 ≤ v_476.toInt ∧ v_476.toInt ≤ 8) (hv_477 : 0 ≤ v_477.toInt ∧ v_477.toInt ≤ 127) (hn : (9 - v_476.toInt : Int).toNat < nn_) (hE : E_v_isAsHeard x fw = Lp (α := Int32 → Int32 → (Int32)) (E_v_isAsHeard_l37 x fw v_401) (fun _ _ => ((0) : Int32)) nn_ v_476 v_477) (ls : Array Slot) (hl : lv_has ls 5 [(4, .int v_476), (3, .int v_477), (2, .int v_401), (0, .ref m0), (1, .int x)]), W p l e ({ frames := 1, cells := 0, slots := 0, locals := 21 }) s m (([.ref m0, .int x] : List Value).toArray) below meth c s.heap [] 0 0 Q (F0 m 37 ls []) := by
          clear hE hl
          intro nn_
          induction nn_ with
          | zero =>
            intro v_476 v_477 hv_476 hv_477 hn hE ls hl
            exact absurd hn (Nat.not_lt_zero _)
          | succ nn_ ih_507 =>
            intro v_476 v_477 hv_476 hv_477 hn hE ls hl
            replace hE : E_v_isAsHeard x fw = E_v_isAsHeard_l37 x fw v_401 (Lp (α := Int32 → Int32 → (Int32)) (E_v_isAsHeard_l37 x fw v_401) (fun _ _ => ((0) : Int32)) nn_) v_476 v_477 := hE
            obtain ⟨rec_506, hrec_506⟩ : ∃ z9, z9 = Lp (α := Int32 → Int32 → (Int32)) (E_v_isAsHeard_l37 x fw v_401) (fun _ _ => ((0) : Int32)) nn_ := ⟨_, rfl⟩
            rw [← hrec_506] at hE
            replace hE := hE.trans (E_v_isAsHeard_l37.eq_def _ _ _ _ _ _)
            refine lv_iload hx hb dX12_isAsHeard_37 (lv_at hl 0 rfl) (lv_aload_n hx hb dX12_isAsHeard_39 rfl (lv_at hl 3 rfl) (va_get (ci := 12) (v := .ref w0) (C := RX12) (T := TX12) (N := 60) hx hb hts hw12 hown hK hP 0 rfl rfl 3 (by decide +kernel) (hts _ mm_X12_isAsHeard_833) (fun _ h9 => h9) rfl dX12_isAsHeard_40 (lv_iconst (v := 0) hx hb dX12_isAsHeard_43 (by decide +kernel) (va_iald hx hb hK hP 1 0 rfl rfl (i_in (x := 0) rfl (by omega)) dX12_isAsHeard_44 (lv_topi (fun x_508 ex_508 => ?_))))))
            replace hE := hE.trans (Lt_in ex_508)
            have px_508 := RwOK.at zfw (show (0 : Int32).toInt = 0 from rfl) (show 0 ≤ 0 ∧ 0 < 100 by omega)
            rw [← ex_508] at px_508
            have hx_508 := PR.r_0 px_508 (by omega)
            refine lv_icmp_ge (tgt := 82) hx hb dX12_isAsHeard_45 (by decide +kernel) (fun c_509 => ?_) (fun c_509 => ?_)
            · have c_509i := i_le (x := x_508.toInt) (y := v_476.toInt) rfl rfl c_509
              replace hE := hE.trans (if_pos c_509)
              refine lv_iload_n hx hb dX12_isAsHeard_82 rfl (lv_at hl 1 rfl) (lv_iload_n hx hb dX12_isAsHeard_83 rfl (lv_at hl 2 rfl) (lv_icmp_ne (tgt := 91) hx hb dX12_isAsHeard_84 (by decide +kernel) (fun c_510 => ?_) (fun c_510 => ?_)))
              · have c_510i := i_ne (x := v_477.toInt) (y := v_401.toInt) rfl rfl c_510
                replace hE := hE.trans (if_neg c_510)
                refine lv_iconst (v := 0) hx hb dX12_isAsHeard_91 (by decide +kernel) ?_
                rw [← hQ]
                exact W.zret (v := 0) hx hb hr (by decide +kernel) (fun t ht hW => ⟨_, rfl, ⟨(show 0 ≤ (0 : Int32).toInt ∧ (0 : Int32).toInt ≤ 1 by decide), hE.symm, trivial⟩, ht⟩) (fun q hq => by cases hq) dX12_isAsHeard_92
              · have c_510i := i_eq (x := v_477.toInt) (y := v_401.toInt) rfl rfl c_510
                replace hE := hE.trans (if_pos c_510)
                refine lv_iconst (v := 1) hx hb dX12_isAsHeard_87 (by decide +kernel) (lv_goto (tgt := 92) hx hb dX12_isAsHeard_88 (by decide +kernel) ?_)
                rw [← hQ]
                exact W.zret (v := 1) hx hb hr (by decide +kernel) (fun t ht hW => ⟨_, rfl, ⟨(show 0 ≤ (1 : Int32).toInt ∧ (1 : Int32).toInt ≤ 1 by decide), hE.symm, trivial⟩, ht⟩) (fun q hq => by cases hq) dX12_isAsHeard_92
            · have c_509i := i_nle (x := x_508.toInt) (y := v_476.toInt) rfl rfl c_509
              replace hE := hE.trans (if_neg c_509)
              refine lv_iload_n hx hb dX12_isAsHeard_48 rfl (lv_at hl 1 rfl) (lv_iload_n hx hb dX12_isAsHeard_49 rfl (lv_at hl 4 rfl) (lv_iload hx hb dX12_isAsHeard_50 (lv_at hl 0 rfl) (pci (va_runS (As := [.int x, .int v_476]) (rest := [.int v_477]) ⟨hx, hb, hml, hown, hts⟩ (v_is l D K x v_476 s.heap.size) (va_cwS 2 hts gX12_isAsHeard_X12_is rfl rfl rfl (by decide +kernel) ⟨Nat.le_of_ble_eq_true rfl, Nat.le_of_ble_eq_true rfl⟩) (mkS hK hN (va_P.nil) (va_D.nil (A := fun _ => True))) rfl rfl hl.1 rfl (lv_room (Nat.le_of_ble_eq_true rfl)) dX12_isAsHeard_52 ⟨Nat.le_of_ble_eq_true rfl, Nat.le_of_ble_eq_true rfl⟩) (fun r_511 hw => ?_))))
              obtain ⟨h_513, k_512, -⟩ := hw
              replace hE := hE.trans (Lt_in k_512)
              refine lv_if_eq (tgt := 73) hx hb dX12_isAsHeard_55 (by decide +kernel) (fun c_514 => ?_) (fun c_514 => ?_)
              · have c_514i := i_eq (x := r_511.toInt) (y := 0) rfl rfl c_514
                replace hE := hE.trans (if_pos c_514)
                refine lv_iconst (v := 0) hx hb dX12_isAsHeard_73 (by decide +kernel) (lv_ior hx hb dX12_isAsHeard_74 (lv_topi (fun x_515 ex_515 => ?_)))
                replace hE := hE.trans (Lt_in ex_515)
                have hx_515 : 0 ≤ x_515.toInt ∧ x_515.toInt < 128 := by rw [ex_515]; exact i_or (k := 7) rfl (show (0 : Int32).toInt = 0 from rfl) (by decide +kernel) (by omega) (by omega)
                refine lv_istore_n (lv' := [(3, .int x_515), (4, .int v_476), (2, .int v_401), (0, .ref m0), (1, .int x)]) hx hb dX12_isAsHeard_75 rfl hl (by decide +kernel) rfl (fun ls hl => ?_)
                obtain ⟨x_516, ex_516⟩ : ∃ y : Int32, y = v_476 + Int32.ofInt 1 := ⟨_, rfl⟩
                replace hE := hE.trans (Lt_in ex_516)
                have hx_516 : x_516.toInt = (v_476.toInt + 1) := by rw [ex_516]; exact i_add rfl (show (Int32.ofInt 1).toInt = 1 from rfl) (by omega)
                refine lv_iinc (v := x_516) (lv' := [(4, .int x_516), (3, .int x_515), (2, .int v_401), (0, .ref m0), (1, .int x)]) hx hb dX12_isAsHeard_76 hl (k := 1) rfl (by rw [ex_516]) (by decide +kernel) rfl (fun ls hl => ?_)
                refine lv_goto (tgt := 37) hx hb dX12_isAsHeard_79 (by decide +kernel) ?_
                exact ih_507 x_516 x_515 (by rw [hx_516]; omega) (by omega) (by omega) (hE.trans (by rw [hrec_506])) ls (lv_sub hl [0, 1, 2, 3, 4] rfl)
              · have c_514i := i_ne (x := r_511.toInt) (y := 0) rfl rfl c_514
                replace hE := hE.trans (if_neg c_514)
                refine lv_iconst (v := 1) hx hb dX12_isAsHeard_58 (by decide +kernel) (lv_aload_n hx hb dX12_isAsHeard_59 rfl (lv_at hl 3 rfl) (va_get (ci := 12) (v := .ref w0) (C := RX12) (T := TX12) (N := 60) hx hb hts hw12 hown hK hP 0 rfl rfl 3 (by decide +kernel) (hts _ mm_X12_isAsHeard_833) (fun _ h9 => h9) rfl dX12_isAsHeard_60 (lv_bipush (v := 35) hx hb dX12_isAsHeard_63 (by decide +kernel) (lv_iload hx hb dX12_isAsHeard_65 (lv_at hl 0 rfl) (lv_iadd hx hb dX12_isAsHeard_67 (lv_topi (fun x_517 ex_517 => ?_)))))))
                replace hE := hE.trans (Lt_in ex_517)
                have hx_517 : x_517.toInt = (35 + v_476.toInt) := by rw [ex_517]; exact i_add (show (35 : Int32).toInt = 35 from rfl) rfl (by omega)
                refine va_iald hx hb hK hP 1 0 rfl rfl (i_in hx_517 (by omega)) dX12_isAsHeard_68 (lv_topi (fun x_518 ex_518 => ?_))
                replace hE := hE.trans (Lt_in ex_518)
                have px_518 := RwOK.at zfw hx_517 (show 0 ≤ (35 + v_476.toInt) ∧ (35 + v_476.toInt) < 100 by omega)
                rw [← ex_518] at px_518
                have hx_518 := PR.r_35 px_518 (by omega)
                refine lv_ishl hx hb dX12_isAsHeard_69 (lv_topi (fun x_519 ex_519 => ?_))
                replace hE := hE.trans (Lt_in ex_519)
                have hx_519 : 1 ≤ x_519.toInt ∧ x_519.toInt ≤ 64 := by rw [ex_519]; exact i_shl1 rfl (n := 6) (by decide +kernel) (by omega)
                refine lv_goto (tgt := 74) hx hb dX12_isAsHeard_70 (by decide +kernel) (lv_ior hx hb dX12_isAsHeard_74 (lv_topi (fun x_520 ex_520 => ?_)))
                replace hE := hE.trans (Lt_in ex_520)
                have hx_520 : 0 ≤ x_520.toInt ∧ x_520.toInt < 128 := by rw [ex_520]; exact i_or (k := 7) rfl rfl (by decide +kernel) (by omega) (by omega)
                refine lv_istore_n (lv' := [(3, .int x_520), (4, .int v_476), (2, .int v_401), (0, .ref m0), (1, .int x)]) hx hb dX12_isAsHeard_75 rfl hl (by decide +kernel) rfl (fun ls hl => ?_)
                obtain ⟨x_521, ex_521⟩ : ∃ y : Int32, y = v_476 + Int32.ofInt 1 := ⟨_, rfl⟩
                replace hE := hE.trans (Lt_in ex_521)
                have hx_521 : x_521.toInt = (v_476.toInt + 1) := by rw [ex_521]; exact i_add rfl (show (Int32.ofInt 1).toInt = 1 from rfl) (by omega)
                refine lv_iinc (v := x_521) (lv' := [(4, .int x_521), (3, .int x_520), (2, .int v_401), (0, .ref m0), (1, .int x)]) hx hb dX12_isAsHeard_76 hl (k := 1) rfl (by rw [ex_521]) (by decide +kernel) rfl (fun ls hl => ?_)
                refine lv_goto (tgt := 37) hx hb dX12_isAsHeard_79 (by decide +kernel) ?_
                exact ih_507 x_521 x_520 (by rw [hx_521]; omega) (by omega) (by omega) (hE.trans (by rw [hrec_506])) ls (lv_sub hl [0, 1, 2, 3, 4] rfl)
        exact lp_506 ((9 - (0 : Int32).toInt : Int).toNat + 1) 0 0 (by decide +kernel) (by decide +kernel) (Nat.lt_succ_self _) hE ls (lv_sub hl [0, 1, 2, 3, 4] rfl)
      · have c_419i := i_nle (x := x_418.toInt) (y := v_400.toInt) rfl rfl c_419
        replace hE := hE.trans (if_neg c_419)
        refine lv_iload_n hx hb dX12_isAsHeard_14 rfl (lv_at hl 1 rfl) (lv_aload_n hx hb dX12_isAsHeard_15 rfl (lv_at hl 2 rfl) (va_get (ci := 12) (v := .ref w0) (C := RX12) (T := TX12) (N := 60) hx hb hts hw12 hown hK hP 0 rfl rfl 3 (by decide +kernel) (hts _ mm_X12_isAsHeard_833) (fun _ h9 => h9) rfl dX12_isAsHeard_16 (lv_bipush (v := 91) hx hb dX12_isAsHeard_19 (by decide +kernel) (lv_iload_n hx hb dX12_isAsHeard_21 rfl (lv_at hl 0 rfl) (lv_iadd hx hb dX12_isAsHeard_22 (lv_topi (fun x_522 ex_522 => ?_)))))))
        replace hE := hE.trans (Lt_in ex_522)
        have hx_522 : x_522.toInt = (91 + v_400.toInt) := by rw [ex_522]; exact i_add (show (91 : Int32).toInt = 91 from rfl) rfl (by omega)
        refine va_iald hx hb hK hP 1 0 rfl rfl (i_in hx_522 (by omega)) dX12_isAsHeard_23 (lv_topi (fun x_523 ex_523 => ?_))
        replace hE := hE.trans (Lt_in ex_523)
        have px_523 := RwOK.at zfw hx_522 (show 0 ≤ (91 + v_400.toInt) ∧ (91 + v_400.toInt) < 100 by omega)
        rw [← ex_523] at px_523
        refine lv_ior hx hb dX12_isAsHeard_24 (lv_topi (fun x_524 ex_524 => ?_))
        replace hE := hE.trans (Lt_in ex_524)
        refine lv_istore_n (lv' := [(2, .int x_524), (3, .int v_400), (0, .ref m0), (1, .int x)]) hx hb dX12_isAsHeard_25 rfl hl (by decide +kernel) rfl (fun ls hl => ?_)
        obtain ⟨x_525, ex_525⟩ : ∃ y : Int32, y = v_400 + Int32.ofInt 1 := ⟨_, rfl⟩
        replace hE := hE.trans (Lt_in ex_525)
        have hx_525 : x_525.toInt = (v_400.toInt + 1) := by rw [ex_525]; exact i_add rfl (show (Int32.ofInt 1).toInt = 1 from rfl) (by omega)
        refine lv_iinc (v := x_525) (lv' := [(3, .int x_525), (2, .int x_524), (0, .ref m0), (1, .int x)]) hx hb dX12_isAsHeard_26 hl (k := 1) rfl (by rw [ex_525]) (by decide +kernel) rfl (fun ls hl => ?_)
        refine lv_goto (tgt := 4) hx hb dX12_isAsHeard_29 (by decide +kernel) ?_
        exact ih_417 x_525 x_524 (by rw [hx_525]; omega) (by omega) (hE.trans (by rw [hrec_416])) ls (lv_sub hl [0, 1, 2, 3] rfl)
  exact lp_416 ((7 - (0 : Int32).toInt : Int).toNat + 1) 0 0 (by decide +kernel) (Nat.lt_succ_self _) hE ls (lv_sub hl [0, 1, 2, 3] rfl)
set_option maxRecDepth 100000 in
noncomputable def E_v_hill_j49 (v_496 : Int32) (rec_540 : Int32 → Int32 → Int32 → (Int32)) (v_553 : Int32) (v_554 : Int32) : Int32 :=
  Lt (v_496 + Int32.ofInt 1 : Int32) (fun x_557 => rec_540 x_557 v_553 v_554)
set_option maxRecDepth 100000 in
noncomputable def E_v_hill_l12 (x : Int32) (fw : Nat → Int32) (rec_540 : Int32 → Int32 → Int32 → (Int32)) (v_496 : Int32) (v_497 : Int32) (v_498 : Int32) : Int32 :=
  Lt (fw (0 : Int32).toNatClampNeg : Int32) (fun x_542 => Lt (1 <<< (x_542 &&& 31) : Int32) (fun x_543 => if x_543 ≤ v_496 then (if x = (-1) then ((v_498 : Int32)) else ((v_497 : Int32))) else (Lt (E_v_isAsHeard v_496 fw) (fun r_546 => if r_546 = 0 then (E_v_hill_j49 v_496 rec_540 v_497 v_498) else (if v_498 = x then (Lt (v_498 + Int32.ofInt 1 : Int32) (fun x_561 => E_v_hill_j49 v_496 rec_540 v_496 x_561)) else (Lt (v_498 + Int32.ofInt 1 : Int32) (fun x_560 => E_v_hill_j49 v_496 rec_540 v_497 x_560)))))))
set_option maxRecDepth 100000 in
noncomputable def E_v_hill (x : Int32) (thr : Int32) (fw : Nat → Int32) : Int32 :=
  Lp (α := Int32 → Int32 → Int32 → (Int32)) (E_v_hill_l12 x fw) (fun _ _ _ => ((0) : Int32)) ((257 - (0 : Int32).toInt : Int).toNat + 1) 0 (-1) 0
set_option maxHeartbeats 4000000 in
set_option maxRecDepth 100000 in
theorem v_hill (l : Launch) (D : va_G) (K : Nat → ClassId) (m0 : Nat) (x : Int32) (thr : Int32) (m_1 : Value) (m_2 : Value) (w0 : Nat) (m_4 : Value) (m_5 : Value) (m_6 : Value) (m_7 : Value) (m_8 : Value) (m_9 : Value) (m_10 : Value) (m_11 : Value) (m_12 : Value) (m_13 : Value) (m_14 : Value) (m_15 : Value) (m_16 : Value) (m_17 : Value) (m_18 : Value) (m_19 : Value) (m_20 : Value) (m_21 : Value) (m_22 : Value) (m_23 : Value) (m_24 : Value) (m_25 : Value) (m_26 : Value) (m_27 : Value) (m_28 : Value) (m_29 : Value) (m_30 : Value) (m_31 : Value) (m_32 : Value) (m_33 : Value) (m_34 : Value) (m_35 : Value) (m_36 : Value) (m_37 : Value) (m_38 : Value) (m_39 : Value) (m_40 : Value) (m_41 : Value) (m_42 : Value) (m_43 : Value) (m_44 : Value) (m_45 : Value) (m_46 : Value) (m_47 : Value) (m_48 : Value) (m_49 : Value) (m_50 : Value) (m_51 : Value) (m_52 : Value) (m_53 : Value) (m_54 : Value) (m_55 : Value) (m_56 : Value) (m_57 : Value) (m_58 : Value) (m_59 : Value) (fw : Nat → Int32) (gr : Nat → Int32) (sz : Nat) (zfw : RwOK fw) (zgr : FzM gr fw) : Met l yX12_hill wsX12_hill ({ frames := 2, cells := 0, slots := 0, locals := 45 }) (va_Pc [.ref m0, .int x] (Pre D K [(cc_O m0 12 [.int thr, m_1, m_2, .ref w0, m_4, m_5, m_6, m_7, m_8, m_9, m_10, m_11, m_12, m_13, m_14, m_15, m_16, m_17, m_18, m_19, m_20, m_21, m_22, m_23, m_24, m_25, m_26, m_27, m_28, m_29, m_30, m_31, m_32, m_33, m_34, m_35, m_36, m_37, m_38, m_39, m_40, m_41, m_42, m_43, m_44, m_45, m_46, m_47, m_48, m_49, m_50, m_51, m_52, m_53, m_54, m_55, m_56, m_57, m_58, m_59]), (cc_l w0 (K 0) 5500 fw)] sz)) (va_Qi (S := Su) (fun (r : Int32) (u : Su) => (r = E_v_hill x thr fw) ∧ True) (fun u t => Wd D (va_A [(cc_O m0 12 [.int thr, m_1, m_2, .ref w0, m_4, m_5, m_6, m_7, m_8, m_9, m_10, m_11, m_12, m_13, m_14, m_15, m_16, m_17, m_18, m_19, m_20, m_21, m_22, m_23, m_24, m_25, m_26, m_27, m_28, m_29, m_30, m_31, m_32, m_33, m_34, m_35, m_36, m_37, m_38, m_39, m_40, m_41, m_42, m_43, m_44, m_45, m_46, m_47, m_48, m_49, m_50, m_51, m_52, m_53, m_54, m_55, m_56, m_57, m_58, m_59]), (cc_l w0 (K 0) 5500 fw)] sz) ((fun u => [(cc_O m0 12 [.int 0, m_1, m_2, .ref w0, m_4, m_5, m_6, m_7, m_8, m_9, m_10, m_11, m_12, m_13, m_14, m_15, m_16, m_17, m_18, m_19, m_20, m_21, m_22, m_23, m_24, m_25, m_26, m_27, m_28, m_29, m_30, m_31, m_32, m_33, m_34, m_35, m_36, m_37, m_38, m_39, m_40, m_41, m_42, m_43, m_44, m_45, m_46, m_47, m_48, m_49, m_50, m_51, m_52, m_53, m_54, m_55, m_56, m_57, m_58, m_59]), (cc_l w0 (K 0) 5500 fw)]) u) t) (va_A [(cc_O m0 12 [.int thr, m_1, m_2, .ref w0, m_4, m_5, m_6, m_7, m_8, m_9, m_10, m_11, m_12, m_13, m_14, m_15, m_16, m_17, m_18, m_19, m_20, m_21, m_22, m_23, m_24, m_25, m_26, m_27, m_28, m_29, m_30, m_31, m_32, m_33, m_34, m_35, m_36, m_37, m_38, m_39, m_40, m_41, m_42, m_43, m_44, m_45, m_46, m_47, m_48, m_49, m_50, m_51, m_52, m_53, m_54, m_55, m_56, m_57, m_58, m_59]), (cc_l w0 (K 0) 5500 fw)] sz)) 0 0 (va_A [(cc_O m0 12 [.int thr, m_1, m_2, .ref w0, m_4, m_5, m_6, m_7, m_8, m_9, m_10, m_11, m_12, m_13, m_14, m_15, m_16, m_17, m_18, m_19, m_20, m_21, m_22, m_23, m_24, m_25, m_26, m_27, m_28, m_29, m_30, m_31, m_32, m_33, m_34, m_35, m_36, m_37, m_38, m_39, m_40, m_41, m_42, m_43, m_44, m_45, m_46, m_47, m_48, m_49, m_50, m_51, m_52, m_53, m_54, m_55, m_56, m_57, m_58, m_59]), (cc_l w0 (K 0) 5500 fw)] sz) := by
  refine Met.ofW (cc := cX12_hill) (maxL := 5) (ret := (some .int)) (by decide +kernel) rfl ?_
  intro p e s m args below meth c s₁ B hml hv
  obtain ⟨rfl, hsz, hP, hK, hD0, hN⟩ := hv
  have hx := B.exec
  have hb := B.bytes
  have hr := B.returns
  have hts := atoms_spec (ws := wsX12_hill) B.pre
  have hown : s.vm.findClass RX12 = some m.cls := findClass_of_methodNamed B.named
  have hlocks := B.notSynchronized
  subst hsz
  have hD := hD0.self (sz := s.heap.size)
  generalize hAe : va_A [(cc_O m0 12 [.int thr, m_1, m_2, .ref w0, m_4, m_5, m_6, m_7, m_8, m_9, m_10, m_11, m_12, m_13, m_14, m_15, m_16, m_17, m_18, m_19, m_20, m_21, m_22, m_23, m_24, m_25, m_26, m_27, m_28, m_29, m_30, m_31, m_32, m_33, m_34, m_35, m_36, m_37, m_38, m_39, m_40, m_41, m_42, m_43, m_44, m_45, m_46, m_47, m_48, m_49, m_50, m_51, m_52, m_53, m_54, m_55, m_56, m_57, m_58, m_59]), (cc_l w0 (K 0) 5500 fw)] s.heap.size = A at hD ⊢
  have hA : ∀ q : Nat, s.heap.size ≤ q → A q := fun q h => by rw [← hAe]; exact Or.inr h
  clear hAe
  have hS : va_S A s.heap s.heap [] := va_S.rf
  replace hP : va_P D vwCl [(cc_O m0 12 [.int thr, m_1, m_2, .ref w0, m_4, m_5, m_6, m_7, m_8, m_9, m_10, m_11, m_12, m_13, m_14, m_15, m_16, m_17, m_18, m_19, m_20, m_21, m_22, m_23, m_24, m_25, m_26, m_27, m_28, m_29, m_30, m_31, m_32, m_33, m_34, m_35, m_36, m_37, m_38, m_39, m_40, m_41, m_42, m_43, m_44, m_45, m_46, m_47, m_48, m_49, m_50, m_51, m_52, m_53, m_54, m_55, m_56, m_57, m_58, m_59]), (cc_l w0 (K 0) 5500 fw)] s.heap := hP
  have hl := lv_entry [.ref m0, .int x] (n := 5) (Nat.le_of_ble_eq_true rfl)
  rw [lg_entry_eq]
  generalize (lg_sl [.ref m0, .int x] ++ List.replicate (5 - (lg_sl [.ref m0, .int x]).length) Slot.unset).toArray = ls at hl ⊢
  have hl : lv_has ls 5 [(0, .ref m0), (1, .int x)] := hl
  have hw12 : ∀ w ∈ wsX120, w ∈ wsX12_hill := fun w h => (List.mem_cons_of_mem _ (List.mem_append_right _ h))
  generalize hQ : MQ below _ _ s _ _ _ = Q
  have hE := E_v_hill.eq_def x thr fw
  refine lv_aload_n hx hb dX12_hill_0 rfl (lv_at hl 0 rfl) (lv_iconst (v := 0) hx hb dX12_hill_1 (by decide +kernel) (va_put (ci := 12) (v := .int 0) (ty := .int) (C := RX12) (T := TX12) (N := 60) hx hb hts hw12 tyX12 tyX12_ok nmX12 hown hK hP hD hS 0 rfl rfl 0 (by decide +kernel) (hts _ mm_X12_hill_830) (fun _ h9 => h9) rfl (by decide +kernel) (by first | rfl | decide) (by first | rfl | decide) (Nat.le_of_ble_eq_true rfl) dX12_hill_2 (fun H locs hP0 hD0 hS0 => ?_)))
  replace hP : va_P D vwCl [(cc_O m0 12 [.int 0, m_1, m_2, .ref w0, m_4, m_5, m_6, m_7, m_8, m_9, m_10, m_11, m_12, m_13, m_14, m_15, m_16, m_17, m_18, m_19, m_20, m_21, m_22, m_23, m_24, m_25, m_26, m_27, m_28, m_29, m_30, m_31, m_32, m_33, m_34, m_35, m_36, m_37, m_38, m_39, m_40, m_41, m_42, m_43, m_44, m_45, m_46, m_47, m_48, m_49, m_50, m_51, m_52, m_53, m_54, m_55, m_56, m_57, m_58, m_59]), (cc_l w0 (K 0) 5500 fw)] H := hP0
  replace hD := as_D hP hD0 rfl
  replace hS := hS0
  clear hP0 hD0 hS0
  refine lv_iconst (v := 0) hx hb dX12_hill_5 (by decide +kernel) (lv_istore_n (lv' := [(2, .int 0), (0, .ref m0), (1, .int x)]) hx hb dX12_hill_6 rfl hl (by decide +kernel) rfl (fun ls hl => ?_))
  refine lv_iconst (v := (-1)) hx hb dX12_hill_7 (by decide +kernel) (lv_istore_n (lv' := [(3, .int (-1)), (2, .int 0), (0, .ref m0), (1, .int x)]) hx hb dX12_hill_8 rfl hl (by decide +kernel) rfl (fun ls hl => ?_))
  refine lv_iconst (v := 0) hx hb dX12_hill_9 (by decide +kernel) (lv_istore (lv' := [(4, .int 0), (3, .int (-1)), (2, .int 0), (0, .ref m0), (1, .int x)]) hx hb dX12_hill_10 hl (by decide +kernel) rfl (fun ls hl => ?_))
  have lp_540 : ∀ (nn_ : Nat) (v_496 : Int32) (v_497 : Int32) (v_498 : Int32) (hv_496 : 0 ≤ v_496.toInt ∧ v_496.toInt ≤ 256) (hv_497 : (-1) ≤ v_497.toInt) (hn : (257 - v_496.toInt : Int).toNat < nn_) (hE : E_v_hill x thr fw = Lp (α := Int32 → Int32 → Int32 → (Int32)) (E_v_hill_l12 x fw) (fun _ _ _ => ((0) : Int32)) nn_ v_496 v_497 v_498) (H : Heap) (locs : List Loc) (hP : va_P D vwCl [(cc_O m0 12 [.int 0, m_1, m_2, .ref w0, m_4, m_5, m_6, m_7, m_8, m_9, m_10, m_11, m_12, m_13, m_14, m_15, m_16, m_17, m_18, m_19, m_20, m_21, m_22, m_23, m_24, m_25, m_26, m_27, m_28, m_29, m_30, m_31, m_32, m_33, m_34, m_35, m_36, m_37, m_38, m_39, m_40, m_41, m_42, m_43, m_44, m_45, m_46, m_47, m_48, m_49, m_50, m_51, m_52, m_53, m_54, m_55, m_56, m_57, m_58, m_59]), (cc_l w0 (K 0) 5500 fw)] H) (hD : va_D A [(cc_O m0 12 [.int 0, m_1, m_2, .ref w0, m_4, m_5, m_6, m_7, m_8, m_9, m_10, m_11, m_12, m_13, m_14, m_15, m_16, m_17, m_18, m_19, m_20, m_21, m_22, m_23, m_24, m_25, m_26, m_27, m_28, m_29, m_30, m_31, m_32, m_33, m_34, m_35, m_36, m_37, m_38, m_39, m_40, m_41, m_42, m_43, m_44, m_45, m_46, m_47, m_48, m_49, m_50, m_51, m_52, m_53, m_54, m_55, m_56, m_57, m_58, m_59]), (cc_l w0 (K 0) 5500 fw)]) (hS : va_S A s.heap H locs) (ls : Array Slot) (hl : lv_has ls 5 [(4, .int v_496), (3, .int v_497), (2, .int v_498), (0, .ref m0), (1, .int x)]), W p l e ({ frames := 2, cells := 0, slots := 0, locals := 45 }) s m (([.ref m0, .int x] : List Value).toArray) below meth c H locs 0 0 Q (F0 m 12 ls []) := by
    clear hE hP hD hS hl
    intro nn_
    induction nn_ with
    | zero =>
      intro v_496 v_497 v_498 hv_496 hv_497 hn hE H locs hP hD hS ls hl
      exact absurd hn (Nat.not_lt_zero _)
    | succ nn_ ih_541 =>
      intro v_496 v_497 v_498 hv_496 hv_497 hn hE H locs hP hD hS ls hl
      replace hE : E_v_hill x thr fw = E_v_hill_l12 x fw (Lp (α := Int32 → Int32 → Int32 → (Int32)) (E_v_hill_l12 x fw) (fun _ _ _ => ((0) : Int32)) nn_) v_496 v_497 v_498 := hE
      obtain ⟨rec_540, hrec_540⟩ : ∃ z9, z9 = Lp (α := Int32 → Int32 → Int32 → (Int32)) (E_v_hill_l12 x fw) (fun _ _ _ => ((0) : Int32)) nn_ := ⟨_, rfl⟩
      rw [← hrec_540] at hE
      replace hE := hE.trans (E_v_hill_l12.eq_def _ _ _ _ _ _)
      refine lv_iload hx hb dX12_hill_12 (lv_at hl 0 rfl) (lv_iconst (v := 1) hx hb dX12_hill_14 (by decide +kernel) (lv_aload_n hx hb dX12_hill_15 rfl (lv_at hl 3 rfl) (va_get (ci := 12) (v := .ref w0) (C := RX12) (T := TX12) (N := 60) hx hb hts hw12 hown hK hP 0 rfl rfl 3 (by decide +kernel) (hts _ mm_X12_hill_833) (fun _ h9 => h9) rfl dX12_hill_16 (lv_iconst (v := 0) hx hb dX12_hill_19 (by decide +kernel) (va_iald hx hb hK hP 1 0 rfl rfl (i_in (x := 0) rfl (by omega)) dX12_hill_20 (lv_topi (fun x_542 ex_542 => ?_)))))))
      replace hE := hE.trans (Lt_in ex_542)
      have px_542 := RwOK.at zfw (show (0 : Int32).toInt = 0 from rfl) (show 0 ≤ 0 ∧ 0 < 100 by omega)
      rw [← ex_542] at px_542
      have hx_542 := PR.r_0 px_542 (by omega)
      refine lv_ishl hx hb dX12_hill_21 (lv_topi (fun x_543 ex_543 => ?_))
      replace hE := hE.trans (Lt_in ex_543)
      have hx_543 : 1 ≤ x_543.toInt ∧ x_543.toInt ≤ 256 := by rw [ex_543]; exact i_shl1 rfl (n := 8) (by decide +kernel) (by omega)
      refine lv_icmp_ge (tgt := 55) hx hb dX12_hill_22 (by decide +kernel) (fun c_544 => ?_) (fun c_544 => ?_)
      · have c_544i := i_le (x := x_543.toInt) (y := v_496.toInt) rfl rfl c_544
        replace hE := hE.trans (if_pos c_544)
        refine lv_iload_n hx hb dX12_hill_55 rfl (lv_at hl 4 rfl) (lv_iconst (v := (-1)) hx hb dX12_hill_56 (by decide +kernel) (lv_icmp_ne (tgt := 64) hx hb dX12_hill_57 (by decide +kernel) (fun c_545 => ?_) (fun c_545 => ?_)))
        · have c_545i := i_ne (x := x.toInt) (y := (-1)) rfl rfl c_545
          replace hE := hE.trans (if_neg c_545)
          refine lv_iload_n hx hb dX12_hill_64 rfl (lv_at hl 1 rfl) ?_
          rw [← hQ]
          have hP9 := hP.sub (ws' := [(cc_O m0 12 [.int 0, m_1, m_2, .ref w0, m_4, m_5, m_6, m_7, m_8, m_9, m_10, m_11, m_12, m_13, m_14, m_15, m_16, m_17, m_18, m_19, m_20, m_21, m_22, m_23, m_24, m_25, m_26, m_27, m_28, m_29, m_30, m_31, m_32, m_33, m_34, m_35, m_36, m_37, m_38, m_39, m_40, m_41, m_42, m_43, m_44, m_45, m_46, m_47, m_48, m_49, m_50, m_51, m_52, m_53, m_54, m_55, m_56, m_57, m_58, m_59]), (cc_l w0 (K 0) 5500 fw)]) [0, 1] rfl
          have hD9 := sub_D hP9 hD [0, 1] (by decide +kernel) rfl
          exact W.iret (v := v_497) hx hb hr (fun t ht hW => ⟨⟨v_497, ((fun _ => 0, fun _ => fun _ => 0, fun _ => fun _ => 0, fun _ => 0, fun _ => 0, fun _ => fun _ => none) : Su), rfl, ⟨hE.symm, trivial⟩, (⟨by rw [ht]; exact hP9, hD9⟩ : Wd D A _ t)⟩, hS.F ht⟩) hS.2.2 dX12_hill_65
        · have c_545i := i_eq (x := x.toInt) (y := (-1)) rfl rfl c_545
          replace hE := hE.trans (if_pos c_545)
          refine lv_iload_n hx hb dX12_hill_60 rfl (lv_at hl 2 rfl) (lv_goto (tgt := 65) hx hb dX12_hill_61 (by decide +kernel) ?_)
          rw [← hQ]
          have hP9 := hP.sub (ws' := [(cc_O m0 12 [.int 0, m_1, m_2, .ref w0, m_4, m_5, m_6, m_7, m_8, m_9, m_10, m_11, m_12, m_13, m_14, m_15, m_16, m_17, m_18, m_19, m_20, m_21, m_22, m_23, m_24, m_25, m_26, m_27, m_28, m_29, m_30, m_31, m_32, m_33, m_34, m_35, m_36, m_37, m_38, m_39, m_40, m_41, m_42, m_43, m_44, m_45, m_46, m_47, m_48, m_49, m_50, m_51, m_52, m_53, m_54, m_55, m_56, m_57, m_58, m_59]), (cc_l w0 (K 0) 5500 fw)]) [0, 1] rfl
          have hD9 := sub_D hP9 hD [0, 1] (by decide +kernel) rfl
          exact W.iret (v := v_498) hx hb hr (fun t ht hW => ⟨⟨v_498, ((fun _ => 0, fun _ => fun _ => 0, fun _ => fun _ => 0, fun _ => 0, fun _ => 0, fun _ => fun _ => none) : Su), rfl, ⟨hE.symm, trivial⟩, (⟨by rw [ht]; exact hP9, hD9⟩ : Wd D A _ t)⟩, hS.F ht⟩) hS.2.2 dX12_hill_65
      · have c_544i := i_nle (x := x_543.toInt) (y := v_496.toInt) rfl rfl c_544
        replace hE := hE.trans (if_neg c_544)
        refine lv_aload_n hx hb dX12_hill_25 rfl (lv_at hl 3 rfl) (lv_iload hx hb dX12_hill_26 (lv_at hl 0 rfl) (pci (va_runV (As := [.int v_496]) (rest := []) ⟨hx, hb, hml, hown, hts⟩ (v_isAsHeard l D K m0 v_496 (.int 0) m_1 m_2 w0 m_4 m_5 m_6 m_7 m_8 m_9 m_10 m_11 m_12 m_13 m_14 m_15 m_16 m_17 m_18 m_19 m_20 m_21 m_22 m_23 m_24 m_25 m_26 m_27 m_28 m_29 m_30 m_31 m_32 m_33 m_34 m_35 m_36 m_37 m_38 m_39 m_40 m_41 m_42 m_43 m_44 m_45 m_46 m_47 m_48 m_49 m_50 m_51 m_52 m_53 m_54 m_55 m_56 m_57 m_58 m_59 fw H.size zfw) (cwV 1 hts gX12_hill_X12_isAsHeard rfl rfl rfl (by decide +kernel) ⟨Nat.le_of_ble_eq_true rfl, Nat.le_of_ble_eq_true rfl⟩) (mkV hK hN (hP.sub [0, 1] rfl) (hD.sub [0, 1] (by decide +kernel) rfl) (ci := 12) (q0 := 0) rfl rfl) rfl rfl hl.1 rfl (lv_room (Nat.le_of_ble_eq_true rfl)) dX12_hill_28 ⟨Nat.le_of_ble_eq_true rfl, Nat.le_of_ble_eq_true rfl⟩) (fun r_546 hw => ?_)))
        obtain ⟨h_548, k_547, -⟩ := hw
        replace hE := hE.trans (Lt_in k_547)
        have j_556 : ∀ (v_553 : Int32) (v_554 : Int32) (hv_553 : (-1) ≤ v_553.toInt) (hE : E_v_hill x thr fw = E_v_hill_j49 v_496 rec_540 v_553 v_554) (H : Heap) (locs : List Loc) (hP : va_P D vwCl [(cc_O m0 12 [.int 0, m_1, m_2, .ref w0, m_4, m_5, m_6, m_7, m_8, m_9, m_10, m_11, m_12, m_13, m_14, m_15, m_16, m_17, m_18, m_19, m_20, m_21, m_22, m_23, m_24, m_25, m_26, m_27, m_28, m_29, m_30, m_31, m_32, m_33, m_34, m_35, m_36, m_37, m_38, m_39, m_40, m_41, m_42, m_43, m_44, m_45, m_46, m_47, m_48, m_49, m_50, m_51, m_52, m_53, m_54, m_55, m_56, m_57, m_58, m_59]), (cc_l w0 (K 0) 5500 fw)] H) (hD : va_D A [(cc_O m0 12 [.int 0, m_1, m_2, .ref w0, m_4, m_5, m_6, m_7, m_8, m_9, m_10, m_11, m_12, m_13, m_14, m_15, m_16, m_17, m_18, m_19, m_20, m_21, m_22, m_23, m_24, m_25, m_26, m_27, m_28, m_29, m_30, m_31, m_32, m_33, m_34, m_35, m_36, m_37, m_38, m_39, m_40, m_41, m_42, m_43, m_44, m_45, m_46, m_47, m_48, m_49, m_50, m_51, m_52, m_53, m_54, m_55, m_56, m_57, m_58, m_59]), (cc_l w0 (K 0) 5500 fw)]) (hS : va_S A s.heap H locs) (ls : Array Slot) (hl : lv_has ls 5 [(4, .int v_496), (3, .int v_553), (2, .int v_554), (0, .ref m0), (1, .int x)]), W p l e ({ frames := 2, cells := 0, slots := 0, locals := 45 }) s m (([.ref m0, .int x] : List Value).toArray) below meth c H locs 0 0 Q (F0 m 49 ls []) := by
          clear hE hP hD hS hl
          intro v_553 v_554 hv_553 hE H locs hP hD hS ls hl
          replace hE := hE.trans (E_v_hill_j49.eq_def _ _ _ _)
          obtain ⟨x_557, ex_557⟩ : ∃ y : Int32, y = v_496 + Int32.ofInt 1 := ⟨_, rfl⟩
          replace hE := hE.trans (Lt_in ex_557)
          have hx_557 : x_557.toInt = (v_496.toInt + 1) := by rw [ex_557]; exact i_add rfl (show (Int32.ofInt 1).toInt = 1 from rfl) (by omega)
          refine lv_iinc (v := x_557) (lv' := [(4, .int x_557), (3, .int v_553), (2, .int v_554), (0, .ref m0), (1, .int x)]) hx hb dX12_hill_49 hl (k := 0) rfl (by rw [ex_557]) (by decide +kernel) rfl (fun ls hl => ?_)
          refine lv_goto (tgt := 12) hx hb dX12_hill_52 (by decide +kernel) ?_
          exact ih_541 x_557 v_553 v_554 (by rw [hx_557]; omega) (by omega) (by omega) (hE.trans (by rw [hrec_540])) _ _ hP hD hS ls (lv_sub hl [0, 1, 2, 3, 4] rfl)
        refine lv_if_eq (tgt := 49) hx hb dX12_hill_31 (by decide +kernel) (fun c_558 => ?_) (fun c_558 => ?_)
        · have c_558i := i_eq (x := r_546.toInt) (y := 0) rfl rfl c_558
          replace hE := hE.trans (if_pos c_558)
          exact j_556 v_497 v_498 (by omega) hE _ _ hP hD hS ls (lv_sub hl [0, 1, 2, 3, 4] rfl)
        · have c_558i := i_ne (x := r_546.toInt) (y := 0) rfl rfl c_558
          replace hE := hE.trans (if_neg c_558)
          refine lv_iload_n hx hb dX12_hill_34 rfl (lv_at hl 2 rfl) (lv_iload_n hx hb dX12_hill_35 rfl (lv_at hl 4 rfl) (lv_icmp_ne (tgt := 44) hx hb dX12_hill_36 (by decide +kernel) (fun c_559 => ?_) (fun c_559 => ?_)))
          · have c_559i := i_ne (x := v_498.toInt) (y := x.toInt) rfl rfl c_559
            replace hE := hE.trans (if_neg c_559)
            refine lv_iload_n hx hb dX12_hill_44 rfl (lv_at hl 1 rfl) (lv_istore_n (lv' := [(3, .int v_497), (4, .int v_496), (2, .int v_498), (0, .ref m0), (1, .int x)]) hx hb dX12_hill_45 rfl hl (by decide +kernel) rfl (fun ls hl => ?_))
            obtain ⟨x_560, ex_560⟩ : ∃ y : Int32, y = v_498 + Int32.ofInt 1 := ⟨_, rfl⟩
            replace hE := hE.trans (Lt_in ex_560)
            refine lv_iinc (v := x_560) (lv' := [(2, .int x_560), (3, .int v_497), (4, .int v_496), (0, .ref m0), (1, .int x)]) hx hb dX12_hill_46 hl (k := 2) rfl (by rw [ex_560]) (by decide +kernel) rfl (fun ls hl => ?_)
            exact j_556 v_497 x_560 (by omega) hE _ _ hP hD hS ls (lv_sub hl [2, 1, 0, 3, 4] rfl)
          · have c_559i := i_eq (x := v_498.toInt) (y := x.toInt) rfl rfl c_559
            replace hE := hE.trans (if_pos c_559)
            refine lv_iload hx hb dX12_hill_39 (lv_at hl 0 rfl) (lv_goto (tgt := 45) hx hb dX12_hill_41 (by decide +kernel) (lv_istore_n (lv' := [(3, .int v_496), (4, .int v_496), (2, .int v_498), (0, .ref m0), (1, .int x)]) hx hb dX12_hill_45 rfl hl (by decide +kernel) rfl (fun ls hl => ?_)))
            obtain ⟨x_561, ex_561⟩ : ∃ y : Int32, y = v_498 + Int32.ofInt 1 := ⟨_, rfl⟩
            replace hE := hE.trans (Lt_in ex_561)
            refine lv_iinc (v := x_561) (lv' := [(2, .int x_561), (3, .int v_496), (4, .int v_496), (0, .ref m0), (1, .int x)]) hx hb dX12_hill_46 hl (k := 2) rfl (by rw [ex_561]) (by decide +kernel) rfl (fun ls hl => ?_)
            exact j_556 v_496 x_561 (by omega) hE _ _ hP hD hS ls (lv_sub hl [2, 1, 0, 3, 4] rfl)
  exact lp_540 ((257 - (0 : Int32).toInt : Int).toNat + 1) 0 (-1) 0 (by decide +kernel) (by decide +kernel) (Nat.lt_succ_self _) hE _ _ hP hD hS ls (lv_sub hl [0, 1, 2, 3, 4] rfl)
