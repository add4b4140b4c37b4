theorem BX4_fill_0 : bsegs (ByteArray.data cX4_fill |>.toList.drop 0) 0 [(0, [3]), (1, [54, 4]), (3, [3]), (4, [54, 5]), (6, [21, 5]), (8, [43]), (9, [180, 0, 27]), (12, [162, 0, 74]), (15, [42]), (16, [180, 0, 21]), (19, [21, 5]), (21, [43]), (22, [21, 5]), (24, [3]), (25, [182, 0, 45]), (28, [79]), (29, [43]), (30, [21, 5]), (32, [4]), (33, [182, 0, 45]), (36, [28]), (37, [160, 0, 43]), (40, [42]), (41, [180, 0, 21])] = true := by decide +kernel
theorem dX4_fill_0 : decode cX4_fill 0 = .ok (.iconst 0, 1) := dk_3 (bs_at BX4_fill_0 0 rfl)
theorem dX4_fill_1 : decode cX4_fill 1 = .ok (.istore 4, 2) := dk_54 4 (bs_at BX4_fill_0 1 rfl)
theorem dX4_fill_3 : decode cX4_fill 3 = .ok (.iconst 0, 1) := dk_3 (bs_at BX4_fill_0 2 rfl)
theorem dX4_fill_4 : decode cX4_fill 4 = .ok (.istore 5, 2) := dk_54 5 (bs_at BX4_fill_0 3 rfl)
theorem dX4_fill_6 : decode cX4_fill 6 = .ok (.iload 5, 2) := dk_21 5 (bs_at BX4_fill_0 4 rfl)
theorem dX4_fill_8 : decode cX4_fill 8 = .ok (.aload_n 1, 1) := dk_43 (bs_at BX4_fill_0 5 rfl)
theorem dX4_fill_9 : decode cX4_fill 9 = .ok (.getfield 27, 3) := dk_180 0 27 (bs_at BX4_fill_0 6 rfl) rfl
theorem dX4_fill_12 : decode cX4_fill 12 = .ok (.if_icmp .ge 74, 3) := dk_162 0 74 (bs_at BX4_fill_0 7 rfl) rfl
theorem dX4_fill_15 : decode cX4_fill 15 = .ok (.aload_n 0, 1) := dk_42 (bs_at BX4_fill_0 8 rfl)
theorem dX4_fill_16 : decode cX4_fill 16 = .ok (.getfield 21, 3) := dk_180 0 21 (bs_at BX4_fill_0 9 rfl) rfl
theorem dX4_fill_19 : decode cX4_fill 19 = .ok (.iload 5, 2) := dk_21 5 (bs_at BX4_fill_0 10 rfl)
theorem dX4_fill_21 : decode cX4_fill 21 = .ok (.aload_n 1, 1) := dk_43 (bs_at BX4_fill_0 11 rfl)
theorem dX4_fill_22 : decode cX4_fill 22 = .ok (.iload 5, 2) := dk_21 5 (bs_at BX4_fill_0 12 rfl)
theorem dX4_fill_24 : decode cX4_fill 24 = .ok (.iconst 0, 1) := dk_3 (bs_at BX4_fill_0 13 rfl)
theorem dX4_fill_25 : decode cX4_fill 25 = .ok (.invokevirtual 45, 3) := dk_182 0 45 (bs_at BX4_fill_0 14 rfl) rfl
theorem dX4_fill_28 : decode cX4_fill 28 = .ok (.iastore, 1) := dk_79 (bs_at BX4_fill_0 15 rfl)
theorem dX4_fill_29 : decode cX4_fill 29 = .ok (.aload_n 1, 1) := dk_43 (bs_at BX4_fill_0 16 rfl)
theorem dX4_fill_30 : decode cX4_fill 30 = .ok (.iload 5, 2) := dk_21 5 (bs_at BX4_fill_0 17 rfl)
theorem dX4_fill_32 : decode cX4_fill 32 = .ok (.iconst 1, 1) := dk_4 (bs_at BX4_fill_0 18 rfl)
theorem dX4_fill_33 : decode cX4_fill 33 = .ok (.invokevirtual 45, 3) := dk_182 0 45 (bs_at BX4_fill_0 19 rfl) rfl
theorem dX4_fill_36 : decode cX4_fill 36 = .ok (.iload_n 2, 1) := dk_28 (bs_at BX4_fill_0 20 rfl)
theorem dX4_fill_37 : decode cX4_fill 37 = .ok (.if_icmp .ne 43, 3) := dk_160 0 43 (bs_at BX4_fill_0 21 rfl) rfl
theorem dX4_fill_40 : decode cX4_fill 40 = .ok (.aload_n 0, 1) := dk_42 (bs_at BX4_fill_0 22 rfl)
theorem dX4_fill_41 : decode cX4_fill 41 = .ok (.getfield 21, 3) := dk_180 0 21 (bs_at BX4_fill_0 23 rfl) rfl
theorem BX4_fill_44 : bsegs (ByteArray.data cX4_fill |>.toList.drop 44) 44 [(44, [21, 5]), (46, [43]), (47, [21, 5]), (49, [3]), (50, [182, 0, 45]), (53, [29]), (54, [184, 0, 68]), (57, [79]), (58, [21, 4]), (60, [42]), (61, [180, 0, 21]), (64, [21, 5]), (66, [46]), (67, [43]), (68, [21, 5]), (70, [3]), (71, [182, 0, 45]), (74, [184, 0, 71]), (77, [96]), (78, [54, 4]), (80, [132, 5, 1]), (83, [167, 255, 179]), (86, [21, 4]), (88, [172])] = true := by decide +kernel
theorem dX4_fill_44 : decode cX4_fill 44 = .ok (.iload 5, 2) := dk_21 5 (bs_at BX4_fill_44 0 rfl)
theorem dX4_fill_46 : decode cX4_fill 46 = .ok (.aload_n 1, 1) := dk_43 (bs_at BX4_fill_44 1 rfl)
theorem dX4_fill_47 : decode cX4_fill 47 = .ok (.iload 5, 2) := dk_21 5 (bs_at BX4_fill_44 2 rfl)
theorem dX4_fill_49 : decode cX4_fill 49 = .ok (.iconst 0, 1) := dk_3 (bs_at BX4_fill_44 3 rfl)
theorem dX4_fill_50 : decode cX4_fill 50 = .ok (.invokevirtual 45, 3) := dk_182 0 45 (bs_at BX4_fill_44 4 rfl) rfl
theorem dX4_fill_53 : decode cX4_fill 53 = .ok (.iload_n 3, 1) := dk_29 (bs_at BX4_fill_44 5 rfl)
theorem dX4_fill_54 : decode cX4_fill 54 = .ok (.invokestatic 68, 3) := dk_184 0 68 (bs_at BX4_fill_44 6 rfl) rfl
theorem dX4_fill_57 : decode cX4_fill 57 = .ok (.iastore, 1) := dk_79 (bs_at BX4_fill_44 7 rfl)
theorem dX4_fill_58 : decode cX4_fill 58 = .ok (.iload 4, 2) := dk_21 4 (bs_at BX4_fill_44 8 rfl)
theorem dX4_fill_60 : decode cX4_fill 60 = .ok (.aload_n 0, 1) := dk_42 (bs_at BX4_fill_44 9 rfl)
theorem dX4_fill_61 : decode cX4_fill 61 = .ok (.getfield 21, 3) := dk_180 0 21 (bs_at BX4_fill_44 10 rfl) rfl
theorem dX4_fill_64 : decode cX4_fill 64 = .ok (.iload 5, 2) := dk_21 5 (bs_at BX4_fill_44 11 rfl)
theorem dX4_fill_66 : decode cX4_fill 66 = .ok (.iaload, 1) := dk_46 (bs_at BX4_fill_44 12 rfl)
theorem dX4_fill_67 : decode cX4_fill 67 = .ok (.aload_n 1, 1) := dk_43 (bs_at BX4_fill_44 13 rfl)
theorem dX4_fill_68 : decode cX4_fill 68 = .ok (.iload 5, 2) := dk_21 5 (bs_at BX4_fill_44 14 rfl)
theorem dX4_fill_70 : decode cX4_fill 70 = .ok (.iconst 0, 1) := dk_3 (bs_at BX4_fill_44 15 rfl)
theorem dX4_fill_71 : decode cX4_fill 71 = .ok (.invokevirtual 45, 3) := dk_182 0 45 (bs_at BX4_fill_44 16 rfl) rfl
theorem dX4_fill_74 : decode cX4_fill 74 = .ok (.invokestatic 71, 3) := dk_184 0 71 (bs_at BX4_fill_44 17 rfl) rfl
theorem dX4_fill_77 : decode cX4_fill 77 = .ok (.iadd, 1) := dk_96 (bs_at BX4_fill_44 18 rfl)
theorem dX4_fill_78 : decode cX4_fill 78 = .ok (.istore 4, 2) := dk_54 4 (bs_at BX4_fill_44 19 rfl)
theorem dX4_fill_80 : decode cX4_fill 80 = .ok (.iinc 5 1, 3) := dk_132 5 1 (bs_at BX4_fill_44 20 rfl) rfl
theorem dX4_fill_83 : decode cX4_fill 83 = .ok (.goto (-77), 3) := dk_167 255 179 (bs_at BX4_fill_44 21 rfl) rfl
theorem dX4_fill_86 : decode cX4_fill 86 = .ok (.iload 4, 2) := dk_21 4 (bs_at BX4_fill_44 22 rfl)
theorem dX4_fill_88 : decode cX4_fill 88 = .ok (.ireturn, 1) := dk_172 (bs_at BX4_fill_44 23 rfl)
theorem BX4_ahead_0 : bsegs (ByteArray.data cX4_ahead |>.toList.drop 0) 0 [(0, [3]), (1, [61]), (2, [28]), (3, [27]), (4, [162, 0, 45]), (7, [42]), (8, [180, 0, 21]), (11, [28]), (12, [46]), (13, [42]), (14, [180, 0, 18]), (17, [28]), (18, [46]), (19, [159, 0, 24]), (22, [42]), (23, [180, 0, 21]), (26, [28]), (27, [46]), (28, [42]), (29, [180, 0, 18]), (32, [28]), (33, [46]), (34, [162, 0, 7]), (37, [4])] = true := by decide +kernel
theorem dX4_ahead_0 : decode cX4_ahead 0 = .ok (.iconst 0, 1) := dk_3 (bs_at BX4_ahead_0 0 rfl)
theorem dX4_ahead_1 : decode cX4_ahead 1 = .ok (.istore_n 2, 1) := dk_61 (bs_at BX4_ahead_0 1 rfl)
theorem dX4_ahead_2 : decode cX4_ahead 2 = .ok (.iload_n 2, 1) := dk_28 (bs_at BX4_ahead_0 2 rfl)
theorem dX4_ahead_3 : decode cX4_ahead 3 = .ok (.iload_n 1, 1) := dk_27 (bs_at BX4_ahead_0 3 rfl)
theorem dX4_ahead_4 : decode cX4_ahead 4 = .ok (.if_icmp .ge 45, 3) := dk_162 0 45 (bs_at BX4_ahead_0 4 rfl) rfl
theorem dX4_ahead_7 : decode cX4_ahead 7 = .ok (.aload_n 0, 1) := dk_42 (bs_at BX4_ahead_0 5 rfl)
theorem dX4_ahead_8 : decode cX4_ahead 8 = .ok (.getfield 21, 3) := dk_180 0 21 (bs_at BX4_ahead_0 6 rfl) rfl
theorem dX4_ahead_11 : decode cX4_ahead 11 = .ok (.iload_n 2, 1) := dk_28 (bs_at BX4_ahead_0 7 rfl)
theorem dX4_ahead_12 : decode cX4_ahead 12 = .ok (.iaload, 1) := dk_46 (bs_at BX4_ahead_0 8 rfl)
theorem dX4_ahead_13 : decode cX4_ahead 13 = .ok (.aload_n 0, 1) := dk_42 (bs_at BX4_ahead_0 9 rfl)
theorem dX4_ahead_14 : decode cX4_ahead 14 = .ok (.getfield 18, 3) := dk_180 0 18 (bs_at BX4_ahead_0 10 rfl) rfl
theorem dX4_ahead_17 : decode cX4_ahead 17 = .ok (.iload_n 2, 1) := dk_28 (bs_at BX4_ahead_0 11 rfl)
theorem dX4_ahead_18 : decode cX4_ahead 18 = .ok (.iaload, 1) := dk_46 (bs_at BX4_ahead_0 12 rfl)
theorem dX4_ahead_19 : decode cX4_ahead 19 = .ok (.if_icmp .eq 24, 3) := dk_159 0 24 (bs_at BX4_ahead_0 13 rfl) rfl
theorem dX4_ahead_22 : decode cX4_ahead 22 = .ok (.aload_n 0, 1) := dk_42 (bs_at BX4_ahead_0 14 rfl)
theorem dX4_ahead_23 : decode cX4_ahead 23 = .ok (.getfield 21, 3) := dk_180 0 21 (bs_at BX4_ahead_0 15 rfl) rfl
theorem dX4_ahead_26 : decode cX4_ahead 26 = .ok (.iload_n 2, 1) := dk_28 (bs_at BX4_ahead_0 16 rfl)
theorem dX4_ahead_27 : decode cX4_ahead 27 = .ok (.iaload, 1) := dk_46 (bs_at BX4_ahead_0 17 rfl)
theorem dX4_ahead_28 : decode cX4_ahead 28 = .ok (.aload_n 0, 1) := dk_42 (bs_at BX4_ahead_0 18 rfl)
theorem dX4_ahead_29 : decode cX4_ahead 29 = .ok (.getfield 18, 3) := dk_180 0 18 (bs_at BX4_ahead_0 19 rfl) rfl
theorem dX4_ahead_32 : decode cX4_ahead 32 = .ok (.iload_n 2, 1) := dk_28 (bs_at BX4_ahead_0 20 rfl)
theorem dX4_ahead_33 : decode cX4_ahead 33 = .ok (.iaload, 1) := dk_46 (bs_at BX4_ahead_0 21 rfl)
theorem dX4_ahead_34 : decode cX4_ahead 34 = .ok (.if_icmp .ge 7, 3) := dk_162 0 7 (bs_at BX4_ahead_0 22 rfl) rfl
theorem dX4_ahead_37 : decode cX4_ahead 37 = .ok (.iconst 1, 1) := dk_4 (bs_at BX4_ahead_0 23 rfl)
theorem BX4_ahead_38 : bsegs (ByteArray.data cX4_ahead |>.toList.drop 38) 38 [(38, [167, 0, 4]), (41, [3]), (42, [172]), (43, [132, 2, 1]), (46, [167, 255, 212]), (49, [3]), (50, [172])] = true := by decide +kernel
theorem dX4_ahead_38 : decode cX4_ahead 38 = .ok (.goto 4, 3) := dk_167 0 4 (bs_at BX4_ahead_38 0 rfl) rfl
theorem dX4_ahead_41 : decode cX4_ahead 41 = .ok (.iconst 0, 1) := dk_3 (bs_at BX4_ahead_38 1 rfl)
theorem dX4_ahead_42 : decode cX4_ahead 42 = .ok (.ireturn, 1) := dk_172 (bs_at BX4_ahead_38 2 rfl)
theorem dX4_ahead_43 : decode cX4_ahead 43 = .ok (.iinc 2 1, 3) := dk_132 2 1 (bs_at BX4_ahead_38 3 rfl) rfl
theorem dX4_ahead_46 : decode cX4_ahead 46 = .ok (.goto (-44), 3) := dk_167 255 212 (bs_at BX4_ahead_38 4 rfl) rfl
theorem dX4_ahead_49 : decode cX4_ahead 49 = .ok (.iconst 0, 1) := dk_3 (bs_at BX4_ahead_38 5 rfl)
theorem dX4_ahead_50 : decode cX4_ahead 50 = .ok (.ireturn, 1) := dk_172 (bs_at BX4_ahead_38 6 rfl)
theorem BX4_retune_0 : bsegs (ByteArray.data cX4_retune |>.toList.drop 0) 0 [(0, [16, 56]), (2, [62]), (3, [4]), (4, [54, 4]), (6, [21, 4]), (8, [16, 127]), (10, [163, 0, 83]), (13, [21, 4]), (15, [4]), (16, [120]), (17, [21, 4]), (19, [16, 6]), (21, [122]), (22, [128]), (23, [16, 127]), (25, [126]), (26, [54, 5]), (28, [21, 4]), (30, [21, 5]), (32, [126]), (33, [154, 0, 54]), (36, [42]), (37, [43]), (38, [28])] = true := by decide +kernel
theorem dX4_retune_0 : decode cX4_retune 0 = .ok (.bipush 56, 2) := dk_16 56 (bs_at BX4_retune_0 0 rfl) rfl
theorem dX4_retune_2 : decode cX4_retune 2 = .ok (.istore_n 3, 1) := dk_62 (bs_at BX4_retune_0 1 rfl)
theorem dX4_retune_3 : decode cX4_retune 3 = .ok (.iconst 1, 1) := dk_4 (bs_at BX4_retune_0 2 rfl)
theorem dX4_retune_4 : decode cX4_retune 4 = .ok (.istore 4, 2) := dk_54 4 (bs_at BX4_retune_0 3 rfl)
theorem dX4_retune_6 : decode cX4_retune 6 = .ok (.iload 4, 2) := dk_21 4 (bs_at BX4_retune_0 4 rfl)
theorem dX4_retune_8 : decode cX4_retune 8 = .ok (.bipush 127, 2) := dk_16 127 (bs_at BX4_retune_0 5 rfl) rfl
theorem dX4_retune_10 : decode cX4_retune 10 = .ok (.if_icmp .gt 83, 3) := dk_163 0 83 (bs_at BX4_retune_0 6 rfl) rfl
theorem dX4_retune_13 : decode cX4_retune 13 = .ok (.iload 4, 2) := dk_21 4 (bs_at BX4_retune_0 7 rfl)
theorem dX4_retune_15 : decode cX4_retune 15 = .ok (.iconst 1, 1) := dk_4 (bs_at BX4_retune_0 8 rfl)
theorem dX4_retune_16 : decode cX4_retune 16 = .ok (.ishl, 1) := dk_120 (bs_at BX4_retune_0 9 rfl)
theorem dX4_retune_17 : decode cX4_retune 17 = .ok (.iload 4, 2) := dk_21 4 (bs_at BX4_retune_0 10 rfl)
theorem dX4_retune_19 : decode cX4_retune 19 = .ok (.bipush 6, 2) := dk_16 6 (bs_at BX4_retune_0 11 rfl) rfl
theorem dX4_retune_21 : decode cX4_retune 21 = .ok (.ishr, 1) := dk_122 (bs_at BX4_retune_0 12 rfl)
theorem dX4_retune_22 : decode cX4_retune 22 = .ok (.ior, 1) := dk_128 (bs_at BX4_retune_0 13 rfl)
theorem dX4_retune_23 : decode cX4_retune 23 = .ok (.bipush 127, 2) := dk_16 127 (bs_at BX4_retune_0 14 rfl) rfl
theorem dX4_retune_25 : decode cX4_retune 25 = .ok (.iand, 1) := dk_126 (bs_at BX4_retune_0 15 rfl)
theorem dX4_retune_26 : decode cX4_retune 26 = .ok (.istore 5, 2) := dk_54 5 (bs_at BX4_retune_0 16 rfl)
theorem dX4_retune_28 : decode cX4_retune 28 = .ok (.iload 4, 2) := dk_21 4 (bs_at BX4_retune_0 17 rfl)
theorem dX4_retune_30 : decode cX4_retune 30 = .ok (.iload 5, 2) := dk_21 5 (bs_at BX4_retune_0 18 rfl)
theorem dX4_retune_32 : decode cX4_retune 32 = .ok (.iand, 1) := dk_126 (bs_at BX4_retune_0 19 rfl)
theorem dX4_retune_33 : decode cX4_retune 33 = .ok (.ifCond .ne 54, 3) := dk_154 0 54 (bs_at BX4_retune_0 20 rfl) rfl
theorem dX4_retune_36 : decode cX4_retune 36 = .ok (.aload_n 0, 1) := dk_42 (bs_at BX4_retune_0 21 rfl)
theorem dX4_retune_37 : decode cX4_retune 37 = .ok (.aload_n 1, 1) := dk_43 (bs_at BX4_retune_0 22 rfl)
theorem dX4_retune_38 : decode cX4_retune 38 = .ok (.iload_n 2, 1) := dk_28 (bs_at BX4_retune_0 23 rfl)
theorem BX4_retune_39 : bsegs (ByteArray.data cX4_retune |>.toList.drop 39) 39 [(39, [21, 4]), (41, [182, 0, 55]), (44, [54, 6]), (46, [21, 6]), (48, [29]), (49, [161, 0, 20]), (52, [21, 6]), (54, [29]), (55, [160, 0, 32]), (58, [42]), (59, [43]), (60, [180, 0, 27]), (63, [182, 0, 58]), (66, [153, 0, 21]), (69, [21, 6]), (71, [62]), (72, [42]), (73, [180, 0, 21]), (76, [3]), (77, [42]), (78, [180, 0, 18]), (81, [3]), (82, [16, 8]), (84, [184, 0, 62])] = true := by decide +kernel
theorem dX4_retune_39 : decode cX4_retune 39 = .ok (.iload 4, 2) := dk_21 4 (bs_at BX4_retune_39 0 rfl)
theorem dX4_retune_41 : decode cX4_retune 41 = .ok (.invokevirtual 55, 3) := dk_182 0 55 (bs_at BX4_retune_39 1 rfl) rfl
theorem dX4_retune_44 : decode cX4_retune 44 = .ok (.istore 6, 2) := dk_54 6 (bs_at BX4_retune_39 2 rfl)
theorem dX4_retune_46 : decode cX4_retune 46 = .ok (.iload 6, 2) := dk_21 6 (bs_at BX4_retune_39 3 rfl)
theorem dX4_retune_48 : decode cX4_retune 48 = .ok (.iload_n 3, 1) := dk_29 (bs_at BX4_retune_39 4 rfl)
theorem dX4_retune_49 : decode cX4_retune 49 = .ok (.if_icmp .lt 20, 3) := dk_161 0 20 (bs_at BX4_retune_39 5 rfl) rfl
theorem dX4_retune_52 : decode cX4_retune 52 = .ok (.iload 6, 2) := dk_21 6 (bs_at BX4_retune_39 6 rfl)
theorem dX4_retune_54 : decode cX4_retune 54 = .ok (.iload_n 3, 1) := dk_29 (bs_at BX4_retune_39 7 rfl)
theorem dX4_retune_55 : decode cX4_retune 55 = .ok (.if_icmp .ne 32, 3) := dk_160 0 32 (bs_at BX4_retune_39 8 rfl) rfl
theorem dX4_retune_58 : decode cX4_retune 58 = .ok (.aload_n 0, 1) := dk_42 (bs_at BX4_retune_39 9 rfl)
theorem dX4_retune_59 : decode cX4_retune 59 = .ok (.aload_n 1, 1) := dk_43 (bs_at BX4_retune_39 10 rfl)
theorem dX4_retune_60 : decode cX4_retune 60 = .ok (.getfield 27, 3) := dk_180 0 27 (bs_at BX4_retune_39 11 rfl) rfl
theorem dX4_retune_63 : decode cX4_retune 63 = .ok (.invokevirtual 58, 3) := dk_182 0 58 (bs_at BX4_retune_39 12 rfl) rfl
theorem dX4_retune_66 : decode cX4_retune 66 = .ok (.ifCond .eq 21, 3) := dk_153 0 21 (bs_at BX4_retune_39 13 rfl) rfl
theorem dX4_retune_69 : decode cX4_retune 69 = .ok (.iload 6, 2) := dk_21 6 (bs_at BX4_retune_39 14 rfl)
theorem dX4_retune_71 : decode cX4_retune 71 = .ok (.istore_n 3, 1) := dk_62 (bs_at BX4_retune_39 15 rfl)
theorem dX4_retune_72 : decode cX4_retune 72 = .ok (.aload_n 0, 1) := dk_42 (bs_at BX4_retune_39 16 rfl)
theorem dX4_retune_73 : decode cX4_retune 73 = .ok (.getfield 21, 3) := dk_180 0 21 (bs_at BX4_retune_39 17 rfl) rfl
theorem dX4_retune_76 : decode cX4_retune 76 = .ok (.iconst 0, 1) := dk_3 (bs_at BX4_retune_39 18 rfl)
theorem dX4_retune_77 : decode cX4_retune 77 = .ok (.aload_n 0, 1) := dk_42 (bs_at BX4_retune_39 19 rfl)
theorem dX4_retune_78 : decode cX4_retune 78 = .ok (.getfield 18, 3) := dk_180 0 18 (bs_at BX4_retune_39 20 rfl) rfl
theorem dX4_retune_81 : decode cX4_retune 81 = .ok (.iconst 0, 1) := dk_3 (bs_at BX4_retune_39 21 rfl)
theorem dX4_retune_82 : decode cX4_retune 82 = .ok (.bipush 8, 2) := dk_16 8 (bs_at BX4_retune_39 22 rfl) rfl
theorem dX4_retune_84 : decode cX4_retune 84 = .ok (.invokestatic 62, 3) := dk_184 0 62 (bs_at BX4_retune_39 23 rfl) rfl
theorem BX4_retune_87 : bsegs (ByteArray.data cX4_retune |>.toList.drop 87) 87 [(87, [132, 4, 1]), (90, [167, 255, 172]), (93, [29]), (94, [172])] = true := by decide +kernel
theorem dX4_retune_87 : decode cX4_retune 87 = .ok (.iinc 4 1, 3) := dk_132 4 1 (bs_at BX4_retune_87 0 rfl) rfl
theorem dX4_retune_90 : decode cX4_retune 90 = .ok (.goto (-84), 3) := dk_167 255 172 (bs_at BX4_retune_87 1 rfl) rfl
theorem dX4_retune_93 : decode cX4_retune 93 = .ok (.iload_n 3, 1) := dk_29 (bs_at BX4_retune_87 2 rfl)
theorem dX4_retune_94 : decode cX4_retune 94 = .ok (.ireturn, 1) := dk_172 (bs_at BX4_retune_87 3 rfl)
theorem BX4_tunedNote_0 : bsegs (ByteArray.data cX4_tunedNote |>.toList.drop 0) 0 [(0, [27]), (1, [3]), (2, [16, 7]), (4, [184, 0, 41]), (7, [153, 0, 12]), (10, [42]), (11, [180, 0, 18]), (14, [27]), (15, [46]), (16, [167, 0, 4]), (19, [2]), (20, [172])] = true := by decide +kernel
theorem dX4_tunedNote_0 : decode cX4_tunedNote 0 = .ok (.iload_n 1, 1) := dk_27 (bs_at BX4_tunedNote_0 0 rfl)
theorem dX4_tunedNote_1 : decode cX4_tunedNote 1 = .ok (.iconst 0, 1) := dk_3 (bs_at BX4_tunedNote_0 1 rfl)
theorem dX4_tunedNote_2 : decode cX4_tunedNote 2 = .ok (.bipush 7, 2) := dk_16 7 (bs_at BX4_tunedNote_0 2 rfl) rfl
theorem dX4_tunedNote_4 : decode cX4_tunedNote 4 = .ok (.invokestatic 41, 3) := dk_184 0 41 (bs_at BX4_tunedNote_0 3 rfl) rfl
theorem dX4_tunedNote_7 : decode cX4_tunedNote 7 = .ok (.ifCond .eq 12, 3) := dk_153 0 12 (bs_at BX4_tunedNote_0 4 rfl) rfl
theorem dX4_tunedNote_10 : decode cX4_tunedNote 10 = .ok (.aload_n 0, 1) := dk_42 (bs_at BX4_tunedNote_0 5 rfl)
theorem dX4_tunedNote_11 : decode cX4_tunedNote 11 = .ok (.getfield 18, 3) := dk_180 0 18 (bs_at BX4_tunedNote_0 6 rfl) rfl
theorem dX4_tunedNote_14 : decode cX4_tunedNote 14 = .ok (.iload_n 1, 1) := dk_27 (bs_at BX4_tunedNote_0 7 rfl)
theorem dX4_tunedNote_15 : decode cX4_tunedNote 15 = .ok (.iaload, 1) := dk_46 (bs_at BX4_tunedNote_0 8 rfl)
theorem dX4_tunedNote_16 : decode cX4_tunedNote 16 = .ok (.goto 4, 3) := dk_167 0 4 (bs_at BX4_tunedNote_0 9 rfl) rfl
theorem dX4_tunedNote_19 : decode cX4_tunedNote 19 = .ok (.iconst (-1), 1) := dk_2 (bs_at BX4_tunedNote_0 10 rfl)
theorem dX4_tunedNote_20 : decode cX4_tunedNote 20 = .ok (.ireturn, 1) := dk_172 (bs_at BX4_tunedNote_0 11 rfl)
theorem ggX4_fill_X9_fact : GoodIn wsX4_fill wsX9_fact := gi_ch ch_X4_fill ch_X9_fact (by decide +kernel)
set_option maxRecDepth 20000 in
theorem gX4_fill_X9_fact_n45 : GoodIn wsX4_fill (wsX9_fact) := ggX4_fill_X9_fact
theorem ggX4_fill_X4_nearest : GoodIn wsX4_fill wsX4_nearest := gi_ch ch_X4_fill ch_X4_nearest (by decide +kernel)
theorem gX4_fill_X4_nearest : GoodIn wsX4_fill (va_wsS RX4 68 yX4_nearest wsX4_nearest) := gi_ch ch_X4_fill (ch_s [715, 716, 155] rfl ch_X4_nearest) (by decide +kernel)
theorem ggX4_fill_X4_apart : GoodIn wsX4_fill wsX4_apart := gi_ch ch_X4_fill ch_X4_apart (by decide +kernel)
theorem gX4_fill_X4_apart : GoodIn wsX4_fill (va_wsS RX4 71 yX4_apart wsX4_apart) := gi_ch ch_X4_fill (ch_s [718, 719, 155] rfl ch_X4_apart) (by decide +kernel)
theorem ggX4_retune_X4_fill : GoodIn wsX4_retune wsX4_fill := gi_ch ch_X4_retune ch_X4_fill (by decide +kernel)
theorem gX4_retune_X4_fill : GoodIn wsX4_retune (wsV RX4 55 RX4 yX4_fill wsX4_fill) := gi_ch ch_X4_retune (ch_v [712, 713, 63, 155] rfl ch_X4_fill) (by decide +kernel)
theorem ggX4_retune_X4_ahead : GoodIn wsX4_retune wsX4_ahead := gi_ch ch_X4_retune ch_X4_ahead (by decide +kernel)
theorem gX4_retune_X4_ahead : GoodIn wsX4_retune (wsV RX4 58 RX4 yX4_ahead wsX4_ahead) := gi_ch ch_X4_retune (ch_v [722, 723, 64, 155] rfl ch_X4_ahead) (by decide +kernel)
theorem ggX4_tunedNote_X11_within : GoodIn wsX4_tunedNote wsX11_within := gi_ch ch_X4_tunedNote ch_X11_within (by decide +kernel)
set_option maxRecDepth 20000 in
theorem gX4_tunedNote_X11_within_n41 : GoodIn wsX4_tunedNote (wsX11_within) := ggX4_tunedNote_X11_within
set_option maxRecDepth 100000 in
noncomputable def E_w_fill_j80 (v_728 : Int32) (rec_804 : Int32 → Int32 → (Nat → Int32) → (Int32 × (Nat → Int32))) (v_824 : Int32) (f_825 : Nat → Int32) : Int32 × (Nat → Int32) :=
  Lt (v_728 + Int32.ofInt 1 : Int32) (fun x_828 => rec_804 x_828 v_824 f_825)
set_option maxRecDepth 100000 in
noncomputable def E_w_fill_l6 (x : Int32) (y : Int32) (n : Int32) (f1 : Nat → Int32) (rec_804 : Int32 → Int32 → (Nat → Int32) → (Int32 × (Nat → Int32))) (v_728 : Int32) (v_729 : Int32) (f_730 : Nat → Int32) : Int32 × (Nat → Int32) :=
  if n ≤ v_728 then (((v_729, f_730) : Int32 × (Nat → Int32))) else (Lt (E_w_fact v_728 0 f1) (fun r_807 => Lt (upd f_730 (v_728 : Int32).toNatClampNeg r_807 : Nat → Int32) (fun f_809 => Lt (E_w_fact v_728 1 f1) (fun r_810 => if r_810 = x then (Lt (E_w_fact v_728 0 f1) (fun r_830 => Lt (E_w_nearest r_830 y) (fun r_832 => Lt (upd f_809 (v_728 : Int32).toNatClampNeg r_832 : Nat → Int32) (fun f_834 => Lt (f_834 (v_728 : Int32).toNatClampNeg : Int32) (fun x_835 => Lt (E_w_fact v_728 0 f1) (fun r_836 => Lt (E_w_apart x_835 r_836) (fun r_838 => Lt (v_729 + r_838 : Int32) (fun x_840 => E_w_fill_j80 v_728 rec_804 x_840 f_834)))))))) else (E_w_fill_j80 v_728 rec_804 v_729 f_809)))))
set_option maxRecDepth 100000 in
noncomputable def E_w_fill (x : Int32) (y : Int32) (fr : Nat → Int32) (n : Int32) (ho : Int32) (f1 : Nat → Int32) (f2 : Nat → Int32) : Int32 × (Nat → Int32) :=
  Lp (α := Int32 → Int32 → (Nat → Int32) → (Int32 × (Nat → Int32))) (E_w_fill_l6 x y n f1) (fun _ _ _ => ((0, fun _ => 0) : Int32 × (Nat → Int32))) ((9 - (0 : Int32).toInt : Int).toNat + 1) 0 0 fr
set_option maxHeartbeats 4000000 in
set_option maxRecDepth 100000 in
theorem w_fill (l : Launch) (D : va_G) (K : Nat → ClassId) (p0 : Nat) (t0 : Nat) (x : Int32) (y : Int32) (p1 : Nat) (p2 : Nat) (p3 : Nat) (p4 : Nat) (p5 : Nat) (fr : Nat → Int32) (t1 : Nat) (k_1 : Value) (t2 : Nat) (k_3 : Value) (n : Int32) (k_5 : Value) (k_6 : Value) (k_7 : Value) (k_8 : Value) (ho : Int32) (f1 : Nat → Int32) (f2 : Nat → Int32) (sz : Nat) (zn : 0 ≤ n.toInt ∧ n.toInt ≤ 8) : Met l yX4_fill wsX4_fill ({ frames := 3, cells := 0, slots := 0, locals := 59 }) (va_Pc [.ref p0, .ref t0, .int x, .int y] (Pre D K [(p0, .inr (4, [.ref p1, .ref p2, .ref p3, .ref p4, .ref p5])), (p4, .inl (K 0, 8, .inl fr)), (t0, .inr (9, [.ref t1, k_1, .ref t2, k_3, .int n, k_5, k_6, k_7, k_8, .int ho])), (t1, .inl (K 0, 56, .inl f1)), (t2, .inl (K 0, 6, .inl f2))] sz)) (va_Qi (S := Su) (fun (r : Int32) (u : Su) => ((r, (u.2.1 0)) = E_w_fill x y fr n ho f1 f2) ∧ True) (fun u t => Wd D (va_A [(p0, .inr (4, [.ref p1, .ref p2, .ref p3, .ref p4, .ref p5])), (p4, .inl (K 0, 8, .inl fr)), (t0, .inr (9, [.ref t1, k_1, .ref t2, k_3, .int n, k_5, k_6, k_7, k_8, .int ho])), (t1, .inl (K 0, 56, .inl f1)), (t2, .inl (K 0, 6, .inl f2))] sz) ((fun u => [(p0, .inr (4, [.ref p1, .ref p2, .ref p3, .ref p4, .ref p5])), (p4, .inl (K 0, 8, .inl (u.2.1 0))), (t0, .inr (9, [.ref t1, k_1, .ref t2, k_3, .int n, k_5, k_6, k_7, k_8, .int ho])), (t1, .inl (K 0, 56, .inl f1)), (t2, .inl (K 0, 6, .inl f2))]) u) t) (va_A [(p0, .inr (4, [.ref p1, .ref p2, .ref p3, .ref p4, .ref p5])), (p4, .inl (K 0, 8, .inl fr)), (t0, .inr (9, [.ref t1, k_1, .ref t2, k_3, .int n, k_5, k_6, k_7, k_8, .int ho])), (t1, .inl (K 0, 56, .inl f1)), (t2, .inl (K 0, 6, .inl f2))] sz)) 0 0 (va_A [(p0, .inr (4, [.ref p1, .ref p2, .ref p3, .ref p4, .ref p5])), (p4, .inl (K 0, 8, .inl fr)), (t0, .inr (9, [.ref t1, k_1, .ref t2, k_3, .int n, k_5, k_6, k_7, k_8, .int ho])), (t1, .inl (K 0, 56, .inl f1)), (t2, .inl (K 0, 6, .inl f2))] sz) := by
  refine Met.ofW (cc := cX4_fill) (maxL := 6) (ret := (some .int)) (by decide +kernel) rfl ?_
  intro p e s m args below meth c s₁ B hml hv
  obtain ⟨rfl, hsz, hP, hK, hD0, hN⟩ := hv
  have hx := B.exec
  have hb := B.bytes
  have hr := B.returns
  have hts := atoms_spec (ws := wsX4_fill) B.pre
  have hown : s.vm.findClass RX4 = some m.cls := findClass_of_methodNamed B.named
  have hlocks := B.notSynchronized
  subst hsz
  have hD := hD0.self (sz := s.heap.size)
  generalize hAe : va_A [(p0, .inr (4, [.ref p1, .ref p2, .ref p3, .ref p4, .ref p5])), (p4, .inl (K 0, 8, .inl fr)), (t0, .inr (9, [.ref t1, k_1, .ref t2, k_3, .int n, k_5, k_6, k_7, k_8, .int ho])), (t1, .inl (K 0, 56, .inl f1)), (t2, .inl (K 0, 6, .inl f2))] s.heap.size = A at hD ⊢
  have hA : ∀ q : Nat, s.heap.size ≤ q → A q := fun q h => by rw [← hAe]; exact Or.inr h
  clear hAe
  have hS : va_S A s.heap s.heap [] := va_S.rf
  replace hP : va_P D vwCl [(p0, .inr (4, [.ref p1, .ref p2, .ref p3, .ref p4, .ref p5])), (p4, .inl (K 0, 8, .inl fr)), (t0, .inr (9, [.ref t1, k_1, .ref t2, k_3, .int n, k_5, k_6, k_7, k_8, .int ho])), (t1, .inl (K 0, 56, .inl f1)), (t2, .inl (K 0, 6, .inl f2))] s.heap := hP
  have hl := lv_entry [.ref p0, .ref t0, .int x, .int y] (n := 6) (Nat.le_of_ble_eq_true rfl)
  rw [lg_entry_eq]
  generalize (lg_sl [.ref p0, .ref t0, .int x, .int y] ++ List.replicate (6 - (lg_sl [.ref p0, .ref t0, .int x, .int y]).length) Slot.unset).toArray = ls at hl ⊢
  have hl : lv_has ls 6 [(0, .ref p0), (1, .ref t0), (2, .int x), (3, .int y)] := hl
  have hw4 : ∀ w ∈ wsX40, w ∈ wsX4_fill := fun w h => (List.mem_cons_of_mem _ (List.mem_append_right _ h))
  have hw9 : ∀ w ∈ wsX90, w ∈ wsX4_fill := fun w h => (List.mem_cons_of_mem _ (List.mem_append_left _ (List.mem_append_right _ h)))
  generalize hQ : MQ below _ _ s _ _ _ = Q
  have hE := E_w_fill.eq_def x y fr n ho f1 f2
  refine lv_iconst (v := 0) hx hb dX4_fill_0 (by decide +kernel) ?_
  refine lv_istore (lv' := [(4, .int 0), (0, .ref p0), (1, .ref t0), (2, .int x), (3, .int y)]) hx hb dX4_fill_1 hl (by decide +kernel) rfl (fun ls hl => ?_)
  refine lv_iconst (v := 0) hx hb dX4_fill_3 (by decide +kernel) ?_
  refine lv_istore (lv' := [(5, .int 0), (4, .int 0), (0, .ref p0), (1, .ref t0), (2, .int x), (3, .int y)]) hx hb dX4_fill_4 hl (by decide +kernel) rfl (fun ls hl => ?_)
  have lp_804 : ∀ (nn_ : Nat) (v_728 : Int32) (v_729 : Int32) (f_730 : Nat → Int32) (hv_728 : 0 ≤ v_728.toInt ∧ v_728.toInt ≤ 8) (hn : (9 - v_728.toInt : Int).toNat < nn_) (hE : E_w_fill x y fr n ho f1 f2 = Lp (α := Int32 → Int32 → (Nat → Int32) → (Int32 × (Nat → Int32))) (E_w_fill_l6 x y n f1) (fun _ _ _ => ((0, fun _ => 0) : Int32 × (Nat → Int32))) nn_ v_728 v_729 f_730) (H : Heap) (locs : List Loc) (hP : va_P D vwCl [(p0, .inr (4, [.ref p1, .ref p2, .ref p3, .ref p4, .ref p5])), (p4, .inl (K 0, 8, .inl f_730)), (t0, .inr (9, [.ref t1, k_1, .ref t2, k_3, .int n, k_5, k_6, k_7, k_8, .int ho])), (t1, .inl (K 0, 56, .inl f1)), (t2, .inl (K 0, 6, .inl f2))] H) (hD : va_D A [(p0, .inr (4, [.ref p1, .ref p2, .ref p3, .ref p4, .ref p5])), (p4, .inl (K 0, 8, .inl f_730)), (t0, .inr (9, [.ref t1, k_1, .ref t2, k_3, .int n, k_5, k_6, k_7, k_8, .int ho])), (t1, .inl (K 0, 56, .inl f1)), (t2, .inl (K 0, 6, .inl f2))]) (hS : va_S A s.heap H locs) (ls : Array Slot) (hl : lv_has ls 6 [(5, .int v_728), (4, .int v_729), (0, .ref p0), (1, .ref t0), (2, .int x), (3, .int y)]), W p l e ({ frames := 3, cells := 0, slots := 0, locals := 59 }) s m (([.ref p0, .ref t0, .int x, .int y] : List Value).toArray) below meth c H locs 0 0 Q (F0 m 6 ls []) := by
    clear hE hP hD hS hl
    intro nn_
    induction nn_ with
    | zero =>
      intro v_728 v_729 f_730 hv_728 hn hE H locs hP hD hS ls hl
      exact absurd hn (Nat.not_lt_zero _)
    | succ nn_ ih_805 =>
      intro v_728 v_729 f_730 hv_728 hn hE H locs hP hD hS ls hl
      replace hE : E_w_fill x y fr n ho f1 f2 = E_w_fill_l6 x y n f1 (Lp (α := Int32 → Int32 → (Nat → Int32) → (Int32 × (Nat → Int32))) (E_w_fill_l6 x y n f1) (fun _ _ _ => ((0, fun _ => 0) : Int32 × (Nat → Int32))) nn_) v_728 v_729 f_730 := hE
      obtain ⟨rec_804, hrec_804⟩ : ∃ z9, z9 = Lp (α := Int32 → Int32 → (Nat → Int32) → (Int32 × (Nat → Int32))) (E_w_fill_l6 x y n f1) (fun _ _ _ => ((0, fun _ => 0) : Int32 × (Nat → Int32))) nn_ := ⟨_, rfl⟩
      rw [← hrec_804] at hE
      replace hE := hE.trans (E_w_fill_l6.eq_def _ _ _ _ _ _ _ _)
      refine lv_iload hx hb dX4_fill_6 (lv_at hl 0 rfl) ?_
      refine lv_aload_n hx hb dX4_fill_8 rfl (lv_at hl 3 rfl) ?_
      refine va_getN (ci := 9) (v := .int n) (C := RX9) (T := TX9) (N := 10) hx hb hts hw9 hown hK hP 2 rfl rfl 4 (by decide +kernel) (nst_use hN 106 rfl) (fun _ h9 => h9) rfl dX4_fill_9 ?_
      refine lv_icmp_ge (tgt := 86) hx hb dX4_fill_12 (by decide +kernel) (fun c_806 => ?_) (fun c_806 => ?_)
      · have c_806i := i_le (x := n.toInt) (y := v_728.toInt) rfl rfl c_806
        replace hE := hE.trans (if_pos c_806)
        refine lv_iload hx hb dX4_fill_86 (lv_at hl 1 rfl) ?_
        rw [← hQ]
        have hP9 := hP.sub (ws' := [(p0, .inr (4, [.ref p1, .ref p2, .ref p3, .ref p4, .ref p5])), (p4, .inl (K 0, 8, .inl f_730)), (t0, .inr (9, [.ref t1, k_1, .ref t2, k_3, .int n, k_5, k_6, k_7, k_8, .int ho])), (t1, .inl (K 0, 56, .inl f1)), (t2, .inl (K 0, 6, .inl f2))]) [0, 1, 2, 3, 4] rfl
        have hD9 := hD.sub (ws' := [(p0, .inr (4, [.ref p1, .ref p2, .ref p3, .ref p4, .ref p5])), (p4, .inl (K 0, 8, .inl f_730)), (t0, .inr (9, [.ref t1, k_1, .ref t2, k_3, .int n, k_5, k_6, k_7, k_8, .int ho])), (t1, .inl (K 0, 56, .inl f1)), (t2, .inl (K 0, 6, .inl f2))]) [0, 1, 2, 3, 4] (by decide +kernel) rfl
        exact W.iret (v := v_729) hx hb hr (fun t ht hW => ⟨⟨v_729, ((fun _ => 0, fun i => match i with | _ => f_730, fun _ => fun _ => 0, fun _ => 0, fun _ => 0, fun _ => fun _ => none) : Su), rfl, ⟨hE.symm, trivial⟩, (⟨by rw [ht]; exact hP9, hD9⟩ : Wd D A _ t)⟩, hS.F ht⟩) hS.2.2 dX4_fill_88
      · have c_806i := i_nle (x := n.toInt) (y := v_728.toInt) rfl rfl c_806
        replace hE := hE.trans (if_neg c_806)
        refine lv_aload_n hx hb dX4_fill_15 rfl (lv_at hl 2 rfl) ?_
        refine va_get (ci := 4) (v := .ref p4) (C := RX4) (T := TX4) (N := 5) hx hb hts hw4 hown hK hP 0 rfl rfl 3 (by decide +kernel) (hts _ mm_X4_fill_327) (fun _ h9 => h9) rfl dX4_fill_16 ?_
        refine lv_iload hx hb dX4_fill_19 (lv_at hl 0 rfl) ?_
        refine lv_aload_n hx hb dX4_fill_21 rfl (lv_at hl 3 rfl) ?_
        refine lv_iload hx hb dX4_fill_22 (lv_at hl 0 rfl) ?_
        refine lv_iconst (v := 0) hx hb dX4_fill_24 (by decide +kernel) ?_
        refine pci (va_runVN (As := [.int v_728, .int 0]) (rest := [.int v_728, .ref p4]) ⟨hx, hb, hml, hown, hts⟩ (w_fact l D K t0 v_728 0 t1 k_1 (.ref t2) k_3 (.int n) k_5 k_6 k_7 k_8 (.int ho) f1 H.size) ⟨va_cnB 2 hts gX4_fill_X9_fact_n45 rfl rfl rfl (nst_at hN 84 rfl) (hts _ mm_X4_fill_145) (by decide +kernel) ⟨Nat.le_of_ble_eq_true rfl, Nat.le_of_ble_eq_true rfl⟩, (hts _ mm_X4_fill_381), (hts _ mm_X4_fill_2)⟩ (mkV hK hN (hP.sub [2, 3] rfl) (hD.sub [2, 3] (by decide +kernel) rfl) (ci := 9) (q0 := 0) rfl rfl) rfl rfl hl.1 rfl (lv_room (Nat.le_of_ble_eq_true rfl)) dX4_fill_25 ⟨Nat.le_of_ble_eq_true rfl, Nat.le_of_ble_eq_true rfl⟩) (fun r_807 hw => ?_)
        obtain ⟨k_808, -⟩ := hw
        replace hE := hE.trans (Lt_in k_808)
        refine va_iast hx hb hK hP hD hS 1 0 rfl rfl (i_in rfl (by omega)) dX4_fill_28 (fun H locs hP0 hD0 hS0 => ?_)
        clear hP hD hS
        have hP := hP0
        have hD := hD0
        have hS := hS0
        clear hP0 hD0 hS0
        generalize hf_809 : (upd f_730 (v_728 : Int32).toNatClampNeg r_807) = f_809 at hP hD
        replace hE := hE.trans (Lt_in hf_809.symm)
        replace hP : va_P D vwCl [(p0, .inr (4, [.ref p1, .ref p2, .ref p3, .ref p4, .ref p5])), (p4, .inl (K 0, 8, .inl f_809)), (t0, .inr (9, [.ref t1, k_1, .ref t2, k_3, .int n, k_5, k_6, k_7, k_8, .int ho])), (t1, .inl (K 0, 56, .inl f1)), (t2, .inl (K 0, 6, .inl f2))] H := hP
        replace hD : va_D A [(p0, .inr (4, [.ref p1, .ref p2, .ref p3, .ref p4, .ref p5])), (p4, .inl (K 0, 8, .inl f_809)), (t0, .inr (9, [.ref t1, k_1, .ref t2, k_3, .int n, k_5, k_6, k_7, k_8, .int ho])), (t1, .inl (K 0, 56, .inl f1)), (t2, .inl (K 0, 6, .inl f2))] := hD
        refine lv_aload_n hx hb dX4_fill_29 rfl (lv_at hl 3 rfl) ?_
        refine lv_iload hx hb dX4_fill_30 (lv_at hl 0 rfl) ?_
        refine lv_iconst (v := 1) hx hb dX4_fill_32 (by decide +kernel) ?_
        refine pci (va_runVN (As := [.int v_728, .int 1]) (rest := []) ⟨hx, hb, hml, hown, hts⟩ (w_fact l D K t0 v_728 1 t1 k_1 (.ref t2) k_3 (.int n) k_5 k_6 k_7 k_8 (.int ho) f1 H.size) ⟨va_cnB 2 hts gX4_fill_X9_fact_n45 rfl rfl rfl (nst_at hN 84 rfl) (hts _ mm_X4_fill_145) (by decide +kernel) ⟨Nat.le_of_ble_eq_true rfl, Nat.le_of_ble_eq_true rfl⟩, (hts _ mm_X4_fill_381), (hts _ mm_X4_fill_2)⟩ (mkV hK hN (hP.sub [2, 3] rfl) (hD.sub [2, 3] (by decide +kernel) rfl) (ci := 9) (q0 := 0) rfl rfl) rfl rfl hl.1 rfl (lv_room (Nat.le_of_ble_eq_true rfl)) dX4_fill_33 ⟨Nat.le_of_ble_eq_true rfl, Nat.le_of_ble_eq_true rfl⟩) (fun r_810 hw => ?_)
        obtain ⟨k_811, -⟩ := hw
        replace hE := hE.trans (Lt_in k_811)
        refine lv_iload_n hx hb dX4_fill_36 rfl (lv_at hl 4 rfl) ?_
        have j_827 : ∀ (v_824 : Int32) (f_825 : Nat → Int32) (hE : E_w_fill x y fr n ho f1 f2 = E_w_fill_j80 v_728 rec_804 v_824 f_825) (H : Heap) (locs : List Loc) (hP : va_P D vwCl [(p0, .inr (4, [.ref p1, .ref p2, .ref p3, .ref p4, .ref p5])), (p4, .inl (K 0, 8, .inl f_825)), (t0, .inr (9, [.ref t1, k_1, .ref t2, k_3, .int n, k_5, k_6, k_7, k_8, .int ho])), (t1, .inl (K 0, 56, .inl f1)), (t2, .inl (K 0, 6, .inl f2))] H) (hD : va_D A [(p0, .inr (4, [.ref p1, .ref p2, .ref p3, .ref p4, .ref p5])), (p4, .inl (K 0, 8, .inl f_825)), (t0, .inr (9, [.ref t1, k_1, .ref t2, k_3, .int n, k_5, k_6, k_7, k_8, .int ho])), (t1, .inl (K 0, 56, .inl f1)), (t2, .inl (K 0, 6, .inl f2))]) (hS : va_S A s.heap H locs) (ls : Array Slot) (hl : lv_has ls 6 [(5, .int v_728), (4, .int v_824), (0, .ref p0), (1, .ref t0), (2, .int x), (3, .int y)]), W p l e ({ frames := 3, cells := 0, slots := 0, locals := 59 }) s m (([.ref p0, .ref t0, .int x, .int y] : List Value).toArray) below meth c H locs 0 0 Q (F0 m 80 ls []) := by
          clear hE hP hD hS hl
          intro v_824 f_825 hE H locs hP hD hS ls hl
          replace hE := hE.trans (E_w_fill_j80.eq_def _ _ _ _)
          obtain ⟨x_828, ex_828⟩ : ∃ y : Int32, y = v_728 + Int32.ofInt 1 := ⟨_, rfl⟩
          replace hE := hE.trans (Lt_in ex_828)
          have hx_828 : x_828.toInt = (v_728.toInt + 1) := by rw [ex_828]; exact i_add rfl (show (Int32.ofInt 1).toInt = 1 from rfl) (by omega)
          refine lv_iinc (v := x_828) (lv' := [(5, .int x_828), (4, .int v_824), (0, .ref p0), (1, .ref t0), (2, .int x), (3, .int y)]) hx hb dX4_fill_80 hl (k := 0) rfl (by rw [ex_828]) (by decide +kernel) rfl (fun ls hl => ?_)
          refine lv_goto (tgt := 6) hx hb dX4_fill_83 (by decide +kernel) ?_
          exact ih_805 x_828 v_824 f_825 (by rw [hx_828]; omega) (by omega) (hE.trans (by rw [hrec_804])) _ _ hP hD hS ls (lv_sub hl [0, 1, 2, 3, 4, 5] rfl)
        refine lv_icmp_ne (tgt := 80) hx hb dX4_fill_37 (by decide +kernel) (fun c_829 => ?_) (fun c_829 => ?_)
        · have c_829i := i_ne (x := r_810.toInt) (y := x.toInt) rfl rfl c_829
          replace hE := hE.trans (if_neg c_829)
          exact j_827 v_729 f_809  hE _ _ hP hD hS ls (lv_sub hl [0, 1, 2, 3, 4, 5] rfl)
        · have c_829i := i_eq (x := r_810.toInt) (y := x.toInt) rfl rfl c_829
          replace hE := hE.trans (if_pos c_829)
          refine lv_aload_n hx hb dX4_fill_40 rfl (lv_at hl 2 rfl) ?_
          refine va_get (ci := 4) (v := .ref p4) (C := RX4) (T := TX4) (N := 5) hx hb hts hw4 hown hK hP 0 rfl rfl 3 (by decide +kernel) (hts _ mm_X4_fill_327) (fun _ h9 => h9) rfl dX4_fill_41 ?_
          refine lv_iload hx hb dX4_fill_44 (lv_at hl 0 rfl) ?_
          refine lv_aload_n hx hb dX4_fill_46 rfl (lv_at hl 3 rfl) ?_
          refine lv_iload hx hb dX4_fill_47 (lv_at hl 0 rfl) ?_
          refine lv_iconst (v := 0) hx hb dX4_fill_49 (by decide +kernel) ?_
          refine pci (va_runVN (As := [.int v_728, .int 0]) (rest := [.int v_728, .ref p4]) ⟨hx, hb, hml, hown, hts⟩ (w_fact l D K t0 v_728 0 t1 k_1 (.ref t2) k_3 (.int n) k_5 k_6 k_7 k_8 (.int ho) f1 H.size) ⟨va_cnB 2 hts gX4_fill_X9_fact_n45 rfl rfl rfl (nst_at hN 84 rfl) (hts _ mm_X4_fill_145) (by decide +kernel) ⟨Nat.le_of_ble_eq_true rfl, Nat.le_of_ble_eq_true rfl⟩, (hts _ mm_X4_fill_381), (hts _ mm_X4_fill_2)⟩ (mkV hK hN (hP.sub [2, 3] rfl) (hD.sub [2, 3] (by decide +kernel) rfl) (ci := 9) (q0 := 0) rfl rfl) rfl rfl hl.1 rfl (lv_room (Nat.le_of_ble_eq_true rfl)) dX4_fill_50 ⟨Nat.le_of_ble_eq_true rfl, Nat.le_of_ble_eq_true rfl⟩) (fun r_830 hw => ?_)
          obtain ⟨k_831, -⟩ := hw
          replace hE := hE.trans (Lt_in k_831)
          refine lv_iload_n hx hb dX4_fill_53 rfl (lv_at hl 5 rfl) ?_
          refine pci (va_runS (As := [.int r_830, .int y]) (rest := [.int v_728, .ref p4]) ⟨hx, hb, hml, hown, hts⟩ (w_nearest l D K r_830 y H.size) (va_cwS 2 hts gX4_fill_X4_nearest rfl rfl rfl (by decide +kernel) ⟨Nat.le_of_ble_eq_true rfl, Nat.le_of_ble_eq_true rfl⟩) (mkS hK hN (va_P.nil) (va_D.nil (A := fun _ => True))) rfl rfl hl.1 rfl (lv_room (Nat.le_of_ble_eq_true rfl)) dX4_fill_54 ⟨Nat.le_of_ble_eq_true rfl, Nat.le_of_ble_eq_true rfl⟩) (fun r_832 hw => ?_)
          obtain ⟨k_833, -⟩ := hw
          replace hE := hE.trans (Lt_in k_833)
          refine va_iast hx hb hK hP hD hS 1 0 rfl rfl (i_in rfl (by omega)) dX4_fill_57 (fun H locs hP0 hD0 hS0 => ?_)
          clear hP hD hS
          have hP := hP0
          have hD := hD0
          have hS := hS0
          clear hP0 hD0 hS0
          generalize hf_834 : (upd f_809 (v_728 : Int32).toNatClampNeg r_832) = f_834 at hP hD
          replace hE := hE.trans (Lt_in hf_834.symm)
          replace hP : va_P D vwCl [(p0, .inr (4, [.ref p1, .ref p2, .ref p3, .ref p4, .ref p5])), (p4, .inl (K 0, 8, .inl f_834)), (t0, .inr (9, [.ref t1, k_1, .ref t2, k_3, .int n, k_5, k_6, k_7, k_8, .int ho])), (t1, .inl (K 0, 56, .inl f1)), (t2, .inl (K 0, 6, .inl f2))] H := hP
          replace hD : va_D A [(p0, .inr (4, [.ref p1, .ref p2, .ref p3, .ref p4, .ref p5])), (p4, .inl (K 0, 8, .inl f_834)), (t0, .inr (9, [.ref t1, k_1, .ref t2, k_3, .int n, k_5, k_6, k_7, k_8, .int ho])), (t1, .inl (K 0, 56, .inl f1)), (t2, .inl (K 0, 6, .inl f2))] := hD
          refine lv_iload hx hb dX4_fill_58 (lv_at hl 1 rfl) ?_
          refine lv_aload_n hx hb dX4_fill_60 rfl (lv_at hl 2 rfl) ?_
          refine va_get (ci := 4) (v := .ref p4) (C := RX4) (T := TX4) (N := 5) hx hb hts hw4 hown hK hP 0 rfl rfl 3 (by decide +kernel) (hts _ mm_X4_fill_327) (fun _ h9 => h9) rfl dX4_fill_61 ?_
          refine lv_iload hx hb dX4_fill_64 (lv_at hl 0 rfl) ?_
          refine va_iald hx hb hK hP 1 0 rfl rfl (i_in rfl (by omega)) dX4_fill_66 ?_
          refine lv_topi (fun x_835 ex_835 => ?_)
          replace hE := hE.trans (Lt_in ex_835)
          refine lv_aload_n hx hb dX4_fill_67 rfl (lv_at hl 3 rfl) ?_
          refine lv_iload hx hb dX4_fill_68 (lv_at hl 0 rfl) ?_
          refine lv_iconst (v := 0) hx hb dX4_fill_70 (by decide +kernel) ?_
          refine pci (va_runVN (As := [.int v_728, .int 0]) (rest := [.int x_835, .int v_729]) ⟨hx, hb, hml, hown, hts⟩ (w_fact l D K t0 v_728 0 t1 k_1 (.ref t2) k_3 (.int n) k_5 k_6 k_7 k_8 (.int ho) f1 H.size) ⟨va_cnB 2 hts gX4_fill_X9_fact_n45 rfl rfl rfl (nst_at hN 84 rfl) (hts _ mm_X4_fill_145) (by decide +kernel) ⟨Nat.le_of_ble_eq_true rfl, Nat.le_of_ble_eq_true rfl⟩, (hts _ mm_X4_fill_381), (hts _ mm_X4_fill_2)⟩ (mkV hK hN (hP.sub [2, 3] rfl) (hD.sub [2, 3] (by decide +kernel) rfl) (ci := 9) (q0 := 0) rfl rfl) rfl rfl hl.1 rfl (lv_room (Nat.le_of_ble_eq_true rfl)) dX4_fill_71 ⟨Nat.le_of_ble_eq_true rfl, Nat.le_of_ble_eq_true rfl⟩) (fun r_836 hw => ?_)
          obtain ⟨k_837, -⟩ := hw
          replace hE := hE.trans (Lt_in k_837)
          refine pci (va_runS (As := [.int x_835, .int r_836]) (rest := [.int v_729]) ⟨hx, hb, hml, hown, hts⟩ (w_apart l D K x_835 r_836 H.size) (va_cwS 2 hts gX4_fill_X4_apart rfl rfl rfl (by decide +kernel) ⟨Nat.le_of_ble_eq_true rfl, Nat.le_of_ble_eq_true rfl⟩) (mkS hK hN (va_P.nil) (va_D.nil (A := fun _ => True))) rfl rfl hl.1 rfl (lv_room (Nat.le_of_ble_eq_true rfl)) dX4_fill_74 ⟨Nat.le_of_ble_eq_true rfl, Nat.le_of_ble_eq_true rfl⟩) (fun r_838 hw => ?_)
          obtain ⟨k_839, -⟩ := hw
          replace hE := hE.trans (Lt_in k_839)
          refine lv_iadd hx hb dX4_fill_77 ?_
          refine lv_topi (fun x_840 ex_840 => ?_)
          replace hE := hE.trans (Lt_in ex_840)
          refine lv_istore (lv' := [(4, .int x_840), (5, .int v_728), (0, .ref p0), (1, .ref t0), (2, .int x), (3, .int y)]) hx hb dX4_fill_78 hl (by decide +kernel) rfl (fun ls hl => ?_)
          exact j_827 x_840 f_834  hE _ _ hP hD hS ls (lv_sub hl [1, 0, 2, 3, 4, 5] rfl)
  exact lp_804 ((9 - (0 : Int32).toInt : Int).toNat + 1) 0 0 fr (by decide +kernel) (Nat.lt_succ_self _) hE _ _ hP hD hS ls (lv_sub hl [0, 1, 2, 3, 4, 5] rfl)
set_option maxRecDepth 100000 in
noncomputable def E_w_ahead_l2 (x : Int32) (fb : Nat → Int32) (fr : Nat → Int32) (rec_183 : Int32 → (Int32)) (v_171 : Int32) : Int32 :=
  if x ≤ v_171 then ((0 : Int32)) else (Lt (fr (v_171 : Int32).toNatClampNeg : Int32) (fun x_186 => Lt (fb (v_171 : Int32).toNatClampNeg : Int32) (fun x_187 => if x_186 = x_187 then (Lt (v_171 + Int32.ofInt 1 : Int32) (fun x_189 => rec_183 x_189)) else (Lt (fr (v_171 : Int32).toNatClampNeg : Int32) (fun x_190 => Lt (fb (v_171 : Int32).toNatClampNeg : Int32) (fun x_191 => if x_191 ≤ x_190 then ((0 : Int32)) else ((1 : Int32))))))))
set_option maxRecDepth 100000 in
noncomputable def E_w_ahead (x : Int32) (fb : Nat → Int32) (fr : Nat → Int32) : Int32 :=
  Lp (α := Int32 → (Int32)) (E_w_ahead_l2 x fb fr) (fun _ => ((0) : Int32)) ((9 - (0 : Int32).toInt : Int).toNat + 1) 0
set_option maxHeartbeats 4000000 in
set_option maxRecDepth 100000 in
theorem w_ahead (l : Launch) (D : va_G) (K : Nat → ClassId) (p0 : Nat) (x : Int32) (p1 : Nat) (p2 : Nat) (p3 : Nat) (p4 : Nat) (p5 : Nat) (fb : Nat → Int32) (fr : Nat → Int32) (sz : Nat) (zx : 0 ≤ x.toInt ∧ x.toInt ≤ 8) : Met l yX4_ahead wsX4_ahead ({ frames := 0, cells := 0, slots := 0, locals := 0 }) (va_Pc [.ref p0, .int x] (Pre D K [(p0, .inr (4, [.ref p1, .ref p2, .ref p3, .ref p4, .ref p5])), (p3, .inl (K 0, 8, .inl fb)), (p4, .inl (K 0, 8, .inl fr))] sz)) (vp_Si (fun r : Int32 => (0 ≤ r.toInt ∧ r.toInt ≤ 1) ∧ (r = E_w_ahead x fb fr) ∧ True)) 0 0 (fun _ => False) := by
  refine Met.ofW (cc := cX4_ahead) (maxL := 3) (ret := (some .boolean)) (by decide +kernel) rfl ?_
  intro p e s m args below meth c s₁ B hml hv
  obtain ⟨rfl, hsz, hP, hK, hD0, hN⟩ := hv
  have hx := B.exec
  have hb := B.bytes
  have hr := B.returns
  have hts := atoms_spec (ws := wsX4_ahead) B.pre
  have hown : s.vm.findClass RX4 = some m.cls := findClass_of_methodNamed B.named
  have hlocks := B.notSynchronized
  subst hsz
  have hD := hD0
  replace hP : va_P D vwCl [(p0, .inr (4, [.ref p1, .ref p2, .ref p3, .ref p4, .ref p5])), (p3, .inl (K 0, 8, .inl fb)), (p4, .inl (K 0, 8, .inl fr))] s.heap := hP
  have hl := lv_entry [.ref p0, .int x] (n := 3) (Nat.le_of_ble_eq_true rfl)
  rw [lg_entry_eq]
  generalize (lg_sl [.ref p0, .int x] ++ List.replicate (3 - (lg_sl [.ref p0, .int x]).length) Slot.unset).toArray = ls at hl ⊢
  have hl : lv_has ls 3 [(0, .ref p0), (1, .int x)] := hl
  have hw4 : ∀ w ∈ wsX40, w ∈ wsX4_ahead := fun w h => (List.mem_cons_of_mem _ (List.mem_append_right _ h))
  generalize hQ : MQ below _ _ s _ _ _ = Q
  have hE := E_w_ahead.eq_def x fb fr
  refine lv_iconst (v := 0) hx hb dX4_ahead_0 (by decide +kernel) ?_
  refine lv_istore_n (lv' := [(2, .int 0), (0, .ref p0), (1, .int x)]) hx hb dX4_ahead_1 rfl hl (by decide +kernel) rfl (fun ls hl => ?_)
  have lp_183 : ∀ (nn_ : Nat) (v_171 : Int32) (hv_171 : 0 ≤ v_171.toInt ∧ v_171.toInt ≤ 8) (hn : (9 - v_171.toInt : Int).toNat < nn_) (hE : E_w_ahead x fb fr = Lp (α := Int32 → (Int32)) (E_w_ahead_l2 x fb fr) (fun _ => ((0) : Int32)) nn_ v_171) (ls : Array Slot) (hl : lv_has ls 3 [(2, .int v_171), (0, .ref p0), (1, .int x)]), W p l e ({ frames := 0, cells := 0, slots := 0, locals := 0 }) s m (([.ref p0, .int x] : List Value).toArray) below meth c s.heap [] 0 0 Q (F0 m 2 ls []) := by
    clear hE hl
    intro nn_
    induction nn_ with
    | zero =>
      intro v_171 hv_171 hn hE ls hl
      exact absurd hn (Nat.not_lt_zero _)
    | succ nn_ ih_184 =>
      intro v_171 hv_171 hn hE ls hl
      replace hE : E_w_ahead x fb fr = E_w_ahead_l2 x fb fr (Lp (α := Int32 → (Int32)) (E_w_ahead_l2 x fb fr) (fun _ => ((0) : Int32)) nn_) v_171 := hE
      obtain ⟨rec_183, hrec_183⟩ : ∃ z9, z9 = Lp (α := Int32 → (Int32)) (E_w_ahead_l2 x fb fr) (fun _ => ((0) : Int32)) nn_ := ⟨_, rfl⟩
      rw [← hrec_183] at hE
      replace hE := hE.trans (E_w_ahead_l2.eq_def _ _ _ _ _)
      refine lv_iload_n hx hb dX4_ahead_2 rfl (lv_at hl 0 rfl) ?_
      refine lv_iload_n hx hb dX4_ahead_3 rfl (lv_at hl 2 rfl) ?_
      refine lv_icmp_ge (tgt := 49) hx hb dX4_ahead_4 (by decide +kernel) (fun c_185 => ?_) (fun c_185 => ?_)
      · have c_185i := i_le (x := x.toInt) (y := v_171.toInt) rfl rfl c_185
        replace hE := hE.trans (if_pos c_185)
        refine lv_iconst (v := 0) hx hb dX4_ahead_49 (by decide +kernel) ?_
        rw [← hQ]
        exact W.zret (v := 0) hx hb hr (by decide +kernel) (fun t ht hW => ⟨_, rfl, ⟨(show 0 ≤ (0 : Int32).toInt ∧ (0 : Int32).toInt ≤ 1 by decide), hE.symm, trivial⟩, ht⟩) (fun q hq => by cases hq) dX4_ahead_50
      · have c_185i := i_nle (x := x.toInt) (y := v_171.toInt) rfl rfl c_185
        replace hE := hE.trans (if_neg c_185)
        refine lv_aload_n hx hb dX4_ahead_7 rfl (lv_at hl 1 rfl) ?_
        refine va_get (ci := 4) (v := .ref p4) (C := RX4) (T := TX4) (N := 5) hx hb hts hw4 hown hK hP 0 rfl rfl 3 (by decide +kernel) (hts _ mm_X4_ahead_327) (fun _ h9 => h9) rfl dX4_ahead_8 ?_
        refine lv_iload_n hx hb dX4_ahead_11 rfl (lv_at hl 0 rfl) ?_
        refine va_iald hx hb hK hP 2 0 rfl rfl (i_in rfl (by omega)) dX4_ahead_12 ?_
        refine lv_topi (fun x_186 ex_186 => ?_)
        replace hE := hE.trans (Lt_in ex_186)
        refine lv_aload_n hx hb dX4_ahead_13 rfl (lv_at hl 1 rfl) ?_
        refine va_get (ci := 4) (v := .ref p3) (C := RX4) (T := TX4) (N := 5) hx hb hts hw4 hown hK hP 0 rfl rfl 2 (by decide +kernel) (hts _ mm_X4_ahead_326) (fun _ h9 => h9) rfl dX4_ahead_14 ?_
        refine lv_iload_n hx hb dX4_ahead_17 rfl (lv_at hl 0 rfl) ?_
        refine va_iald hx hb hK hP 1 0 rfl rfl (i_in rfl (by omega)) dX4_ahead_18 ?_
        refine lv_topi (fun x_187 ex_187 => ?_)
        replace hE := hE.trans (Lt_in ex_187)
        refine lv_icmp_eq (tgt := 43) hx hb dX4_ahead_19 (by decide +kernel) (fun c_188 => ?_) (fun c_188 => ?_)
        · have c_188i := i_eq (x := x_186.toInt) (y := x_187.toInt) rfl rfl c_188
          replace hE := hE.trans (if_pos c_188)
          obtain ⟨x_189, ex_189⟩ : ∃ y : Int32, y = v_171 + Int32.ofInt 1 := ⟨_, rfl⟩
          replace hE := hE.trans (Lt_in ex_189)
          have hx_189 : x_189.toInt = (v_171.toInt + 1) := by rw [ex_189]; exact i_add rfl (show (Int32.ofInt 1).toInt = 1 from rfl) (by omega)
          refine lv_iinc (v := x_189) (lv' := [(2, .int x_189), (0, .ref p0), (1, .int x)]) hx hb dX4_ahead_43 hl (k := 0) rfl (by rw [ex_189]) (by decide +kernel) rfl (fun ls hl => ?_)
          refine lv_goto (tgt := 2) hx hb dX4_ahead_46 (by decide +kernel) ?_
          exact ih_184 x_189 (by rw [hx_189]; omega) (by omega) (hE.trans (by rw [hrec_183])) ls (lv_sub hl [0, 1, 2] rfl)
        · have c_188i := i_ne (x := x_186.toInt) (y := x_187.toInt) rfl rfl c_188
          replace hE := hE.trans (if_neg c_188)
          refine lv_aload_n hx hb dX4_ahead_22 rfl (lv_at hl 1 rfl) ?_
          refine va_get (ci := 4) (v := .ref p4) (C := RX4) (T := TX4) (N := 5) hx hb hts hw4 hown hK hP 0 rfl rfl 3 (by decide +kernel) (hts _ mm_X4_ahead_327) (fun _ h9 => h9) rfl dX4_ahead_23 ?_
          refine lv_iload_n hx hb dX4_ahead_26 rfl (lv_at hl 0 rfl) ?_
          refine va_iald hx hb hK hP 2 0 rfl rfl (i_in rfl (by omega)) dX4_ahead_27 ?_
          refine lv_topi (fun x_190 ex_190 => ?_)
          replace hE := hE.trans (Lt_in ex_190)
          refine lv_aload_n hx hb dX4_ahead_28 rfl (lv_at hl 1 rfl) ?_
          refine va_get (ci := 4) (v := .ref p3) (C := RX4) (T := TX4) (N := 5) hx hb hts hw4 hown hK hP 0 rfl rfl 2 (by decide +kernel) (hts _ mm_X4_ahead_326) (fun _ h9 => h9) rfl dX4_ahead_29 ?_
          refine lv_iload_n hx hb dX4_ahead_32 rfl (lv_at hl 0 rfl) ?_
          refine va_iald hx hb hK hP 1 0 rfl rfl (i_in rfl (by omega)) dX4_ahead_33 ?_
          refine lv_topi (fun x_191 ex_191 => ?_)
          replace hE := hE.trans (Lt_in ex_191)
          refine lv_icmp_ge (tgt := 41) hx hb dX4_ahead_34 (by decide +kernel) (fun c_192 => ?_) (fun c_192 => ?_)
          · have c_192i := i_le (x := x_191.toInt) (y := x_190.toInt) rfl rfl c_192
            replace hE := hE.trans (if_pos c_192)
            refine lv_iconst (v := 0) hx hb dX4_ahead_41 (by decide +kernel) ?_
            rw [← hQ]
            exact W.zret (v := 0) hx hb hr (by decide +kernel) (fun t ht hW => ⟨_, rfl, ⟨(show 0 ≤ (0 : Int32).toInt ∧ (0 : Int32).toInt ≤ 1 by decide), hE.symm, trivial⟩, ht⟩) (fun q hq => by cases hq) dX4_ahead_42
          · have c_192i := i_nle (x := x_191.toInt) (y := x_190.toInt) rfl rfl c_192
            replace hE := hE.trans (if_neg c_192)
            refine lv_iconst (v := 1) hx hb dX4_ahead_37 (by decide +kernel) ?_
            refine lv_goto (tgt := 42) hx hb dX4_ahead_38 (by decide +kernel) ?_
            rw [← hQ]
            exact W.zret (v := 1) hx hb hr (by decide +kernel) (fun t ht hW => ⟨_, rfl, ⟨(show 0 ≤ (1 : Int32).toInt ∧ (1 : Int32).toInt ≤ 1 by decide), hE.symm, trivial⟩, ht⟩) (fun q hq => by cases hq) dX4_ahead_42
  exact lp_183 ((9 - (0 : Int32).toInt : Int).toNat + 1) 0 (by decide +kernel) (Nat.lt_succ_self _) hE ls (lv_sub hl [0, 1, 2] rfl)
set_option maxRecDepth 100000 in
noncomputable def E_w_retune_j87 (v_1011 : Int32) (rec_1119 : Int32 → Int32 → (Nat → Int32) → (Nat → Int32) → (Int32 × (Nat → Int32) × (Nat → Int32))) (v_1146 : Int32) (f_1147 : Nat → Int32) (f_1148 : Nat → Int32) : Int32 × (Nat → Int32) × (Nat → Int32) :=
  Lt (v_1011 + Int32.ofInt 1 : Int32) (fun x_1151 => rec_1119 x_1151 v_1146 f_1147 f_1148)
set_option maxRecDepth 100000 in
noncomputable def E_w_retune_j69 (v_1011 : Int32) (f_1013 : Nat → Int32) (rec_1119 : Int32 → Int32 → (Nat → Int32) → (Nat → Int32) → (Int32 × (Nat → Int32) × (Nat → Int32))) (r_1153 : Int32) (u_1154_2_1_0 : Nat → Int32) : Int32 × (Nat → Int32) × (Nat → Int32) :=
  Lt (va_cpy (α := Int32) u_1154_2_1_0 f_1013 (0 : Int32).toNatClampNeg (0 : Int32).toNatClampNeg (8 : Int32).toNatClampNeg : Nat → Int32) (fun f_1164 => E_w_retune_j87 v_1011 rec_1119 r_1153 f_1164 u_1154_2_1_0)
set_option maxRecDepth 100000 in
noncomputable def E_w_retune_l6 (x : Int32) (n : Int32) (ho : Int32) (f1 : Nat → Int32) (f2 : Nat → Int32) (rec_1119 : Int32 → Int32 → (Nat → Int32) → (Nat → Int32) → (Int32 × (Nat → Int32) × (Nat → Int32))) (v_1011 : Int32) (v_1012 : Int32) (f_1013 : Nat → Int32) (f_1014 : Nat → Int32) : Int32 × (Nat → Int32) × (Nat → Int32) :=
  if 127 < v_1011 then (((v_1012, f_1013, f_1014) : Int32 × (Nat → Int32) × (Nat → Int32))) else (Lt (v_1011 <<< (1 &&& 31) : Int32) (fun x_1122 => Lt (v_1011 >>> (6 &&& 31) : Int32) (fun x_1123 => Lt (x_1122 ||| x_1123 : Int32) (fun x_1124 => Lt (x_1124 &&& 127 : Int32) (fun x_1125 => Lt (v_1011 &&& x_1125 : Int32) (fun x_1126 => if x_1126 = 0 then (Lt2 (E_w_fill x v_1011 f_1014 n ho f1 f2) (fun r_1153 u_1154_2_1_0 => if r_1153 < v_1012 then (E_w_retune_j69 v_1011 f_1013 rec_1119 r_1153 u_1154_2_1_0) else (if r_1153 = v_1012 then (Lt (E_w_ahead n f_1013 u_1154_2_1_0) (fun r_1167 => if r_1167 = 0 then (E_w_retune_j87 v_1011 rec_1119 v_1012 f_1013 u_1154_2_1_0) else (E_w_retune_j69 v_1011 f_1013 rec_1119 r_1153 u_1154_2_1_0))) else (E_w_retune_j87 v_1011 rec_1119 v_1012 f_1013 u_1154_2_1_0)))) else (E_w_retune_j87 v_1011 rec_1119 v_1012 f_1013 f_1014)))))))
set_option maxRecDepth 100000 in
noncomputable def E_w_retune (x : Int32) (fb : Nat → Int32) (fr : Nat → Int32) (n : Int32) (ho : Int32) (f1 : Nat → Int32) (f2 : Nat → Int32) : Int32 × (Nat → Int32) × (Nat → Int32) :=
  Lp (α := Int32 → Int32 → (Nat → Int32) → (Nat → Int32) → (Int32 × (Nat → Int32) × (Nat → Int32))) (E_w_retune_l6 x n ho f1 f2) (fun _ _ _ _ => ((0, fun _ => 0, fun _ => 0) : Int32 × (Nat → Int32) × (Nat → Int32))) ((129 - (1 : Int32).toInt : Int).toNat + 1) 1 56 fb fr
set_option maxHeartbeats 4000000 in
set_option maxRecDepth 100000 in
theorem w_retune (l : Launch) (D : va_G) (K : Nat → ClassId) (p0 : Nat) (t0 : Nat) (x : Int32) (p1 : Nat) (p2 : Nat) (p3 : Nat) (p4 : Nat) (p5 : Nat) (fb : Nat → Int32) (fr : Nat → Int32) (t1 : Nat) (k_1 : Value) (t2 : Nat) (k_3 : Value) (n : Int32) (k_5 : Value) (k_6 : Value) (k_7 : Value) (k_8 : Value) (ho : Int32) (f1 : Nat → Int32) (f2 : Nat → Int32) (sz : Nat) (zn : 0 ≤ n.toInt ∧ n.toInt ≤ 8) : Met l yX4_retune wsX4_retune ({ frames := 4, cells := 0, slots := 0, locals := 84 }) (va_Pc [.ref p0, .ref t0, .int x] (Pre D K [(p0, .inr (4, [.ref p1, .ref p2, .ref p3, .ref p4, .ref p5])), (p3, .inl (K 0, 8, .inl fb)), (p4, .inl (K 0, 8, .inl fr)), (t0, .inr (9, [.ref t1, k_1, .ref t2, k_3, .int n, k_5, k_6, k_7, k_8, .int ho])), (t1, .inl (K 0, 56, .inl f1)), (t2, .inl (K 0, 6, .inl f2))] sz)) (va_Qi (S := Su) (fun (r : Int32) (u : Su) => (r.toInt ≤ 56) ∧ ((r, (u.2.1 0), (u.2.1 1)) = E_w_retune x fb fr n ho f1 f2) ∧ True) (fun u t => Wd D (va_A [(p0, .inr (4, [.ref p1, .ref p2, .ref p3, .ref p4, .ref p5])), (p3, .inl (K 0, 8, .inl fb)), (p4, .inl (K 0, 8, .inl fr)), (t0, .inr (9, [.ref t1, k_1, .ref t2, k_3, .int n, k_5, k_6, k_7, k_8, .int ho])), (t1, .inl (K 0, 56, .inl f1)), (t2, .inl (K 0, 6, .inl f2))] sz) ((fun u => [(p0, .inr (4, [.ref p1, .ref p2, .ref p3, .ref p4, .ref p5])), (p3, .inl (K 0, 8, .inl (u.2.1 0))), (p4, .inl (K 0, 8, .inl (u.2.1 1))), (t0, .inr (9, [.ref t1, k_1, .ref t2, k_3, .int n, k_5, k_6, k_7, k_8, .int ho])), (t1, .inl (K 0, 56, .inl f1)), (t2, .inl (K 0, 6, .inl f2))]) u) t) (va_A [(p0, .inr (4, [.ref p1, .ref p2, .ref p3, .ref p4, .ref p5])), (p3, .inl (K 0, 8, .inl fb)), (p4, .inl (K 0, 8, .inl fr)), (t0, .inr (9, [.ref t1, k_1, .ref t2, k_3, .int n, k_5, k_6, k_7, k_8, .int ho])), (t1, .inl (K 0, 56, .inl f1)), (t2, .inl (K 0, 6, .inl f2))] sz)) 0 0 (va_A [(p0, .inr (4, [.ref p1, .ref p2, .ref p3, .ref p4, .ref p5])), (p3, .inl (K 0, 8, .inl fb)), (p4, .inl (K 0, 8, .inl fr)), (t0, .inr (9, [.ref t1, k_1, .ref t2, k_3, .int n, k_5, k_6, k_7, k_8, .int ho])), (t1, .inl (K 0, 56, .inl f1)), (t2, .inl (K 0, 6, .inl f2))] sz) := by
  refine Met.ofW (cc := cX4_retune) (maxL := 7) (ret := (some .int)) (by decide +kernel) rfl ?_
  intro p e s m args below meth c s₁ B hml hv
  obtain ⟨rfl, hsz, hP, hK, hD0, hN⟩ := hv
  have hx := B.exec
  have hb := B.bytes
  have hr := B.returns
  have hts := atoms_spec (ws := wsX4_retune) B.pre
  have hown : s.vm.findClass RX4 = some m.cls := findClass_of_methodNamed B.named
  have hlocks := B.notSynchronized
  subst hsz
  have hD := hD0.self (sz := s.heap.size)
  generalize hAe : va_A [(p0, .inr (4, [.ref p1, .ref p2, .ref p3, .ref p4, .ref p5])), (p3, .inl (K 0, 8, .inl fb)), (p4, .inl (K 0, 8, .inl fr)), (t0, .inr (9, [.ref t1, k_1, .ref t2, k_3, .int n, k_5, k_6, k_7, k_8, .int ho])), (t1, .inl (K 0, 56, .inl f1)), (t2, .inl (K 0, 6, .inl f2))] s.heap.size = A at hD ⊢
  have hA : ∀ q : Nat, s.heap.size ≤ q → A q := fun q h => by rw [← hAe]; exact Or.inr h
  clear hAe
  have hS : va_S A s.heap s.heap [] := va_S.rf
  replace hP : va_P D vwCl [(p0, .inr (4, [.ref p1, .ref p2, .ref p3, .ref p4, .ref p5])), (p3, .inl (K 0, 8, .inl fb)), (p4, .inl (K 0, 8, .inl fr)), (t0, .inr (9, [.ref t1, k_1, .ref t2, k_3, .int n, k_5, k_6, k_7, k_8, .int ho])), (t1, .inl (K 0, 56, .inl f1)), (t2, .inl (K 0, 6, .inl f2))] s.heap := hP
  have hl := lv_entry [.ref p0, .ref t0, .int x] (n := 7) (Nat.le_of_ble_eq_true rfl)
  rw [lg_entry_eq]
  generalize (lg_sl [.ref p0, .ref t0, .int x] ++ List.replicate (7 - (lg_sl [.ref p0, .ref t0, .int x]).length) Slot.unset).toArray = ls at hl ⊢
  have hl : lv_has ls 7 [(0, .ref p0), (1, .ref t0), (2, .int x)] := hl
  have hw4 : ∀ w ∈ wsX40, w ∈ wsX4_retune := fun w h => (List.mem_cons_of_mem _ (List.mem_append_right _ h))
  have hw9 : ∀ w ∈ wsX90, w ∈ wsX4_retune := fun w h => (List.mem_cons_of_mem _ (List.mem_append_left _ (List.mem_append_right _ h)))
  generalize hQ : MQ below _ _ s _ _ _ = Q
  have hE := E_w_retune.eq_def x fb fr n ho f1 f2
  refine lv_bipush (v := 56) hx hb dX4_retune_0 (by decide +kernel) ?_
  refine lv_istore_n (lv' := [(3, .int 56), (0, .ref p0), (1, .ref t0), (2, .int x)]) hx hb dX4_retune_2 rfl hl (by decide +kernel) rfl (fun ls hl => ?_)
  refine lv_iconst (v := 1) hx hb dX4_retune_3 (by decide +kernel) ?_
  refine lv_istore (lv' := [(4, .int 1), (3, .int 56), (0, .ref p0), (1, .ref t0), (2, .int x)]) hx hb dX4_retune_4 hl (by decide +kernel) rfl (fun ls hl => ?_)
  have lp_1119 : ∀ (nn_ : Nat) (v_1011 : Int32) (v_1012 : Int32) (f_1013 : Nat → Int32) (f_1014 : Nat → Int32) (hv_1011 : 1 ≤ v_1011.toInt ∧ v_1011.toInt ≤ 128) (hv_1012 : v_1012.toInt ≤ 56) (hn : (129 - v_1011.toInt : Int).toNat < nn_) (hE : E_w_retune x fb fr n ho f1 f2 = Lp (α := Int32 → Int32 → (Nat → Int32) → (Nat → Int32) → (Int32 × (Nat → Int32) × (Nat → Int32))) (E_w_retune_l6 x n ho f1 f2) (fun _ _ _ _ => ((0, fun _ => 0, fun _ => 0) : Int32 × (Nat → Int32) × (Nat → Int32))) nn_ v_1011 v_1012 f_1013 f_1014) (H : Heap) (locs : List Loc) (hP : va_P D vwCl [(p0, .inr (4, [.ref p1, .ref p2, .ref p3, .ref p4, .ref p5])), (p3, .inl (K 0, 8, .inl f_1013)), (p4, .inl (K 0, 8, .inl f_1014)), (t0, .inr (9, [.ref t1, k_1, .ref t2, k_3, .int n, k_5, k_6, k_7, k_8, .int ho])), (t1, .inl (K 0, 56, .inl f1)), (t2, .inl (K 0, 6, .inl f2))] H) (hD : va_D A [(p0, .inr (4, [.ref p1, .ref p2, .ref p3, .ref p4, .ref p5])), (p3, .inl (K 0, 8, .inl f_1013)), (p4, .inl (K 0, 8, .inl f_1014)), (t0, .inr (9, [.ref t1, k_1, .ref t2, k_3, .int n, k_5, k_6, k_7, k_8, .int ho])), (t1, .inl (K 0, 56, .inl f1)), (t2, .inl (K 0, 6, .inl f2))]) (hS : va_S A s.heap H locs) (ls : Array Slot) (hl : lv_has ls 7 [(4, .int v_1011), (3, .int v_1012), (0, .ref p0), (1, .ref t0), (2, .int x)]), W p l e ({ frames := 4, cells := 0, slots := 0, locals := 84 }) s m (([.ref p0, .ref t0, .int x] : List Value).toArray) below meth c H locs 0 0 Q (F0 m 6 ls []) := by
    clear hE hP hD hS hl
    intro nn_
    induction nn_ with
    | zero =>
      intro v_1011 v_1012 f_1013 f_1014 hv_1011 hv_1012 hn hE H locs hP hD hS ls hl
      exact absurd hn (Nat.not_lt_zero _)
    | succ nn_ ih_1120 =>
      intro v_1011 v_1012 f_1013 f_1014 hv_1011 hv_1012 hn hE H locs hP hD hS ls hl
      replace hE : E_w_retune x fb fr n ho f1 f2 = E_w_retune_l6 x n ho f1 f2 (Lp (α := Int32 → Int32 → (Nat → Int32) → (Nat → Int32) → (Int32 × (Nat → Int32) × (Nat → Int32))) (E_w_retune_l6 x n ho f1 f2) (fun _ _ _ _ => ((0, fun _ => 0, fun _ => 0) : Int32 × (Nat → Int32) × (Nat → Int32))) nn_) v_1011 v_1012 f_1013 f_1014 := hE
      obtain ⟨rec_1119, hrec_1119⟩ : ∃ z9, z9 = Lp (α := Int32 → Int32 → (Nat → Int32) → (Nat → Int32) → (Int32 × (Nat → Int32) × (Nat → Int32))) (E_w_retune_l6 x n ho f1 f2) (fun _ _ _ _ => ((0, fun _ => 0, fun _ => 0) : Int32 × (Nat → Int32) × (Nat → Int32))) nn_ := ⟨_, rfl⟩
      rw [← hrec_1119] at hE
      replace hE := hE.trans (E_w_retune_l6.eq_def _ _ _ _ _ _ _ _ _ _)
      refine lv_iload hx hb dX4_retune_6 (lv_at hl 0 rfl) ?_
      refine lv_bipush (v := 127) hx hb dX4_retune_8 (by decide +kernel) ?_
      refine lv_icmp_gt (tgt := 93) hx hb dX4_retune_10 (by decide +kernel) (fun c_1121 => ?_) (fun c_1121 => ?_)
      · have c_1121i := i_lt (x := 127) (y := v_1011.toInt) rfl rfl c_1121
        replace hE := hE.trans (if_pos c_1121)
        refine lv_iload_n hx hb dX4_retune_93 rfl (lv_at hl 1 rfl) ?_
        rw [← hQ]
        have hP9 := hP.sub (ws' := [(p0, .inr (4, [.ref p1, .ref p2, .ref p3, .ref p4, .ref p5])), (p3, .inl (K 0, 8, .inl f_1013)), (p4, .inl (K 0, 8, .inl f_1014)), (t0, .inr (9, [.ref t1, k_1, .ref t2, k_3, .int n, k_5, k_6, k_7, k_8, .int ho])), (t1, .inl (K 0, 56, .inl f1)), (t2, .inl (K 0, 6, .inl f2))]) [0, 1, 2, 3, 4, 5] rfl
        have hD9 := hD.sub (ws' := [(p0, .inr (4, [.ref p1, .ref p2, .ref p3, .ref p4, .ref p5])), (p3, .inl (K 0, 8, .inl f_1013)), (p4, .inl (K 0, 8, .inl f_1014)), (t0, .inr (9, [.ref t1, k_1, .ref t2, k_3, .int n, k_5, k_6, k_7, k_8, .int ho])), (t1, .inl (K 0, 56, .inl f1)), (t2, .inl (K 0, 6, .inl f2))]) [0, 1, 2, 3, 4, 5] (by decide +kernel) rfl
        exact W.iret (v := v_1012) hx hb hr (fun t ht hW => ⟨⟨v_1012, ((fun _ => 0, fun i => match i with | 0 => f_1013 | _ => f_1014, fun _ => fun _ => 0, fun _ => 0, fun _ => 0, fun _ => fun _ => none) : Su), rfl, ⟨(show v_1012.toInt ≤ 56 by omega), hE.symm, trivial⟩, (⟨by rw [ht]; exact hP9, hD9⟩ : Wd D A _ t)⟩, hS.F ht⟩) hS.2.2 dX4_retune_94
      · have c_1121i := i_nlt (x := 127) (y := v_1011.toInt) rfl rfl c_1121
        replace hE := hE.trans (if_neg c_1121)
        refine lv_iload hx hb dX4_retune_13 (lv_at hl 0 rfl) ?_
        refine lv_iconst (v := 1) hx hb dX4_retune_15 (by decide +kernel) ?_
        refine lv_ishl hx hb dX4_retune_16 ?_
        refine lv_topi (fun x_1122 ex_1122 => ?_)
        replace hE := hE.trans (Lt_in ex_1122)
        refine lv_iload hx hb dX4_retune_17 (lv_at hl 0 rfl) ?_
        refine lv_bipush (v := 6) hx hb dX4_retune_19 (by decide +kernel) ?_
        refine lv_ishr hx hb dX4_retune_21 ?_
        refine lv_topi (fun x_1123 ex_1123 => ?_)
        replace hE := hE.trans (Lt_in ex_1123)
        have hx_1123 : 0 ≤ x_1123.toInt ∧ x_1123.toInt ≤ v_1011.toInt := by rw [ex_1123]; exact i_shr rfl (by omega)
        refine lv_ior hx hb dX4_retune_22 ?_
        refine lv_topi (fun x_1124 ex_1124 => ?_)
        replace hE := hE.trans (Lt_in ex_1124)
        refine lv_bipush (v := 127) hx hb dX4_retune_23 (by decide +kernel) ?_
        refine lv_iand hx hb dX4_retune_25 ?_
        refine lv_topi (fun x_1125 ex_1125 => ?_)
        replace hE := hE.trans (Lt_in ex_1125)
        have hx_1125 : 0 ≤ x_1125.toInt ∧ x_1125.toInt ≤ 127 := by rw [ex_1125]; exact i_mask x_1124 7 rfl (by decide +kernel)
        refine lv_istore (lv' := [(5, .int x_1125), (4, .int v_1011), (3, .int v_1012), (0, .ref p0), (1, .ref t0), (2, .int x)]) hx hb dX4_retune_26 hl (by decide +kernel) rfl (fun ls hl => ?_)
        refine lv_iload hx hb dX4_retune_28 (lv_at hl 1 rfl) ?_
        refine lv_iload hx hb dX4_retune_30 (lv_at hl 0 rfl) ?_
        refine lv_iand hx hb dX4_retune_32 ?_
        refine lv_topi (fun x_1126 ex_1126 => ?_)
        replace hE := hE.trans (Lt_in ex_1126)
        have hx_1126 : 0 ≤ x_1126.toInt ∧ x_1126.toInt ≤ x_1125.toInt := by rw [ex_1126]; exact i_andr rfl (by omega)
        have j_1150 : ∀ (v_1146 : Int32) (f_1147 : Nat → Int32) (f_1148 : Nat → Int32) (hv_1146 : v_1146.toInt ≤ 56) (hE : E_w_retune x fb fr n ho f1 f2 = E_w_retune_j87 v_1011 rec_1119 v_1146 f_1147 f_1148) (H : Heap) (locs : List Loc) (hP : va_P D vwCl [(p0, .inr (4, [.ref p1, .ref p2, .ref p3, .ref p4, .ref p5])), (p3, .inl (K 0, 8, .inl f_1147)), (p4, .inl (K 0, 8, .inl f_1148)), (t0, .inr (9, [.ref t1, k_1, .ref t2, k_3, .int n, k_5, k_6, k_7, k_8, .int ho])), (t1, .inl (K 0, 56, .inl f1)), (t2, .inl (K 0, 6, .inl f2))] H) (hD : va_D A [(p0, .inr (4, [.ref p1, .ref p2, .ref p3, .ref p4, .ref p5])), (p3, .inl (K 0, 8, .inl f_1147)), (p4, .inl (K 0, 8, .inl f_1148)), (t0, .inr (9, [.ref t1, k_1, .ref t2, k_3, .int n, k_5, k_6, k_7, k_8, .int ho])), (t1, .inl (K 0, 56, .inl f1)), (t2, .inl (K 0, 6, .inl f2))]) (hS : va_S A s.heap H locs) (ls : Array Slot) (hl : lv_has ls 7 [(4, .int v_1011), (3, .int v_1146), (0, .ref p0), (1, .ref t0), (2, .int x)]), W p l e ({ frames := 4, cells := 0, slots := 0, locals := 84 }) s m (([.ref p0, .ref t0, .int x] : List Value).toArray) below meth c H locs 0 0 Q (F0 m 87 ls []) := by
          clear hE hP hD hS hl
          intro v_1146 f_1147 f_1148 hv_1146 hE H locs hP hD hS ls hl
          replace hE := hE.trans (E_w_retune_j87.eq_def _ _ _ _ _)
          obtain ⟨x_1151, ex_1151⟩ : ∃ y : Int32, y = v_1011 + Int32.ofInt 1 := ⟨_, rfl⟩
          replace hE := hE.trans (Lt_in ex_1151)
          have hx_1151 : x_1151.toInt = (v_1011.toInt + 1) := by rw [ex_1151]; exact i_add rfl (show (Int32.ofInt 1).toInt = 1 from rfl) (by omega)
          refine lv_iinc (v := x_1151) (lv' := [(4, .int x_1151), (3, .int v_1146), (0, .ref p0), (1, .ref t0), (2, .int x)]) hx hb dX4_retune_87 hl (k := 0) rfl (by rw [ex_1151]) (by decide +kernel) rfl (fun ls hl => ?_)
          refine lv_goto (tgt := 6) hx hb dX4_retune_90 (by decide +kernel) ?_
          exact ih_1120 x_1151 v_1146 f_1147 f_1148 (by rw [hx_1151]; omega) (by omega) (by omega) (hE.trans (by rw [hrec_1119])) _ _ hP hD hS ls (lv_sub hl [0, 1, 2, 3, 4] rfl)
        refine lv_if_ne (tgt := 87) hx hb dX4_retune_33 (by decide +kernel) (fun c_1152 => ?_) (fun c_1152 => ?_)
        · have c_1152i := i_ne (x := x_1126.toInt) (y := 0) rfl rfl c_1152
          replace hE := hE.trans (if_neg c_1152)
          exact j_1150 v_1012 f_1013 f_1014 (by omega) hE _ _ hP hD hS ls (lv_sub hl [1, 2, 3, 4, 5] rfl)
        · have c_1152i := i_eq (x := x_1126.toInt) (y := 0) rfl rfl c_1152
          replace hE := hE.trans (if_pos c_1152)
          refine lv_aload_n hx hb dX4_retune_36 rfl (lv_at hl 3 rfl) ?_
          refine lv_aload_n hx hb dX4_retune_37 rfl (lv_at hl 4 rfl) ?_
          refine lv_iload_n hx hb dX4_retune_38 rfl (lv_at hl 5 rfl) ?_
          refine lv_iload hx hb dX4_retune_39 (lv_at hl 1 rfl) ?_
          refine kci (S := Su) (wr := [(p3, .inl (K 0, 8, .inl f_1013))]) (va_runV (As := [.ref t0, .int x, .int v_1011]) (rest := []) ⟨hx, hb, hml, hown, hts⟩ (w_fill l D K p0 t0 x v_1011 p1 p2 p3 p4 p5 f_1014 t1 k_1 t2 k_3 n k_5 k_6 k_7 k_8 ho f1 f2 H.size (by first | omega | decide)) (cwV 3 hts gX4_retune_X4_fill rfl rfl rfl (by decide +kernel) ⟨Nat.le_of_ble_eq_true rfl, Nat.le_of_ble_eq_true rfl⟩) (mkV hK hN (hP.sub [0, 2, 3, 4, 5] rfl) (hD.sub [0, 2, 3, 4, 5] (by decide +kernel) rfl) (ci := 4) (q0 := 0) rfl rfl) rfl rfl hl.1 rfl (lv_room (Nat.le_of_ble_eq_true rfl)) dX4_retune_41 ⟨Nat.le_of_ble_eq_true rfl, Nat.le_of_ble_eq_true rfl⟩) hP hD hS hA [0, 2, 3, 4, 5] [1] rfl rfl (by decide +kernel) (by decide +kernel) (fun r_1153 u_1154 H locs hw hP0 hD0 hS0 => ?_)
          clear hP hD hS
          have hP := hP0
          have hD := hD0
          have hS := hS0
          clear hP0 hD0 hS0
          replace hP : va_P D vwCl [(p3, .inl (K 0, 8, .inl f_1013)), (p0, .inr (4, [.ref p1, .ref p2, .ref p3, .ref p4, .ref p5])), (p4, .inl (K 0, 8, .inl (u_1154.2.1 0))), (t0, .inr (9, [.ref t1, k_1, .ref t2, k_3, .int n, k_5, k_6, k_7, k_8, .int ho])), (t1, .inl (K 0, 56, .inl f1)), (t2, .inl (K 0, 6, .inl f2))] H := hP
          replace hD : va_D A [(p3, .inl (K 0, 8, .inl f_1013)), (p0, .inr (4, [.ref p1, .ref p2, .ref p3, .ref p4, .ref p5])), (p4, .inl (K 0, 8, .inl (u_1154.2.1 0))), (t0, .inr (9, [.ref t1, k_1, .ref t2, k_3, .int n, k_5, k_6, k_7, k_8, .int ho])), (t1, .inl (K 0, 56, .inl f1)), (t2, .inl (K 0, 6, .inl f2))] := hD
          obtain ⟨k_1155, -⟩ := hw
          replace hE := hE.trans (Lt2_in k_1155)
          refine lv_istore (lv' := [(6, .int r_1153), (5, .int x_1125), (4, .int v_1011), (3, .int v_1012), (0, .ref p0), (1, .ref t0), (2, .int x)]) hx hb dX4_retune_44 hl (by decide +kernel) rfl (fun ls hl => ?_)
          refine lv_iload hx hb dX4_retune_46 (lv_at hl 0 rfl) ?_
          refine lv_iload_n hx hb dX4_retune_48 rfl (lv_at hl 3 rfl) ?_
          have j_1163 : ∀ (hk0_j_1163 : r_1153.toInt ≤ 56) (hE : E_w_retune x fb fr n ho f1 f2 = E_w_retune_j69 v_1011 f_1013 rec_1119 r_1153 (u_1154.2.1 0)) (H : Heap) (locs : List Loc) (hP : va_P D vwCl [(p3, .inl (K 0, 8, .inl f_1013)), (p0, .inr (4, [.ref p1, .ref p2, .ref p3, .ref p4, .ref p5])), (p4, .inl (K 0, 8, .inl (u_1154.2.1 0))), (t0, .inr (9, [.ref t1, k_1, .ref t2, k_3, .int n, k_5, k_6, k_7, k_8, .int ho])), (t1, .inl (K 0, 56, .inl f1)), (t2, .inl (K 0, 6, .inl f2))] H) (hD : va_D A [(p3, .inl (K 0, 8, .inl f_1013)), (p0, .inr (4, [.ref p1, .ref p2, .ref p3, .ref p4, .ref p5])), (p4, .inl (K 0, 8, .inl (u_1154.2.1 0))), (t0, .inr (9, [.ref t1, k_1, .ref t2, k_3, .int n, k_5, k_6, k_7, k_8, .int ho])), (t1, .inl (K 0, 56, .inl f1)), (t2, .inl (K 0, 6, .inl f2))]) (hS : va_S A s.heap H locs) (ls : Array Slot) (hl : lv_has ls 7 [(6, .int r_1153), (4, .int v_1011), (0, .ref p0), (1, .ref t0), (2, .int x)]), W p l e ({ frames := 4, cells := 0, slots := 0, locals := 84 }) s m (([.ref p0, .ref t0, .int x] : List Value).toArray) below meth c H locs 0 0 Q (F0 m 69 ls []) := by
            clear hE hP hD hS hl
            intro hk0_j_1163 hE H locs hP hD hS ls hl
            replace hE := hE.trans (E_w_retune_j69.eq_def _ _ _ _ _)
            refine lv_iload hx hb dX4_retune_69 (lv_at hl 0 rfl) ?_
            refine lv_istore_n (lv' := [(3, .int r_1153), (6, .int r_1153), (4, .int v_1011), (0, .ref p0), (1, .ref t0), (2, .int x)]) hx hb dX4_retune_71 rfl hl (by decide +kernel) rfl (fun ls hl => ?_)
            refine lv_aload_n hx hb dX4_retune_72 rfl (lv_at hl 3 rfl) ?_
            refine va_get (ci := 4) (v := .ref p4) (C := RX4) (T := TX4) (N := 5) hx hb hts hw4 hown hK hP 1 rfl rfl 3 (by decide +kernel) (hts _ mm_X4_retune_327) (fun _ h9 => h9) rfl dX4_retune_73 ?_
            refine lv_iconst (v := 0) hx hb dX4_retune_76 (by decide +kernel) ?_
            refine lv_aload_n hx hb dX4_retune_77 rfl (lv_at hl 3 rfl) ?_
            refine va_get (ci := 4) (v := .ref p3) (C := RX4) (T := TX4) (N := 5) hx hb hts hw4 hown hK hP 1 rfl rfl 2 (by decide +kernel) (hts _ mm_X4_retune_326) (fun _ h9 => h9) rfl dX4_retune_78 ?_
            refine lv_iconst (v := 0) hx hb dX4_retune_81 (by decide +kernel) ?_
            refine lv_bipush (v := 8) hx hb dX4_retune_82 (by decide +kernel) ?_
            refine va_copyi hx hb (hml.trans hl.1.symm) hown (hts _ mm_X4_retune_725) (hts _ mm_X4_retune_571) (hts _ mm_X4_retune_570) (hts _ mm_X4_retune_163) hK hP hD hS 2 0 0 0 rfl rfl rfl rfl rfl (by decide +kernel) (by decide +kernel) (by decide +kernel) (by decide +kernel) (by decide +kernel) (fun _ _ => rfl) (Nat.le_of_ble_eq_true rfl) (by decide +kernel) dX4_retune_84 (fun H locs hP0 hD0 hS0 => ?_)
            clear hP hD hS
            have hP := hP0
            have hD := hD0
            have hS := hS0
            clear hP0 hD0 hS0
            generalize hf_1164 : (va_cpy (α := Int32) (u_1154.2.1 0) f_1013 (0 : Int32).toNatClampNeg (0 : Int32).toNatClampNeg (8 : Int32).toNatClampNeg) = f_1164 at hP hD
            replace hE := hE.trans (Lt_in hf_1164.symm)
            replace hP : va_P D vwCl [(p3, .inl (K 0, 8, .inl f_1164)), (p0, .inr (4, [.ref p1, .ref p2, .ref p3, .ref p4, .ref p5])), (p4, .inl (K 0, 8, .inl (u_1154.2.1 0))), (t0, .inr (9, [.ref t1, k_1, .ref t2, k_3, .int n, k_5, k_6, k_7, k_8, .int ho])), (t1, .inl (K 0, 56, .inl f1)), (t2, .inl (K 0, 6, .inl f2))] H := hP
            replace hD : va_D A [(p3, .inl (K 0, 8, .inl f_1164)), (p0, .inr (4, [.ref p1, .ref p2, .ref p3, .ref p4, .ref p5])), (p4, .inl (K 0, 8, .inl (u_1154.2.1 0))), (t0, .inr (9, [.ref t1, k_1, .ref t2, k_3, .int n, k_5, k_6, k_7, k_8, .int ho])), (t1, .inl (K 0, 56, .inl f1)), (t2, .inl (K 0, 6, .inl f2))] := hD
            exact j_1150 r_1153 f_1164 (u_1154.2.1 0) (by omega) hE _ _ (hP.sub [1, 0, 2, 3, 4, 5] rfl) (hD.sub [1, 0, 2, 3, 4, 5] (by decide +kernel) rfl) hS ls (lv_sub hl [2, 0, 3, 4, 5] rfl)
          refine lv_icmp_lt (tgt := 69) hx hb dX4_retune_49 (by decide +kernel) (fun c_1165 => ?_) (fun c_1165 => ?_)
          · have c_1165i := i_lt (x := r_1153.toInt) (y := v_1012.toInt) rfl rfl c_1165
            replace hE := hE.trans (if_pos c_1165)
            exact j_1163  (by omega) hE _ _ hP hD hS ls (lv_sub hl [0, 2, 4, 5, 6] rfl)
          · have c_1165i := i_nlt (x := r_1153.toInt) (y := v_1012.toInt) rfl rfl c_1165
            replace hE := hE.trans (if_neg c_1165)
            refine lv_iload hx hb dX4_retune_52 (lv_at hl 0 rfl) ?_
            refine lv_iload_n hx hb dX4_retune_54 rfl (lv_at hl 3 rfl) ?_
            refine lv_icmp_ne (tgt := 87) hx hb dX4_retune_55 (by decide +kernel) (fun c_1166 => ?_) (fun c_1166 => ?_)
            · have c_1166i := i_ne (x := r_1153.toInt) (y := v_1012.toInt) rfl rfl c_1166
              replace hE := hE.trans (if_neg c_1166)
              exact j_1150 v_1012 f_1013 (u_1154.2.1 0) (by omega) hE _ _ (hP.sub [1, 0, 2, 3, 4, 5] rfl) (hD.sub [1, 0, 2, 3, 4, 5] (by decide +kernel) rfl) hS ls (lv_sub hl [2, 3, 4, 5, 6] rfl)
            · have c_1166i := i_eq (x := r_1153.toInt) (y := v_1012.toInt) rfl rfl c_1166
              replace hE := hE.trans (if_pos c_1166)
              refine lv_aload_n hx hb dX4_retune_58 rfl (lv_at hl 4 rfl) ?_
              refine lv_aload_n hx hb dX4_retune_59 rfl (lv_at hl 5 rfl) ?_
              refine va_getN (ci := 9) (v := .int n) (C := RX9) (T := TX9) (N := 10) hx hb hts hw9 hown hK hP 3 rfl rfl 4 (by decide +kernel) (nst_use hN 106 rfl) (fun _ h9 => h9) rfl dX4_retune_60 ?_
              refine pci (va_runV (As := [.int n]) (rest := []) ⟨hx, hb, hml, hown, hts⟩ (w_ahead l D K p0 n p1 p2 p3 p4 p5 f_1013 (u_1154.2.1 0) H.size (by first | omega | decide)) (cwV 1 hts gX4_retune_X4_ahead rfl rfl rfl (by decide +kernel) ⟨Nat.le_of_ble_eq_true rfl, Nat.le_of_ble_eq_true rfl⟩) (mkV hK hN (hP.sub [1, 0, 2] rfl) (hD.sub [1, 0, 2] (by decide +kernel) rfl) (ci := 4) (q0 := 0) rfl rfl) rfl rfl hl.1 rfl (lv_room (Nat.le_of_ble_eq_true rfl)) dX4_retune_63 ⟨Nat.le_of_ble_eq_true rfl, Nat.le_of_ble_eq_true rfl⟩) (fun r_1167 hw => ?_)
              obtain ⟨h_1169, k_1168, -⟩ := hw
              replace hE := hE.trans (Lt_in k_1168)
              refine lv_if_eq (tgt := 87) hx hb dX4_retune_66 (by decide +kernel) (fun c_1170 => ?_) (fun c_1170 => ?_)
              · have c_1170i := i_eq (x := r_1167.toInt) (y := 0) rfl rfl c_1170
                replace hE := hE.trans (if_pos c_1170)
                exact j_1150 v_1012 f_1013 (u_1154.2.1 0) (by omega) hE _ _ (hP.sub [1, 0, 2, 3, 4, 5] rfl) (hD.sub [1, 0, 2, 3, 4, 5] (by decide +kernel) rfl) hS ls (lv_sub hl [2, 3, 4, 5, 6] rfl)
              · have c_1170i := i_ne (x := r_1167.toInt) (y := 0) rfl rfl c_1170
                replace hE := hE.trans (if_neg c_1170)
                exact j_1163  (by omega) hE _ _ hP hD hS ls (lv_sub hl [0, 2, 4, 5, 6] rfl)
  exact lp_1119 ((129 - (1 : Int32).toInt : Int).toNat + 1) 1 56 fb fr (by decide +kernel) (by decide +kernel) (Nat.lt_succ_self _) hE _ _ hP hD hS ls (lv_sub hl [0, 1, 2, 3, 4] rfl)
set_option maxRecDepth 100000 in
noncomputable def E_w_tunedNote (x : Int32) (fb : Nat → Int32) : Int32 :=
  Lt (E_w_within x 0 7) (fun r_77 => if r_77 = 1 then (Lt (fb (x : Int32).toNatClampNeg : Int32) (fun x_83 => (x_83 : Int32))) else (((-1) : Int32)))
set_option maxHeartbeats 4000000 in
set_option maxRecDepth 100000 in
theorem w_tunedNote (l : Launch) (D : va_G) (K : Nat → ClassId) (p0 : Nat) (x : Int32) (p1 : Nat) (p2 : Nat) (p3 : Nat) (p4 : Nat) (p5 : Nat) (fb : Nat → Int32) (sz : Nat) : Met l yX4_tunedNote wsX4_tunedNote ({ frames := 1, cells := 0, slots := 0, locals := 22 }) (va_Pc [.ref p0, .int x] (Pre D K [(p0, .inr (4, [.ref p1, .ref p2, .ref p3, .ref p4, .ref p5])), (p3, .inl (K 0, 8, .inl fb))] sz)) (vp_Si (fun r : Int32 => (r = E_w_tunedNote x fb) ∧ True)) 0 0 (fun _ => False) := by
  refine Met.ofW (cc := cX4_tunedNote) (maxL := 2) (ret := (some .int)) (by decide +kernel) rfl ?_
  intro p e s m args below meth c s₁ B hml hv
  obtain ⟨rfl, hsz, hP, hK, hD0, hN⟩ := hv
  have hx := B.exec
  have hb := B.bytes
  have hr := B.returns
  have hts := atoms_spec (ws := wsX4_tunedNote) B.pre
  have hown : s.vm.findClass RX4 = some m.cls := findClass_of_methodNamed B.named
  have hlocks := B.notSynchronized
  subst hsz
  have hD := hD0
  replace hP : va_P D vwCl [(p0, .inr (4, [.ref p1, .ref p2, .ref p3, .ref p4, .ref p5])), (p3, .inl (K 0, 8, .inl fb))] s.heap := hP
  have hl := lv_entry [.ref p0, .int x] (n := 2) (Nat.le_of_ble_eq_true rfl)
  rw [lg_entry_eq]
  generalize (lg_sl [.ref p0, .int x] ++ List.replicate (2 - (lg_sl [.ref p0, .int x]).length) Slot.unset).toArray = ls at hl ⊢
  have hl : lv_has ls 2 [(0, .ref p0), (1, .int x)] := hl
  have hw4 : ∀ w ∈ wsX40, w ∈ wsX4_tunedNote := fun w h => (List.mem_cons_of_mem _ (List.mem_append_right _ h))
  generalize hQ : MQ below _ _ s _ _ _ = Q
  have hE := E_w_tunedNote.eq_def x fb
  refine lv_iload_n hx hb dX4_tunedNote_0 rfl (lv_at hl 1 rfl) ?_
  refine lv_iconst (v := 0) hx hb dX4_tunedNote_1 (by decide +kernel) ?_
  refine lv_bipush (v := 7) hx hb dX4_tunedNote_2 (by decide +kernel) ?_
  refine pci (va_runSN (As := [.int x, .int 0, .int 7]) (rest := []) ⟨hx, hb, hml, hown, hts⟩ (w_within l D K x.toInt 0 7 x 0 7 s.heap.size rfl (show (0 : Int32).toInt = 0 from rfl) (show (7 : Int32).toInt = 7 from rfl)) ⟨va_cnB 3 hts gX4_tunedNote_X11_within_n41 rfl rfl rfl (nst_at hN 85 rfl) (hts _ mm_X4_tunedNote_144) (by decide +kernel) ⟨Nat.le_of_ble_eq_true rfl, Nat.le_of_ble_eq_true rfl⟩, (hts _ mm_X4_tunedNote_373), trivial⟩ (mkS hK hN (va_P.nil) (va_D.nil (A := fun _ => True))) rfl rfl hl.1 rfl (lv_room (Nat.le_of_ble_eq_true rfl)) dX4_tunedNote_4 ⟨Nat.le_of_ble_eq_true rfl, Nat.le_of_ble_eq_true rfl⟩) (fun r_77 hw => ?_)
  obtain ⟨hw, k_78, -⟩ := hw
  replace hE := hE.trans (Lt_in k_78)
  rcases hw with ⟨rfl, h_79, h_80⟩ | ⟨rfl, h_81⟩
  · replace hE := (hE).trans (if_pos rfl)
    refine lv_if_eq (tgt := 19) hx hb dX4_tunedNote_7 (by decide +kernel) (fun c_82 => absurd c_82 (by decide +kernel)) (fun c_82 => ?_)
    refine lv_aload_n hx hb dX4_tunedNote_10 rfl (lv_at hl 0 rfl) ?_
    refine va_get (ci := 4) (v := .ref p3) (C := RX4) (T := TX4) (N := 5) hx hb hts hw4 hown hK hP 0 rfl rfl 2 (by decide +kernel) (hts _ mm_X4_tunedNote_326) (fun _ h9 => h9) rfl dX4_tunedNote_11 ?_
    refine lv_iload_n hx hb dX4_tunedNote_14 rfl (lv_at hl 1 rfl) ?_
    refine va_iald hx hb hK hP 1 0 rfl rfl (i_in rfl (by omega)) dX4_tunedNote_15 ?_
    refine lv_topi (fun x_83 ex_83 => ?_)
    replace hE := hE.trans (Lt_in ex_83)
    refine lv_goto (tgt := 20) hx hb dX4_tunedNote_16 (by decide +kernel) ?_
    rw [← hQ]
    exact W.iret (v := x_83) hx hb hr (fun t ht hW => ⟨_, rfl, ⟨hE.symm, trivial⟩, ht⟩) (fun q hq => by cases hq) dX4_tunedNote_20
  · replace hE := (hE).trans (if_neg (by first | decide | (intro h9; have h8 := congrArg Int32.toInt h9; omega)))
    refine lv_if_eq (tgt := 19) hx hb dX4_tunedNote_7 (by decide +kernel) (fun c_84 => ?_) (fun c_84 => absurd (by decide +kernel) c_84)
    refine lv_iconst (v := (-1)) hx hb dX4_tunedNote_19 (by decide +kernel) ?_
    rw [← hQ]
    exact W.iret (v := (-1)) hx hb hr (fun t ht hW => ⟨_, rfl, ⟨hE.symm, trivial⟩, ht⟩) (fun q hq => by cases hq) dX4_tunedNote_20
